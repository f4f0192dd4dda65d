/-! the system's sets of gangs -/
def mo_chk (s : Nat) : Bool := (List.range 64).all (fun a => !(a &&& s == a) || (a == 0) || (List.range a).all (fun p => !(p &&& s == p) || decide (p ≤ (a - 1) &&& s)))
theorem mo_chk_ok : (List.range 64).all mo_chk = true := by decide +kernel
theorem mo_sub {s a p : Nat} (hs : s < 64) (ha : a < 64) (h1 : a &&& s = a) (h0 : 0 < a) (hp : p < a) (h2 : p &&& s = p) : p ≤ (a - 1) &&& s := by
  have h := List.all_eq_true.mp mo_chk_ok s (List.mem_range.mpr hs)
  have h3 := List.all_eq_true.mp h a (List.mem_range.mpr ha)
  have e1 : (a &&& s == a) = true := by simp [h1]
  have e2 : (a == 0) = false := by simp; omega
  rw [e1, e2] at h3
  have h4 : (List.range a).all (fun p => !(p &&& s == p) || decide (p ≤ (a - 1) &&& s)) = true := h3
  have h5 := List.all_eq_true.mp h4 p (List.mem_range.mpr hp)
  have e3 : (p &&& s == p) = true := by simp [h2]
  rw [e3] at h5
  simpa using h5
theorem mo_bits_ok : ∀ s, s < 64 → ∀ p, p < 64 → nI s ^^^ nI p = nI (s ^^^ p) ∧ nI p &&& nI s = nI (p &&& s) := by decide +kernel
theorem mo_S_le {n : Nat} {f : Nat → Nat} {s B : Nat} (h : ∀ k, k < n → f k ≤ B) : mo_S n f s ≤ n * B := by
  unfold mo_S
  refine rr_sum_b (fun k hk => ?_)
  split
  · exact h k hk
  · omega
theorem mo_P_lt {n : Nat} (hn : n ≤ 6) (s : Nat) : mo_S n (fun k => 7 ^ k) s ≤ 117648 := by
  have h1 : mo_S n (fun k => 7 ^ k) s ≤ mo_n n (fun _ => 1) := by
    unfold mo_S mo_n
    refine mo_sum_le (fun k hk => ?_)
    show (if s.testBit k = true then 7 ^ k else 0) ≤ 1 * 7 ^ k
    split <;> omega
  have h2 := mo_n_lt (d := fun _ => 1) n (fun _ _ => by omega)
  have h3 : 7 ^ n ≤ 7 ^ 6 := Nat.pow_le_pow_right (by decide) hn
  have h4 : (7 : Nat) ^ 6 = 117649 := by decide
  omega
theorem mo_S_0 {n : Nat} {f : Nat → Nat} : mo_S n f 0 = 0 := by
  unfold mo_S
  exact rr_sum_z (fun k _ => by simp)
theorem mo_o_0 {n g : Nat} {r l : Nat → Nat} : mo_o n r l g 0 = 0 := by
  unfold mo_o
  rw [mo_S_0, mo_S_0, Nat.mul_zero, Nat.zero_min, Nat.zero_mul]
  rfl
section MOC
variable {n g B : Nat} {t : hk_v} {r l : Nat → Nat} {V : Nat → Int} {s : Nat}
def mo_F (n : Nat) (r : Nat → Nat) (t : hk_v) : Prop := (∀ p, p < 2 ^ n → t (8, 1) p = nI (mo_S n r p)) ∧ (∀ p, p < 2 ^ n → t (8, 2) p = nI (mo_S n (fun k => 7 ^ k) p))
theorem mo_own (hn : n ≤ 6) (hg : g < 6) (hr : ∀ k, k < n → r k ≤ 30) (hl : l g ≤ 5000) (hF : mo_F n r t) (hs : s < 2 ^ n) {p : Nat} (hp : p < 2 ^ n) {y : Int32} (hy : t (8, 3) (s ^^^ p) = y) (hy2 : 0 ≤ y.toInt ∧ y.toInt ≤ 1600000000) : ((((if nI (l g) < ((t (8, 1) (nI p).toNatClampNeg) * 12) then nI (l g) else ((t (8, 1) (nI p).toNatClampNeg) * 12)) * 117649) - ((t (8, 2) (nI p).toNatClampNeg) * (nI g + 1))) + (t (8, 3) (((nI s) ^^^ nI p).toNatClampNeg))).toInt = mo_o n r l g p + y.toInt ∧ mo_o n r l g p ≤ 254121840 := by
  have h64 : 2 ^ n ≤ 64 := by
    have : 2 ^ n ≤ 2 ^ 6 := Nat.pow_le_pow_right (by decide) hn
    omega
  have hx : s ^^^ p < 64 := Nat.lt_of_lt_of_le (Nat.xor_lt_two_pow hs hp) h64
  have e1 : (nI p).toNatClampNeg = p := nI_clamp (by omega)
  have e2 : ((nI s) ^^^ nI p).toNatClampNeg = s ^^^ p := by
    rw [(mo_bits_ok s (by omega) p (by omega)).1]
    exact nI_clamp (by omega)
  have hR : mo_S n r p ≤ 180 := by
    have := mo_S_le (n := n) (f := r) (s := p) (B := 30) hr
    omega
  have hP := mo_P_lt hn p
  rw [e1, e2, hy, hF.1 p hp, hF.2 p hp, nI_1, show (12 : Int32) = nI 12 from rfl, pk_mul, pk_mul]
  have em : (if nI (l g) < nI (mo_S n r p * 12) then nI (l g) else nI (mo_S n r p * 12)) = nI (min (12 * mo_S n r p) (l g)) := by
    rw [Nat.mul_comm]
    rcases Nat.lt_or_ge (l g) (12 * mo_S n r p) with q | q
    · rw [if_pos (nI_lt q (by omega)), Nat.min_eq_right (by omega)]
    · rw [if_neg (nI_nlt q (by omega)), Nat.min_eq_left q]
  have hmin : min (12 * mo_S n r p) (l g) ≤ 2160 := by omega
  have hmul : mo_S n (fun k => 7 ^ k) p * (g + 1) ≤ 117648 * 6 := Nat.mul_le_mul hP (by omega)
  rw [em, show (117649 : Int32) = nI 117649 from rfl, pk_mul]
  have e3 := pk_sub_toInt (a := min (12 * mo_S n r p) (l g) * 117649) (b := mo_S n (fun k => 7 ^ k) p * (g + 1)) (by omega) (by omega)
  have e4 : mo_o n r l g p = ((min (12 * mo_S n r p) (l g) * 117649 : Nat) : Int) - ((mo_S n (fun k => 7 ^ k) p * (g + 1) : Nat) : Int) := by
    unfold mo_o
    rw [Int.natCast_mul]
    rfl
  generalize mo_S n (fun k => 7 ^ k) p * (g + 1) = w at *
  generalize min (12 * mo_S n r p) (l g) = u at *
  refine ⟨?_, by omega⟩
  rw [hk_addI (by rw [e3]; omega) (by rw [e3]; omega), e3, e4]
theorem mo_offp (hn : n ≤ 6) (hg : g < 6) (hr : ∀ k, k < n → r k ≤ 30) (hl : l g ≤ 5000) (hF : mo_F n r t) (hs : s < 2 ^ n) (hV : ∀ p, p ≤ s → (t (8, 3) p).toInt = V p ∧ 0 ≤ V p ∧ V p ≤ 1600000000) : ∀ (fuel a : Nat) (best : Int32), a < fuel → a ≤ s → a &&& s = a → best.toInt ≤ (hk_wh (B_offp s (nI g) (nI (l g)) t) fuel (best, nI a)).1.toInt ∧ (∀ p, 0 < p → p ≤ a → p &&& s = p → mo_o n r l g p + V (s ^^^ p) ≤ (hk_wh (B_offp s (nI g) (nI (l g)) t) fuel (best, nI a)).1.toInt) ∧ ((hk_wh (B_offp s (nI g) (nI (l g)) t) fuel (best, nI a)).1 = best ∨ ∃ p, 0 < p ∧ p ≤ a ∧ p &&& s = p ∧ (hk_wh (B_offp s (nI g) (nI (l g)) t) fuel (best, nI a)).1.toInt = mo_o n r l g p + V (s ^^^ p))
  | 0, a, best, h, _, _ => by omega
  | fuel + 1, a, best, hf, ha, has => by
    have h64 : 2 ^ n ≤ 64 := by
      have : 2 ^ n ≤ 2 ^ 6 := Nat.pow_le_pow_right (by decide) hn
      omega
    rcases Nat.eq_zero_or_pos a with q | q
    · subst q
      have e : B_offp s (nI g) (nI (l g)) t (best, nI 0) = none := by
        simp only [B_offp]
        rw [if_pos (by decide)]
      rw [hk_wh_n e]
      exact ⟨Int.le_refl _, fun p h1 h2 => by omega, Or.inl rfl⟩
    · have hxs : s ^^^ a ≤ s := by
        have : a &&& s = a := has
        have hle : s ^^^ a ≤ s := by
          refine Classical.byContradiction (fun z => ?_)
          have hsub : s ^^^ a = s &&& (s ^^^ a) := by
            refine Nat.eq_of_testBit_eq (fun k => ?_)
            have hk := congrArg (fun x => x.testBit k) has
            simp only [Nat.testBit_and] at hk
            rw [Nat.testBit_and, Nat.testBit_xor]
            revert hk
            cases s.testBit k <;> cases a.testBit k <;> simp
          have h2 : s &&& (s ^^^ a) ≤ s := Nat.and_le_left
          omega
        exact hle
      obtain ⟨v1, v2, v3⟩ := hV (s ^^^ a) hxs
      obtain ⟨o1, o2⟩ := mo_own (s := s) (p := a) hn hg hr hl hF hs (by omega) rfl (by rw [v1]; exact ⟨v2, v3⟩)
      rw [v1] at o1
      have e : B_offp s (nI g) (nI (l g)) t (best, nI a) = some (if best < ((((if nI (l g) < ((t (8, 1) (nI a).toNatClampNeg) * 12) then nI (l g) else ((t (8, 1) (nI a).toNatClampNeg) * 12)) * 117649) - ((t (8, 2) (nI a).toNatClampNeg) * (nI g + 1))) + (t (8, 3) (((nI s) ^^^ nI a).toNatClampNeg))) then ((((if nI (l g) < ((t (8, 1) (nI a).toNatClampNeg) * 12) then nI (l g) else ((t (8, 1) (nI a).toNatClampNeg) * 12)) * 117649) - ((t (8, 2) (nI a).toNatClampNeg) * (nI g + 1))) + (t (8, 3) (((nI s) ^^^ nI a).toNatClampNeg))) else best, nI ((a - 1) &&& s)) := by
        simp only [B_offp]
        rw [if_neg (nI_nle q (by omega)), show (1 : Int32) = nI 1 from rfl, pk_sub (by omega), (mo_bits_ok s (by omega) (a - 1) (by omega)).2]
      rw [hk_wh_s e]
      generalize ((((if nI (l g) < ((t (8, 1) (nI a).toNatClampNeg) * 12) then nI (l g) else ((t (8, 1) (nI a).toNatClampNeg) * 12)) * 117649) - ((t (8, 2) (nI a).toNatClampNeg) * (nI g + 1))) + (t (8, 3) (((nI s) ^^^ nI a).toNatClampNeg))) = E at o1
      have hlt : (a - 1) &&& s ≤ a - 1 := Nat.and_le_left
      have hass : ((a - 1) &&& s) &&& s = (a - 1) &&& s := by rw [Nat.and_assoc, Nat.and_self]
      obtain ⟨i1, i2, i3⟩ := mo_offp hn hg hr hl hF hs hV fuel ((a - 1) &&& s) (if best < E then E else best) (by omega) (by omega) hass
      generalize (hk_wh (B_offp s (nI g) (nI (l g)) t) fuel (if best < E then E else best, nI ((a - 1) &&& s))).1 = X at i1 i2 i3
      have hm : best.toInt ≤ (if best < E then E else best).toInt ∧ E.toInt ≤ (if best < E then E else best).toInt := by
        split
        · rename_i c
          rw [Int32.lt_iff_toInt_lt] at c
          omega
        · rename_i c
          rw [Int32.lt_iff_toInt_lt] at c
          omega
      refine ⟨by omega, fun p p1 p2 p3 => ?_, ?_⟩
      · rcases Nat.lt_or_ge p a with c | c
        · exact i2 p p1 (mo_sub (by omega) (by omega) has q c p3) p3
        · have : p = a := by omega
          subst this
          omega
      · rcases i3 with i3 | ⟨p, p1, p2, p3, p4⟩
        · by_cases c : best < E
          · rw [if_pos c] at i3
            exact Or.inr ⟨a, q, Nat.le_refl _, has, by rw [i3]; exact o1⟩
          · rw [if_neg c] at i3
            exact Or.inl i3
        · exact Or.inr ⟨p, p1, by omega, p3, p4⟩
def mo_Pm (n : Nat) (r l : Nat → Nat) (g : Nat) (V : Nat → Int) (s : Nat) (x : Int) : Prop := (∀ p, p &&& s = p → mo_o n r l g p + V (s ^^^ p) ≤ x) ∧ ∃ p, p &&& s = p ∧ x = mo_o n r l g p + V (s ^^^ p)
theorem mo_offer (hn : n ≤ 6) (hg : g < 6) (hr : ∀ k, k < n → r k ≤ 30) (hl : l g ≤ 5000) : ∀ (s : Nat) (t : hk_v), s < 2 ^ n → mo_F n r t → (∀ p, p ≤ s → (t (8, 3) p).toInt = V p ∧ 0 ≤ V p ∧ V p ≤ 1600000000) → (∀ p, p ≤ s → mo_Pm n r l g V p (hk_dp (B_offer (nI g) (nI (l g))) s t (8, 3) p).toInt) ∧ (∀ p, s < p → hk_dp (B_offer (nI g) (nI (l g))) s t (8, 3) p = t (8, 3) p) ∧ (∀ q k, q ≠ (8, 3) → hk_dp (B_offer (nI g) (nI (l g))) s t q k = t q k)
  | 0, t, _, hF, hV => by
    refine ⟨fun p hp => ?_, fun _ _ => rfl, fun _ _ _ => rfl⟩
    have : p = 0 := by omega
    subst this
    show mo_Pm n r l g V 0 (t (8, 3) 0).toInt
    rw [(hV 0 (Nat.le_refl _)).1]
    refine ⟨fun p hp => ?_, 0, rfl, ?_⟩
    · rw [Nat.and_zero] at hp
      subst hp
      rw [mo_o_0, Nat.xor_self]
      omega
    · rw [mo_o_0, Nat.xor_self]
      omega
  | s + 1, t, hs, hF, hV => by
    rw [hk_dp_s]
    have h64 : 2 ^ n ≤ 64 := by
      have : 2 ^ n ≤ 2 ^ 6 := Nat.pow_le_pow_right (by decide) hn
      omega
    obtain ⟨x1, x2, x3⟩ := mo_offp hn hg hr hl hF hs hV 64 (s + 1) (t (8, 3) (s + 1)) (by omega) (Nat.le_refl _) (Nat.and_self _)
    have eB : B_offer (nI g) (nI (l g)) (s + 1) t = hk_u t (8, 3) (s + 1) (hk_wh (B_offp (s + 1) (nI g) (nI (l g)) t) 64 (t (8, 3) (s + 1), nI (s + 1))).1 := rfl
    rw [eB]
    generalize (hk_wh (B_offp (s + 1) (nI g) (nI (l g)) t) 64 (t (8, 3) (s + 1), nI (s + 1))).1 = X at x1 x2 x3
    have u1 : ∀ q k, q ≠ (8, 3) → hk_u t (8, 3) (s + 1) X q k = t q k := fun q k h => if_neg (fun e => h e.1)
    have u2 : ∀ p, p ≠ s + 1 → hk_u t (8, 3) (s + 1) X (8, 3) p = t (8, 3) p := fun p h => if_neg (fun e => h e.2)
    have u3 : hk_u t (8, 3) (s + 1) X (8, 3) (s + 1) = X := if_pos ⟨rfl, rfl⟩
    obtain ⟨i1, i2, i3⟩ := mo_offer hn hg hr hl s (hk_u t (8, 3) (s + 1) X) (by omega) ⟨fun p hp => by rw [u1 _ _ (by decide)]; exact hF.1 p hp, fun p hp => by rw [u1 _ _ (by decide)]; exact hF.2 p hp⟩ (fun p hp => by rw [u2 p (by omega)]; exact hV p (by omega))
    refine ⟨fun p hp => ?_, fun p hp => ?_, fun q k hq => ?_⟩
    · rcases Nat.lt_or_ge s p with c | c
      · have : p = s + 1 := by omega
        subst this
        rw [i2 _ c, u3]
        have hv := hV (s + 1) (Nat.le_refl _)
        rw [hv.1] at x1
        refine ⟨fun p hp => ?_, ?_⟩
        · rcases Nat.eq_zero_or_pos p with z | z
          · subst z
            rw [mo_o_0, Nat.xor_zero]
            omega
          · exact x2 p z (by rw [← hp]; exact Nat.and_le_right) hp
        · rcases x3 with x3 | ⟨p, p1, p2, p3, p4⟩
          · refine ⟨0, Nat.zero_and _, ?_⟩
            rw [mo_o_0, Nat.xor_zero, x3, hv.1]
            omega
          · exact ⟨p, p3, p4⟩
      · exact i1 p c
    · rw [i2 p (by omega), u2 p (by omega)]
    · rw [i3 q k hq, u1 q k hq]
end MOC
/-! the sets are made -/
theorem mo_addG {k : Nat} {ra pl : Int32} {t : hk_v} : ∀ i, i ≤ k → (∀ x, hk_it (B_addGang k ra pl) i 0 t (8, 1) x = if k ≤ x ∧ x < k + i then t (8, 1) (x - k) + ra else t (8, 1) x) ∧ (∀ x, hk_it (B_addGang k ra pl) i 0 t (8, 2) x = if k ≤ x ∧ x < k + i then t (8, 2) (x - k) + pl else t (8, 2) x) ∧ (∀ x, hk_it (B_addGang k ra pl) i 0 t (8, 3) x = if k ≤ x ∧ x < k + i then 0 else t (8, 3) x) ∧ (∀ q j, q ≠ (8, 1) → q ≠ (8, 2) → q ≠ (8, 3) → hk_it (B_addGang k ra pl) i 0 t q j = t q j)
  | 0, _ => ⟨fun x => by rw [if_neg (by omega)]; rfl, fun x => by rw [if_neg (by omega)]; rfl, fun x => by rw [if_neg (by omega)]; rfl, fun _ _ _ _ _ => rfl⟩
  | i + 1, hi => by
    obtain ⟨h1, h2, h3, h4⟩ := mo_addG (k := k) (ra := ra) (pl := pl) (t := t) i (by omega)
    rw [hk_it_last, Nat.zero_add]
    have e1 := h1 i
    have e2 := h2 i
    rw [if_neg (by omega)] at e1 e2
    generalize hk_it (B_addGang k ra pl) i 0 t = t1 at h1 h2 h3 h4 e1 e2
    have eB : B_addGang k ra pl i t1 = hk_u (hk_u (hk_u t1 (8, 1) (k + i) (t (8, 1) i + ra)) (8, 2) (k + i) (t (8, 2) i + pl)) (8, 3) (k + i) 0 := by
      unfold B_addGang
      rw [e1, e2]
    rw [eB]
    refine ⟨fun x => ?_, fun x => ?_, fun x => ?_, fun q j q1 q2 q3 => ?_⟩
    · by_cases c : x = k + i
      · subst c
        rw [if_pos (by omega), show k + i - k = i by omega]
        simp [hk_u_ap]
      · have e : (hk_u (hk_u (hk_u t1 (8, 1) (k + i) (t (8, 1) i + ra)) (8, 2) (k + i) (t (8, 2) i + pl)) (8, 3) (k + i) 0) (8, 1) x = t1 (8, 1) x := by simp [hk_u_ap, c]
        rw [e, h1 x]
        by_cases d : k ≤ x ∧ x < k + i
        · rw [if_pos d, if_pos (by omega)]
        · rw [if_neg d, if_neg (by omega)]
    · by_cases c : x = k + i
      · subst c
        rw [if_pos (by omega), show k + i - k = i by omega]
        simp [hk_u_ap]
      · have e : (hk_u (hk_u (hk_u t1 (8, 1) (k + i) (t (8, 1) i + ra)) (8, 2) (k + i) (t (8, 2) i + pl)) (8, 3) (k + i) 0) (8, 2) x = t1 (8, 2) x := by simp [hk_u_ap, c]
        rw [e, h2 x]
        by_cases d : k ≤ x ∧ x < k + i
        · rw [if_pos d, if_pos (by omega)]
        · rw [if_neg d, if_neg (by omega)]
    · by_cases c : x = k + i
      · subst c
        rw [if_pos (by omega)]
        simp [hk_u_ap]
      · have e : (hk_u (hk_u (hk_u t1 (8, 1) (k + i) (t (8, 1) i + ra)) (8, 2) (k + i) (t (8, 2) i + pl)) (8, 3) (k + i) 0) (8, 3) x = t1 (8, 3) x := by simp [hk_u_ap, c]
        rw [e, h3 x]
        by_cases d : k ≤ x ∧ x < k + i
        · rw [if_pos d, if_pos (by omega)]
        · rw [if_neg d, if_neg (by omega)]
    · simp only [hk_u_ap, q1, q2, q3, false_and, if_false]
      exact h4 q j q1 q2 q3
theorem mo_S_low {j s : Nat} {f : Nat → Nat} (hs : s < 2 ^ j) : mo_S (j + 1) f s = mo_S j f s := by
  unfold mo_S
  rw [rr_sum_s, if_neg (by rw [Nat.testBit_lt_two_pow hs]; decide), Nat.add_zero]
theorem mo_S_high {j i : Nat} {f : Nat → Nat} (hi : i < 2 ^ j) : mo_S (j + 1) f (2 ^ j + i) = mo_S j f i + f j := by
  unfold mo_S
  rw [rr_sum_s, if_pos (by rw [Nat.testBit_two_pow_add_eq, Nat.testBit_lt_two_pow hi]; rfl)]
  congr 1
  exact rr_sum_c (fun k hk => by rw [Nat.testBit_two_pow_add_gt hk])
theorem mo_begin {n : Nat} {r : Nat → Nat} {τ : hk_v} (hn : n ≤ 6) (hr : ∀ k, k < n → τ (10, k) 0 = nI (r k)) (z1 : τ (8, 1) 0 = 0) (z2 : τ (8, 2) 0 = 0) : ∀ j, j ≤ n → (hk_it B_begin j 0 (1, (hk_u (hk_u τ (8, 0) 3 1) (8, 3) 0 0))).1 = nI (7 ^ j) ∧ (hk_it B_begin j 0 (1, (hk_u (hk_u τ (8, 0) 3 1) (8, 3) 0 0))).2 (8, 0) 3 = nI (2 ^ j) ∧ (∀ s, s < 2 ^ j → (hk_it B_begin j 0 (1, (hk_u (hk_u τ (8, 0) 3 1) (8, 3) 0 0))).2 (8, 1) s = nI (mo_S j r s) ∧ (hk_it B_begin j 0 (1, (hk_u (hk_u τ (8, 0) 3 1) (8, 3) 0 0))).2 (8, 2) s = nI (mo_S j (fun k => 7 ^ k) s) ∧ (hk_it B_begin j 0 (1, (hk_u (hk_u τ (8, 0) 3 1) (8, 3) 0 0))).2 (8, 3) s = 0) ∧ (∀ q k, q.1 ≠ 8 → (hk_it B_begin j 0 (1, (hk_u (hk_u τ (8, 0) 3 1) (8, 3) 0 0))).2 q k = τ q k)
  | 0, _ => by
    refine ⟨rfl, by simp [hk_it_0, hk_u_ap]; rfl, fun s hs => ?_, fun q k hq => ?_⟩
    · have : s = 0 := by omega
      subst this
      rw [hk_it_0]
      exact ⟨by simp [hk_u_ap, z1]; rfl, by simp [hk_u_ap, z2]; rfl, by simp [hk_u_ap]⟩
    · rw [hk_it_0]
      show hk_u (hk_u τ (8, 0) 3 1) (8, 3) 0 0 q k = τ q k
      rw [hk_u_o hq, hk_u_o hq]
  | j + 1, hj => by
    obtain ⟨h1, h2, h3, h4⟩ := mo_begin hn hr z1 z2 j (by omega)
    rw [hk_it_last, Nat.zero_add]
    generalize hk_it B_begin j 0 (1, (hk_u (hk_u τ (8, 0) 3 1) (8, 3) 0 0)) = S at h1 h2 h3 h4
    obtain ⟨pl, t⟩ := S
    simp only at h1 h2 h3 h4
    have er : t (10, j) 0 = nI (r j) := by rw [h4 (10, j) 0 (show (10 : Nat) ≠ 8 by decide)]; exact hr j (by omega)
    have h64 : 2 ^ (j + 1) ≤ 64 := by
      have : 2 ^ (j + 1) ≤ 2 ^ 6 := Nat.pow_le_pow_right (by decide) (by omega)
      omega
    have e2 : 2 * 2 ^ j = 2 ^ (j + 1) := by rw [Nat.pow_succ, Nat.mul_comm]
    have eB : B_begin j (pl, t) = (pl * 7, hk_u (hk_it (B_addGang (2 ^ j) (nI (r j)) pl) (2 ^ j) 0 t) (8, 0) 3 (nI (2 ^ (j + 1)))) := by
      simp only [B_begin, T_addGang]
      rw [er, e2, if_neg (show ¬ (64 : Int32) < nI (2 ^ (j + 1)) from nI_nlt (a := 64) h64 (by decide))]
    obtain ⟨g1, g2, g3, g4⟩ := mo_addG (k := 2 ^ j) (ra := nI (r j)) (pl := pl) (t := t) (2 ^ j) (Nat.le_refl _)
    rw [eB]
    generalize hk_it (B_addGang (2 ^ j) (nI (r j)) pl) (2 ^ j) 0 t = t1 at g1 g2 g3 g4
    refine ⟨?_, by simp [hk_u_ap], fun s hs => ?_, fun q k hq => ?_⟩
    · show pl * 7 = nI (7 ^ (j + 1))
      rw [h1, show (7 : Int32) = nI 7 from rfl, pk_mul, Nat.pow_succ]
    · have u1 : hk_u t1 (8, 0) 3 (nI (2 ^ (j + 1))) (8, 1) s = t1 (8, 1) s := by simp [hk_u_ap]
      have u2 : hk_u t1 (8, 0) 3 (nI (2 ^ (j + 1))) (8, 2) s = t1 (8, 2) s := by simp [hk_u_ap]
      have u3 : hk_u t1 (8, 0) 3 (nI (2 ^ (j + 1))) (8, 3) s = t1 (8, 3) s := by simp [hk_u_ap]
      show hk_u t1 (8, 0) 3 (nI (2 ^ (j + 1))) (8, 1) s = _ ∧ hk_u t1 (8, 0) 3 (nI (2 ^ (j + 1))) (8, 2) s = _ ∧ hk_u t1 (8, 0) 3 (nI (2 ^ (j + 1))) (8, 3) s = _
      rw [u1, u2, u3, g1, g2, g3]
      rcases Nat.lt_or_ge s (2 ^ j) with c | c
      · rw [if_neg (by omega), if_neg (by omega), if_neg (by omega), mo_S_low c, mo_S_low c]
        exact h3 s c
      · rw [if_pos (by omega), if_pos (by omega), if_pos (by omega)]
        obtain ⟨i, hi⟩ : ∃ i, s = 2 ^ j + i := ⟨s - 2 ^ j, by omega⟩
        subst hi
        have ci : i < 2 ^ j := by omega
        obtain ⟨f1, f2, f3⟩ := h3 i ci
        rw [show 2 ^ j + i - 2 ^ j = i by omega, f1, f2, h1, nI_add, nI_add, mo_S_high ci, mo_S_high ci]
        exact ⟨rfl, rfl, rfl⟩
    · show hk_u t1 (8, 0) 3 (nI (2 ^ (j + 1))) q k = τ q k
      rw [hk_u_o hq, g4 q k (fun e => hq (by rw [e])) (fun e => hq (by rw [e])) (fun e => hq (by rw [e]))]
      exact h4 q k hq
