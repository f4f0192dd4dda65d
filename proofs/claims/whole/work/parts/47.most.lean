/-! which gangs to which gardens: sets of gangs, garden by garden, against all ways -/
def mo_T (n : Nat) (r d : Nat → Nat) (c : Nat) : Nat := rr_sum (fun k => if d k = c then r k else 0) n
def mo_v (m n : Nat) (r l : Nat → Nat) (rp : Nat → Bool) (d : Nat → Nat) : Nat := rr_sum (fun g => if rp g = true then min (12 * mo_T n r d (g + 1)) (l g) else 0) m
def mo_n (n : Nat) (d : Nat → Nat) : Nat := rr_sum (fun k => d k * 7 ^ k) n
def mo_S (n : Nat) (f : Nat → Nat) (s : Nat) : Nat := rr_sum (fun k => if s.testBit k = true then f k else 0) n
def mo_o (n : Nat) (r l : Nat → Nat) (g p : Nat) : Int := ((min (12 * mo_S n r p) (l g) : Nat) : Int) * 117649 - ((mo_S n (fun k => 7 ^ k) p * (g + 1) : Nat) : Int)
def mo_I (n g : Nat) (r l : Nat → Nat) (rp : Nat → Bool) (V : Nat → Int) : Prop := ∀ s, s < 2 ^ n → (∀ d : Nat → Nat, (∀ k, k < n → d k ≤ g) → (∀ k, k < n → d k ≠ 0 → s.testBit k = true) → (mo_v g n r l rp d : Int) * 117649 - (mo_n n d : Int) ≤ V s) ∧ ∃ d : Nat → Nat, (∀ k, k < n → d k ≤ g) ∧ (∀ k, k < n → d k ≠ 0 → s.testBit k = true) ∧ V s = (mo_v g n r l rp d : Int) * 117649 - (mo_n n d : Int)
theorem mo_sum_m {f : Nat → Nat} {c : Nat} : ∀ {n : Nat}, rr_sum (fun k => f k * c) n = rr_sum f n * c
  | 0 => by simp [rr_sum]
  | n + 1 => by rw [rr_sum_s, rr_sum_s, mo_sum_m (f := f) (n := n), Nat.add_mul]
theorem mo_sum_le {f g : Nat → Nat} : ∀ {n : Nat}, (∀ i, i < n → f i ≤ g i) → rr_sum f n ≤ rr_sum g n
  | 0, _ => Nat.le_refl _
  | n + 1, h => by
    have h1 := mo_sum_le (n := n) (fun i hi => h i (by omega))
    have h2 := h n (by omega)
    rw [rr_sum_s, rr_sum_s]
    omega
theorem mo_v_c {m n : Nat} {r l : Nat → Nat} {rp : Nat → Bool} {d d' : Nat → Nat} (h : ∀ g, g < m → mo_T n r d' (g + 1) = mo_T n r d (g + 1)) : mo_v m n r l rp d' = mo_v m n r l rp d := by
  unfold mo_v
  exact rr_sum_c (fun g hg => by rw [h g hg])
theorem mo_T_c {n : Nat} {r d d' : Nat → Nat} {c : Nat} (h : ∀ k, k < n → (d' k = c ↔ d k = c)) : mo_T n r d' c = mo_T n r d c := by
  unfold mo_T
  refine rr_sum_c (fun k hk => ?_)
  by_cases e : d k = c
  · rw [if_pos e, if_pos ((h k hk).mpr e)]
  · rw [if_neg e, if_neg (fun q => e ((h k hk).mp q))]
theorem mo_I_0 {n : Nat} {r l : Nat → Nat} {rp : Nat → Bool} : mo_I n 0 r l rp (fun _ => 0) := by
  have z : ∀ d : Nat → Nat, (∀ k, k < n → d k ≤ 0) → mo_n n d = 0 := fun d hd => by
    unfold mo_n
    refine rr_sum_z (fun k hk => ?_)
    have := hd k hk
    rw [show d k = 0 by omega, Nat.zero_mul]
  intro s hs
  refine ⟨fun d hd _ => ?_, fun _ => 0, fun _ _ => Nat.le_refl _, fun _ _ h => absurd rfl h, ?_⟩
  · rw [z d hd]
    show ((mo_v 0 n r l rp d : Nat) : Int) * 117649 - 0 ≤ 0
    have : mo_v 0 n r l rp d = 0 := rfl
    omega
  · rw [z (fun _ => 0) (fun _ _ => Nat.le_refl _)]
    have : mo_v 0 n r l rp (fun _ => 0) = 0 := rfl
    rw [this]
    rfl
theorem mo_I_skip {n g : Nat} {r l : Nat → Nat} {rp : Nat → Bool} {V : Nat → Int} (h : mo_I n g r l rp V) (hr : rp g = false) : mo_I n (g + 1) r l rp V := by
  have e : ∀ d, mo_v (g + 1) n r l rp d = mo_v g n r l rp d := fun d => by
    unfold mo_v
    rw [rr_sum_s, if_neg (by rw [hr]; decide), Nat.add_zero]
  intro s hs
  obtain ⟨h1, d, h2, h3, h4⟩ := h s hs
  refine ⟨fun d hd hd2 => ?_, d, fun k hk => Nat.le_succ_of_le (h2 k hk), h3, by rw [e]; exact h4⟩
  have q := h1 (fun k => if d k = g + 1 then 0 else d k) (fun k hk => by
    show (if d k = g + 1 then 0 else d k) ≤ g
    have := hd k hk
    split <;> omega) (fun k hk h0 => hd2 k hk (fun z => h0 (by show (if d k = g + 1 then 0 else d k) = 0; rw [z]; split <;> rfl)))
  have e1 : mo_v g n r l rp (fun k => if d k = g + 1 then 0 else d k) = mo_v g n r l rp d := mo_v_c (fun g' hg' => mo_T_c (fun k hk => by
    show (if d k = g + 1 then 0 else d k) = g' + 1 ↔ _
    split <;> omega))
  have e2 : mo_n n (fun k => if d k = g + 1 then 0 else d k) ≤ mo_n n d := by
    unfold mo_n
    refine mo_sum_le (fun k hk => Nat.mul_le_mul_right _ ?_)
    show (if d k = g + 1 then 0 else d k) ≤ d k
    split <;> omega
  rw [e1] at q
  rw [e]
  omega
def mo_mk (f : Nat → Bool) : Nat → Nat
  | 0 => 0
  | n + 1 => (if f n = true then 2 ^ n else 0) + mo_mk f n
theorem mo_mk_lt (f : Nat → Bool) : ∀ n, mo_mk f n < 2 ^ n
  | 0 => by show 0 < 2 ^ 0; decide
  | n + 1 => by
    have h := mo_mk_lt f n
    show (if f n = true then 2 ^ n else 0) + mo_mk f n < 2 ^ (n + 1)
    rw [Nat.pow_succ]
    split <;> omega
theorem mo_mk_bit (f : Nat → Bool) : ∀ n k, (mo_mk f n).testBit k = (decide (k < n) && f k)
  | 0, k => by simp [mo_mk]
  | n + 1, k => by
    have ih := mo_mk_bit f n k
    have hlt := mo_mk_lt f n
    show ((if f n = true then 2 ^ n else 0) + mo_mk f n).testBit k = _
    rcases Nat.lt_trichotomy k n with q | q | q
    · have e1 : decide (k < n + 1) = true := by simp; omega
      have e2 : decide (k < n) = true := by simp; omega
      rw [e2] at ih
      rw [e1, ← ih]
      split
      · rw [Nat.testBit_two_pow_add_gt q]
      · rw [Nat.zero_add]
    · subst q
      have e1 : decide (k < k + 1) = true := by simp
      have e3 : (mo_mk f k).testBit k = false := Nat.testBit_lt_two_pow hlt
      rw [e1, Bool.true_and]
      split
      · rename_i hf
        rw [Nat.testBit_two_pow_add_eq, e3, hf]
        rfl
      · rename_i hf
        rw [Nat.zero_add, e3]
        revert hf
        cases f k <;> simp
    · have e1 : decide (k < n + 1) = false := by simp; omega
      rw [e1, Bool.false_and]
      refine Nat.testBit_lt_two_pow (Nat.lt_of_lt_of_le (mo_mk_lt f (n + 1)) (Nat.pow_le_pow_right (by decide) q))
theorem mo_I_step {n g : Nat} {r l : Nat → Nat} {rp : Nat → Bool} {V V' : Nat → Int} (h : mo_I n g r l rp V) (hr : rp g = true) (hV : ∀ s, s < 2 ^ n → (∀ p, p &&& s = p → mo_o n r l g p + V (s ^^^ p) ≤ V' s) ∧ ∃ p, p &&& s = p ∧ V' s = mo_o n r l g p + V (s ^^^ p)) : mo_I n (g + 1) r l rp V' := by
  have e : ∀ d, mo_v (g + 1) n r l rp d = mo_v g n r l rp d + min (12 * mo_T n r d (g + 1)) (l g) := fun d => by
    unfold mo_v
    rw [rr_sum_s, if_pos hr]
  have key : ∀ (d d' : Nat → Nat) (p : Nat), (∀ k, k < n → d' k ≤ g) → (∀ k, k < n → d k = if p.testBit k = true then g + 1 else d' k) → (∀ k, k < n → p.testBit k = true → d' k = 0) → (mo_v (g + 1) n r l rp d : Int) * 117649 - (mo_n n d : Int) = mo_o n r l g p + ((mo_v g n r l rp d' : Int) * 117649 - (mo_n n d' : Int)) := by
    intro d d' p k1 k2 k3
    have a1 : mo_T n r d (g + 1) = mo_S n r p := by
      unfold mo_T mo_S
      refine rr_sum_c (fun k hk => ?_)
      rw [k2 k hk]
      have := k1 k hk
      by_cases c : p.testBit k = true
      · rw [if_pos c, if_pos c, if_pos rfl]
      · rw [if_neg c, if_neg c, if_neg (by omega)]
    have a2 : mo_v g n r l rp d = mo_v g n r l rp d' := mo_v_c (fun g' hg' => mo_T_c (fun k hk => by
      rw [k2 k hk]
      by_cases c : p.testBit k = true
      · rw [if_pos c, k3 k hk c]; omega
      · rw [if_neg c]))
    have a3 : mo_n n d = mo_n n d' + mo_S n (fun k => 7 ^ k) p * (g + 1) := by
      unfold mo_n mo_S
      rw [← mo_sum_m, ← rr_sum_a]
      refine rr_sum_c (fun k hk => ?_)
      rw [k2 k hk]
      by_cases c : p.testBit k = true
      · rw [if_pos c, if_pos c, k3 k hk c, Nat.zero_mul, Nat.zero_add, Nat.mul_comm]
      · rw [if_neg c, if_neg c, Nat.zero_mul, Nat.add_zero]
    rw [e, a1, a2, a3]
    unfold mo_o
    rw [Int.natCast_add, Int.natCast_add, Int.add_mul]
    omega
  intro s hs
  obtain ⟨v1, p, v2, v3⟩ := hV s hs
  refine ⟨fun d hd hd2 => ?_, ?_⟩
  · have hb := mo_mk_bit (fun k => decide (d k = g + 1)) n
    have hsub : mo_mk (fun k => decide (d k = g + 1)) n &&& s = mo_mk (fun k => decide (d k = g + 1)) n := by
      refine Nat.eq_of_testBit_eq (fun k => ?_)
      rw [Nat.testBit_and]
      cases c : (mo_mk (fun k => decide (d k = g + 1)) n).testBit k with
      | false => rfl
      | true =>
        rw [hb k] at c
        simp at c
        rw [hd2 k c.1 (by omega)]
        rfl
    have h1 := v1 _ hsub
    have hlt : s ^^^ mo_mk (fun k => decide (d k = g + 1)) n < 2 ^ n := Nat.xor_lt_two_pow hs (mo_mk_lt _ n)
    obtain ⟨u1, -⟩ := h _ hlt
    have u2 := u1 (fun k => if d k = g + 1 then 0 else d k) (fun k hk => by
      show (if d k = g + 1 then 0 else d k) ≤ g
      have := hd k hk
      split <;> omega) (fun k hk h0 => by
        have q1 : d k ≠ g + 1 := fun z => h0 (by show (if d k = g + 1 then 0 else d k) = 0; rw [if_pos z])
        have q2 : d k ≠ 0 := fun z => h0 (by show (if d k = g + 1 then 0 else d k) = 0; rw [if_neg q1]; exact z)
        rw [Nat.testBit_xor, hd2 k hk q2, hb k]
        simp [q1])
    have e5 := key d (fun k => if d k = g + 1 then 0 else d k) (mo_mk (fun k => decide (d k = g + 1)) n) (fun k hk => by
      show (if d k = g + 1 then 0 else d k) ≤ g
      have := hd k hk
      split <;> omega) (fun k hk => by
        rw [hb k]
        by_cases c : d k = g + 1
        · simp [hk, c]
        · simp [c]) (fun k hk c => by
        rw [hb k] at c
        simp at c
        show (if d k = g + 1 then 0 else d k) = 0
        rw [if_pos c.2])
    omega
  · have hlt : s ^^^ p < 2 ^ n := by
      refine Nat.xor_lt_two_pow hs ?_
      rw [← v2]
      exact Nat.and_lt_two_pow _ hs
    obtain ⟨-, d, d1, d2, d3⟩ := h _ hlt
    have hps : ∀ k, p.testBit k = true → s.testBit k = true := fun k hk => by
      have := congrArg (fun x => x.testBit k) v2
      simp only [Nat.testBit_and, hk, Bool.true_and] at this
      exact this
    refine ⟨fun k => if p.testBit k = true then g + 1 else d k, fun k hk => ?_, fun k hk h0 => ?_, ?_⟩
    · show (if p.testBit k = true then g + 1 else d k) ≤ g + 1
      have := d1 k hk
      split <;> omega
    · by_cases c : p.testBit k = true
      · exact hps k c
      · have h1 : d k ≠ 0 := fun z => h0 (by show (if p.testBit k = true then g + 1 else d k) = 0; rw [if_neg c]; exact z)
        have h2 := d2 k hk h1
        rw [Nat.testBit_xor] at h2
        have c2 : p.testBit k = false := by simpa using c
        rw [c2] at h2
        simpa using h2
    · rw [v3, d3]
      exact (key _ d p d1 (fun k hk => rfl) (fun k hk c => by
        refine Classical.byContradiction (fun z => ?_)
        have h2 := d2 k hk z
        rw [Nat.testBit_xor, hps k c, c] at h2
        exact absurd h2 (by decide))).symm
/-! ways -/
def mo_d (way k : Nat) : Nat := way / 7 ^ k % 7
theorem mo_n_d (way : Nat) : ∀ n, mo_n n (mo_d way) = way % 7 ^ n
  | 0 => by simp [mo_n, rr_sum, Nat.mod_one]
  | n + 1 => by
    have ih := mo_n_d way n
    unfold mo_n at ih ⊢
    rw [rr_sum_s, ih, Nat.mod_pow_succ, Nat.mul_comm (7 ^ n)]
    rfl
theorem mo_n_lt {d : Nat → Nat} : ∀ n, (∀ k, k < n → d k ≤ 6) → mo_n n d < 7 ^ n
  | 0, _ => by simp [mo_n, rr_sum]
  | n + 1, h => by
    have ih := mo_n_lt n (fun k hk => h k (by omega))
    have h6 := Nat.mul_le_mul_right (7 ^ n) (h n (by omega))
    unfold mo_n at ih ⊢
    rw [rr_sum_s, Nat.pow_succ]
    omega
theorem mo_d_n {d : Nat → Nat} : ∀ n, (∀ k, k < n → d k ≤ 6) → ∀ k, k < n → mo_d (mo_n n d) k = d k
  | 0, _, k, hk => by omega
  | n + 1, h, k, hk => by
    have ih := mo_d_n n (fun k hk => h k (by omega))
    have hlt := mo_n_lt n (fun k hk => h k (by omega))
    have e : mo_n (n + 1) d = mo_n n d + d n * 7 ^ n := rfl
    rw [e]
    unfold mo_d at ih ⊢
    rcases Nat.lt_or_ge k n with q | q
    · have ih2 := ih k q
      obtain ⟨c, hc⟩ : ∃ c, n = k + (c + 1) := ⟨n - k - 1, by omega⟩
      have e2 : d n * 7 ^ n = (d n * 7 ^ c * 7) * 7 ^ k := by
        rw [hc, Nat.pow_add, Nat.pow_succ]
        simp [Nat.mul_comm, Nat.mul_left_comm]
      rw [e2, Nat.add_mul_div_right _ _ (Nat.pow_pos (by decide)), Nat.add_mul_mod_self_right]
      exact ih2
    · have ek : k = n := by omega
      subst ek
      rw [Nat.add_mul_div_right _ _ (Nat.pow_pos (by decide)), Nat.div_eq_of_lt hlt, Nat.zero_add]
      exact Nat.mod_eq_of_lt (by have := h k (by omega); omega)
/-- the sets' worth against the least of the best ways -/
theorem mo_fin {n m : Nat} {r l : Nat → Nat} {rp : Nat → Bool} {V : Nat → Int} (hn : n ≤ 6) (hm : m ≤ 6) (h : mo_I n m r l rp V) {b M : Nat} (hb : b < 7 ^ n) (hbv : ∀ k, k < n → mo_d b k ≤ m) (hbM : mo_v m n r l rp (mo_d b) = M) (hmax : ∀ way, way < 7 ^ n → (∀ k, k < n → mo_d way k ≤ m) → mo_v m n r l rp (mo_d way) ≤ M) (hleast : ∀ way, way < b → (∀ k, k < n → mo_d way k ≤ m) → mo_v m n r l rp (mo_d way) < M) : V (2 ^ n - 1) = (M : Int) * 117649 - (b : Int) := by
  have h7 : 7 ^ n ≤ 7 ^ 6 := Nat.pow_le_pow_right (by decide) hn
  have h7' : (7 : Nat) ^ 6 = 117649 := by decide
  have h2 : 0 < 2 ^ n := Nat.pow_pos (by decide)
  obtain ⟨u, d, d1, d2, d3⟩ := h (2 ^ n - 1) (by omega)
  have u1 := u (mo_d b) hbv (fun k hk _ => by rw [Nat.testBit_two_pow_sub_one]; simp [hk])
  rw [hbM, mo_n_d, Nat.mod_eq_of_lt hb] at u1
  have d6 : ∀ k, k < n → d k ≤ 6 := fun k hk => Nat.le_trans (d1 k hk) hm
  have w1 := mo_n_lt n d6
  have w2 := mo_d_n n d6
  have w3 : mo_v m n r l rp (mo_d (mo_n n d)) = mo_v m n r l rp d := mo_v_c (fun g _ => mo_T_c (fun k hk => by rw [w2 k hk]))
  have w4 : ∀ k, k < n → mo_d (mo_n n d) k ≤ m := fun k hk => by rw [w2 k hk]; exact d1 k hk
  have m1 := hmax _ w1 w4
  have m2 := hleast (mo_n n d)
  rw [w3] at m1 m2
  rw [d3] at u1 ⊢
  have m3 : ¬ mo_n n d < b := fun q => by have := m2 q w4; omega
  omega
