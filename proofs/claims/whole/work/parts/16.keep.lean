theorem hk_u_o {τ : hk_v} {q q' : Nat × Nat} {k j : Nat} {x : Int32} (h : q'.1 ≠ q.1) : hk_u τ q k x q' j = τ q' j := if_neg (fun e => h (by rw [e.1]))
theorem hk_wh_inv {α : Type} {f : α → Option α} (I : α → Prop) (hs : ∀ s s2, I s → f s = some s2 → I s2) : ∀ (n : Nat) (s : α), I s → I (hk_wh f n s)
  | 0, _, h => h
  | n + 1, s, h => by
    cases e : f s with
    | none => rw [hk_wh_n e]; exact h
    | some s2 => rw [hk_wh_s e]; exact hk_wh_inv I hs n s2 (hs s s2 h e)
theorem T_yields_o {t : hk_v} {i : Nat} {r : Int32} {q : Nat × Nat} {k : Nat} (h : q.1 ≠ 9) : T_yields t i r q k = t q k := by
  unfold T_yields; rw [hk_u_o h, hk_u_o h]
theorem T_enter_o {t : hk_v} {i : Nat} {b p : Int32} {q : Nat × Nat} {k : Nat} (h : q.1 ≠ 10) : T_enter t i b p q k = t q k := by
  unfold T_enter; rw [hk_u_o h, hk_u_o h, hk_u_o h]
theorem T_enter_1 {t : hk_v} {i : Nat} {b p : Int32} {j : Nat} {k : Nat} (h : k < 3) : T_enter t i b p (10, j) k = t (10, j) k := by
  unfold T_enter
  simp only [hk_u_ap]
  rw [if_neg (by omega), if_neg (by omega), if_neg (by omega)]
theorem T_glay_o {t : hk_v} {h0 g b : Int32} {q : Nat × Nat} {k : Nat} (h : q.1 ≠ 3) : T_glay t h0 g b q k = t q k := by
  unfold T_glay
  split
  · rfl
  · rw [hk_u_o h, hk_u_o h]
theorem T_give_o {t : hk_v} {h0 g b : Int32} {q : Nat × Nat} {k : Nat} (h : q.1 ≠ 3) : T_give t h0 g b q k = t q k := by
  unfold T_give
  split
  · rfl
  · rw [hk_u_o h, hk_u_o h]
theorem T_take_o {Z : hk_Z} {t : hk_v} {i : Nat} {g b : Int32} {q : Nat × Nat} {k : Nat} (h1 : q.1 ≠ 11) (h2 : q.1 ≠ 13) (h3 : q.1 ≠ 14) : T_take Z t i g b q k = t q k := by
  unfold T_take
  split
  · rfl
  · split
    · rw [hk_u_o h1, hk_u_o h1, hk_u_o h3, hk_u_o h2]
    · rfl
theorem T_clear_o {t : hk_v} {i : Nat} {q : Nat × Nat} {k : Nat} (h1 : q.1 ≠ 11) : T_clear t i q k = t q k := by
  unfold T_clear; rw [hk_u_o h1, hk_u_o h1, hk_u_o h1]
theorem T_pressOne_o {t : hk_v} {d : Int32} {q : Nat × Nat} {k : Nat} (h : q.1 ≠ 4) : T_pressOne t d q k = t q k := by
  unfold T_pressOne
  split
  · rw [hk_u_o h]
  · rw [hk_u_o h, hk_u_o h, hk_u_o h]
theorem plw_o {g d : Int32} {n : Nat} {t : hk_v} {q : Nat × Nat} {k : Nat} (h : q.1 ≠ 4) : hk_wh (B_plw g d) n t q k = t q k := by
  refine hk_wh_inv (fun s => s q k = t q k) (fun s s2 hs e => ?_) n t rfl
  unfold B_plw at e
  split at e
  · cases e
  · have e2 := Option.some.inj e
    rw [← e2, hk_u_o h, hk_u_o h, T_pressOne_o h]
    exact hs
theorem T_play_o {t : hk_v} {g b d : Int32} {q : Nat × Nat} {k : Nat} (h : q.1 ≠ 4) : T_play t g b d q k = t q k := by
  unfold T_play
  split
  · split
    · rw [hk_u_o h, plw_o h, hk_u_o h, hk_u_o h]
    · rw [plw_o h, hk_u_o h, hk_u_o h]
  · rfl
/-- the press's numbers behind its loop -/
theorem plw_res (g d : Int32) : ∀ (n : Nat) (t : hk_v) (k p : Nat), t (4, 0) 3 = nI k → k < 20 * n → t (4, 0) 2 = nI p → p + n < 2 ^ 30 → k < 2 ^ 30 → hk_wh (B_plw g d) n t (4, 0) 3 = nI (k % 20) ∧ hk_wh (B_plw g d) n t (4, 0) 2 = nI (p + k / 20)
  | 0, _, _, _, _, h, _, _, _ => by omega
  | n + 1, t, k, p, hk, hn, hp, hpn, hb => by
    by_cases c : t (4, 0) 3 < 20
    · have e : B_plw g d t = none := by simp only [B_plw, if_pos c]
      rw [hk_wh_n e, hk, hp]
      have : k < 20 := by
        rcases Nat.lt_or_ge k 20 with q | q
        · exact q
        · rw [hk] at c; exact absurd c (show ¬ nI k < nI 20 from nI_nlt q (by omega))
      rw [Nat.mod_eq_of_lt this, Nat.div_eq_of_lt this]
      exact ⟨rfl, rfl⟩
    · have e : B_plw g d t = some (hk_u (hk_u (T_pressOne t d) (4, 0) 4 (1 <<< (g &&& 31))) (4, 0) 3 (T_pressOne t d (4, 0) 3 - 20)) := by simp only [B_plw, if_neg c]
      rw [hk_wh_s e]
      have h20 : 20 ≤ k := by
        rcases Nat.lt_or_ge k 20 with q | q
        · rw [hk] at c; exact absurd (show nI k < nI 20 from nI_lt q (by omega)) c
        · exact q
      have := plw_res g d n (hk_u (hk_u (T_pressOne t d) (4, 0) 4 (1 <<< (g &&& 31))) (4, 0) 3 (T_pressOne t d (4, 0) 3 - 20)) (k - 20) (p + 1) (by
          simp only [hk_u_ap, and_self, if_true]
          rw [pressOne_3, hk, show (20 : Int32) = nI 20 from rfl, pk_sub h20]) (by omega) (by
          simp only [hk_u_ap]
          rw [if_neg (by decide), if_neg (by decide), pressOne_2, hp, nI_1]) (by omega) (by omega)
      rw [this.1, this.2]
      refine ⟨congrArg nI (by omega), congrArg nI (by omega)⟩
def hk_ps (t : hk_v) (P : Nat) : Prop := ∃ k p : Nat, t (4, 0) 3 = nI k ∧ k < 20 ∧ t (4, 0) 2 = nI p ∧ p ≤ P
theorem hk_ps.le {t : hk_v} {P P' : Nat} (h : hk_ps t P) (hP : P ≤ P') : hk_ps t P' := by
  obtain ⟨k, p, h1, h2, h3, h4⟩ := h
  exact ⟨k, p, h1, h2, h3, by omega⟩
theorem hk_ps.of {t t' : hk_v} {P : Nat} (h : hk_ps t P) (e : ∀ k, t' (4, 0) k = t (4, 0) k) : hk_ps t' P := by
  obtain ⟨k, p, h1, h2, h3, h4⟩ := h
  exact ⟨k, p, by rw [e]; exact h1, h2, by rw [e]; exact h3, h4⟩
theorem play_pre {t : hk_v} {P : Nat} (h : hk_ps t P) (hP : P + 200 < 2 ^ 30) {x : Int32} (hb : ∃ b, b ≤ 200 ∧ x = nI b) : ∃ k p : Nat, t (4, 0) 3 + x = nI k ∧ k < 4000 ∧ t (4, 0) 2 = nI p ∧ p + 200 < 2 ^ 30 := by
  obtain ⟨k, p, h1, h2, h3, h4⟩ := h
  obtain ⟨b, hb, rfl⟩ := hb
  exact ⟨k + b, p, by rw [h1, nI_add], by omega, h3, by omega⟩
theorem play_ps {t : hk_v} {P : Nat} (h : hk_ps t P) (hP : P + 200 < 2 ^ 30) {x : Int32} (hb : ∃ b, b ≤ 200 ∧ x = nI b) (g d : Int32) : hk_ps (T_play t g x d) (P + 11) := by
  obtain ⟨k, p, h1, h2, h3, h4⟩ := h
  obtain ⟨b, hb, rfl⟩ := hb
  unfold T_play
  split
  · have := plw_res g d 200 (hk_u (hk_u t (4, 0) 4 (t (4, 0) 4 ||| 1 <<< (g &&& 31))) (4, 0) 3 (t (4, 0) 3 + nI b)) (k + b) p (by
      simp only [hk_u_ap, and_self, if_true]
      rw [h1, nI_add]) (by omega) (by
      simp only [hk_u_ap]
      rw [if_neg (by decide), if_neg (by decide), h3]) (by omega) (by omega)
    split
    · refine ⟨(k + b) % 20, p + (k + b) / 20, ?_, by omega, ?_, by omega⟩
      · rw [← this.1]; exact if_neg (by decide)
      · rw [← this.2]; exact if_neg (by decide)
    · exact ⟨(k + b) % 20, p + (k + b) / 20, this.1, by omega, this.2, by omega⟩
  · exact ⟨k, p, h1, h2, h3, by omega⟩
/-- a loop that counts down: to 0, to 1 -/
def hk_dn {α : Type} (f : Nat → α → α) : Nat → α → α
  | 0, s => s
  | r + 1, s => hk_dn f r (f r s)
def hk_dp {α : Type} (f : Nat → α → α) : Nat → α → α
  | 0, s => s
  | r + 1, s => hk_dp f r (f (r + 1) s)
theorem hk_dn_s {α : Type} (f : Nat → α → α) (r : Nat) (s : α) : hk_dn f (r + 1) s = hk_dn f r (f r s) := rfl
theorem hk_dp_s {α : Type} (f : Nat → α → α) (r : Nat) (s : α) : hk_dp f (r + 1) s = hk_dp f r (f (r + 1) s) := rfl
theorem hk_it_fix {α : Type} {f : Nat → α → α} {s : α} (h : ∀ i, f i s = s) : ∀ (n i : Nat), hk_it f n i s = s
  | 0, _ => rfl
  | n + 1, i => by rw [hk_it_s, h i]; exact hk_it_fix h n (i + 1)
theorem hk_dn_fix {α : Type} {f : Nat → α → α} {s : α} (h : ∀ i, f i s = s) : ∀ (n : Nat), hk_dn f n s = s
  | 0 => rfl
  | n + 1 => by rw [hk_dn_s, h n]; exact hk_dn_fix h n
theorem hk_dn_inv {α : Type} {f : Nat → α → α} (I : Nat → α → Prop) : ∀ (n : Nat) (s : α), I n s → (∀ j t, j < n → I (j + 1) t → I j (f j t)) → I 0 (hk_dn f n s)
  | 0, _, h, _ => h
  | n + 1, s, h, hs => by
    rw [hk_dn_s]
    exact hk_dn_inv I n (f n s) (hs n s (Nat.lt_succ_self n) h) (fun j t hj => hs j t (by omega))
theorem hk_m1 (x : Int32) : x + Int32.ofInt (-1) = x - 1 := by
  rw [Int32.sub_eq_add_neg]; rfl
