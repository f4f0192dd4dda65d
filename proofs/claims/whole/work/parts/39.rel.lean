/-! the relation between the system's ints and the reference's, and what leaves it as it is -/
def rr_sum (f : Nat → Nat) : Nat → Nat
  | 0 => 0
  | n + 1 => rr_sum f n + f n
theorem rr_sum_s (f : Nat → Nat) (n : Nat) : rr_sum f (n + 1) = rr_sum f n + f n := rfl
theorem rr_sum_c {f g : Nat → Nat} : ∀ {n : Nat}, (∀ i, i < n → f i = g i) → rr_sum f n = rr_sum g n
  | 0, _ => rfl
  | n + 1, h => by rw [rr_sum_s, rr_sum_s, h n (by omega), rr_sum_c (fun i hi => h i (by omega))]
theorem rr_sum_z {f : Nat → Nat} : ∀ {n : Nat}, (∀ i, i < n → f i = 0) → rr_sum f n = 0
  | 0, _ => rfl
  | n + 1, h => by rw [rr_sum_s, h n (by omega), rr_sum_z (fun i hi => h i (by omega))]
theorem rr_sum_b {f : Nat → Nat} {B : Nat} : ∀ {n : Nat}, (∀ i, i < n → f i ≤ B) → rr_sum f n ≤ n * B
  | 0, _ => by simp [rr_sum]
  | n + 1, h => by
    have h1 := rr_sum_b (n := n) (fun i hi => h i (by omega))
    have h2 := h n (by omega)
    rw [rr_sum_s, Nat.succ_mul]
    omega
theorem rr_sum_ge {f : Nat → Nat} {i : Nat} : ∀ {n : Nat}, i < n → f i ≤ rr_sum f n
  | 0, h => by omega
  | n + 1, h => by
    rw [rr_sum_s]
    rcases Nat.lt_or_ge i n with q | q
    · have := rr_sum_ge (f := f) q; omega
    · have : i = n := by omega
      subst this; omega
theorem rr_sum_u {f g : Nat → Nat} {i0 : Nat} : ∀ {n : Nat}, i0 < n → (∀ i, i < n → i ≠ i0 → g i = f i) → rr_sum g n + f i0 = rr_sum f n + g i0
  | 0, h, _ => by omega
  | n + 1, h, hh => by
    rw [rr_sum_s, rr_sum_s]
    rcases Nat.lt_or_ge i0 n with q | q
    · have h1 := rr_sum_u (f := f) (g := g) q (fun i hi hn => hh i (by omega) hn)
      have h2 := hh n (by omega) (by omega)
      omega
    · have e : i0 = n := by omega
      subst e
      have h1 : rr_sum g i0 = rr_sum f i0 := rr_sum_c (fun i hi => hh i (by omega) (by omega))
      omega
theorem rr_sum_f {f : Nat → Nat} : ∀ {n : Nat}, rr_sum f (n + 1) = f 0 + rr_sum (fun i => f (i + 1)) n
  | 0 => by simp [rr_sum]
  | n + 1 => by
    have := rr_sum_f (f := f) (n := n)
    rw [rr_sum_s, this, rr_sum_s]
    omega
theorem rr_sum_a {f g : Nat → Nat} : ∀ {n : Nat}, rr_sum (fun i => f i + g i) n = rr_sum f n + rr_sum g n
  | 0 => rfl
  | n + 1 => by
    have := rr_sum_a (f := f) (g := g) (n := n)
    rw [rr_sum_s, rr_sum_s, rr_sum_s, this]
    omega
theorem rr_sum_x {f : Nat → Nat → Nat} {m : Nat} : ∀ {n : Nat}, rr_sum (fun i => rr_sum (fun j => f i j) m) n = rr_sum (fun j => rr_sum (fun i => f i j) n) m
  | 0 => by
    have : rr_sum (fun _ => 0) m = 0 := rr_sum_z (fun _ _ => rfl)
    exact this.symm
  | n + 1 => by
    rw [rr_sum_s, rr_sum_x (f := f) (m := m) (n := n)]
    show _ = rr_sum (fun j => rr_sum (fun i => f i j) n + f n j) m
    rw [rr_sum_a]
theorem rr_it2 {α β : Type} {f : Nat → α → α} {g : Nat → β → β} (o : Nat) (I : Nat → α → β → Prop) : ∀ (n i : Nat) (s : α) (t : β), I i s t → (∀ j s t, i ≤ j → j < i + n → I j s t → I (j + 1) (f j s) (g (o + j) t)) → I (i + n) (hk_it f n i s) (hk_it g n (o + i) t)
  | 0, _, _, _, h, _ => h
  | n + 1, i, s, t, h, hs => by
    rw [hk_it_s, hk_it_s, show i + (n + 1) = (i + 1) + n by omega, show o + i + 1 = o + (i + 1) by omega]
    exact rr_it2 o I n (i + 1) _ _ (hs i s t (Nat.le_refl _) (by omega) h) (fun j s t h1 h2 => hs j s t (by omega) (by omega))
theorem rr_it0 {α β : Type} {f : Nat → α → α} {g : Nat → β → β} (I : Nat → α → β → Prop) (n : Nat) {s : α} {t : β} (h : I 0 s t) (hs : ∀ j s t, j < n → I j s t → I (j + 1) (f j s) (g j t)) : I n (hk_it f n 0 s) (hk_it g n 0 t) := by
  have := rr_it2 (f := f) (g := g) 0 I n 0 s t h (fun j s t _ h2 h3 => by rw [Nat.zero_add]; exact hs j s t (by omega) h3)
  rw [Nat.zero_add] at this
  exact this
theorem rr_it_id {α : Type} {f : Nat → α → α} {s : α} : ∀ (n i : Nat), (∀ j, i ≤ j → j < i + n → f j s = s) → hk_it f n i s = s
  | 0, _, _ => rfl
  | n + 1, i, h => by rw [hk_it_s, h i (Nat.le_refl _) (by omega)]; exact rr_it_id n (i + 1) (fun j h1 h2 => h j (by omega) (by omega))
theorem rr_it_ap {α : Type} {f : Nat → α → α} : ∀ (a b i : Nat) (s : α), hk_it f (a + b) i s = hk_it f b (i + a) (hk_it f a i s)
  | 0, b, i, s => by rw [Nat.zero_add]; rfl
  | a + 1, b, i, s => by rw [show a + 1 + b = (a + b) + 1 by omega, hk_it_s, rr_it_ap a b (i + 1), hk_it_s, show i + 1 + a = i + (a + 1) by omega]
theorem rr_it_c {α : Type} {f g : Nat → α → α} : ∀ (n i : Nat) (s : α), (∀ j s, i ≤ j → j < i + n → f j s = g j s) → hk_it f n i s = hk_it g n i s
  | 0, _, _, _ => rfl
  | n + 1, i, s, h => by rw [hk_it_s, hk_it_s, h i s (Nat.le_refl _) (by omega)]; exact rr_it_c n (i + 1) _ (fun j s h1 h2 => h j s (by omega) (by omega))
theorem rr_in {n : Nat} {y x : Int32} (hy : y = nI n) (hn : n ≤ 6) : (hk_in x 0 (y - 1) = 0 ∧ ∀ j, j < n → ¬ x = nI j) ∨ (¬ hk_in x 0 (y - 1) = 0 ∧ x.toNatClampNeg < n ∧ x = nI x.toNatClampNeg) := by
  by_cases h : hk_in x 0 (y - 1) = 0
  · exact Or.inl ⟨h, fun j hj e => hk_in_sz' hy hj hn (by rw [← e]; exact h)⟩
  · exact Or.inr ⟨h, hk_in_sz hy hn h⟩
/-! the relation -/
def rr_S (Z : hk_Z) (nw w : Nat) (τ σ : hk_v) : Prop :=
  hk_sz Z τ ∧ hk_mz Z σ ∧ (τ (0, 0) 8 = nI nw ∧ σ (0, 0) 0 = nI nw ∧ nw ≤ 480) ∧ τ (0, 0) 9 = nI w ∧ σ (0, 0) 1 = nI w ∧ 1 ≤ w ∧ w ≤ 24
def rr_D (Z : hk_Z) (τ σ : hk_v) : Prop :=
  (∀ i, i < Z.1 0 → τ (9, i) 0 = σ (1, 4) i ∧ τ (9, i) 1 = σ (1, 5) i ∧ τ (9, i) 2 = σ (1, 3) i ∧ τ (9, i) 3 = σ (1, 6) i ∧ τ (9, i) 4 = σ (1, 7) i ∧ τ (9, i) 5 = σ (1, 8) i) ∧
  (∀ i, Z.1 0 ≤ i → σ (1, 6) i = 0 ∧ σ (1, 7) i = 0 ∧ σ (1, 8) i = 0)
def rr_N (Z : hk_Z) (τ σ : hk_v) : Prop :=
  (∀ i, i < Z.1 1 → (τ (10, i) 0 = σ (1, 10) i ∧ τ (10, i) 1 = σ (1, 11) i ∧ τ (10, i) 2 = σ (1, 12) i ∧ τ (10, i) 3 = σ (1, 13) i ∧ τ (10, i) 4 = σ (1, 14) i ∧ τ (10, i) 5 = σ (1, 15) i) ∧ (∃ r, r ≤ 30 ∧ τ (10, i) 0 = nI r) ∧ ¬ τ (10, i) 1 = 0 ∧ (τ (10, i) 2 = -9 ∨ ∃ a, a < Z.1 0 ∧ τ (10, i) 2 = nI a)) ∧
  (∀ i, Z.1 1 ≤ i → i < 6 → σ (1, 12) i = -9 ∧ σ (1, 13) i = 0 ∧ σ (1, 14) i = 0 ∧ σ (1, 15) i = 0)
def rr_kd (c : Nat) (x : Int32) : Prop := (c = 9 ∧ x = 0) ∨ (c = 3 ∧ x = 1) ∨ (c = 2 ∧ x = 2)
def rr_l (Z : hk_Z) (τ σ : hk_v) (k n f : Nat) (pre : Nat → Nat) : Prop :=
  pre 0 = 0 ∧ pre n = f ∧ ∀ j, j < n → pre j < pre (j + 1) ∧ pre (j + 1) ≤ f ∧ τ (14, k) j = nI (pre (j + 1) - pre j) ∧ ∃ g, g < Z.1 0 ∧ τ (13, k) j = nI g ∧ ∀ b, pre j ≤ b → b < pre (j + 1) → σ (1, 23) (200 * k + b) = nI g
def rr_k (Z : hk_Z) (τ σ : hk_v) (k : Nat) : Prop :=
  rr_kd (Z.2.1 k) (σ (1, 18) k) ∧ (τ (11, k) 1 = nI (Z.2.2 k) ∧ σ (1, 19) k = nI (Z.2.2 k) ∧ 1 ≤ Z.2.2 k ∧ Z.2.2 k ≤ 200) ∧ (∃ r, r ≤ 100 ∧ τ (11, k) 7 = nI r ∧ σ (1, 20) k = nI r) ∧ τ (11, k) 6 = σ (1, 21) k ∧
  ∃ (n f : Nat) (pre : Nat → Nat), τ (11, k) 4 = nI n ∧ τ (11, k) 5 = nI f ∧ σ (1, 22) k = nI f ∧ f ≤ Z.2.2 k ∧ n ≤ f ∧ (f = 0 → τ (11, k) 6 = 0) ∧ rr_l Z τ σ k n f pre
def rr_K (Z : hk_Z) (τ σ : hk_v) : Prop := (∀ k, k < Z.1 2 → rr_k Z τ σ k) ∧ (∀ k, Z.1 2 ≤ k → σ (1, 21) k = 0 ∧ σ (1, 22) k = 0)
def rr_P (P : Nat) (τ σ : hk_v) : Prop := ∃ p l : Nat, τ (4, 0) 2 = nI p ∧ σ (0, 0) 24 = nI p ∧ p ≤ P ∧ τ (4, 0) 3 = nI l ∧ σ (0, 0) 27 = nI l ∧ l < 20 ∧ τ (4, 0) 4 = σ (0, 0) 28 ∧ (∀ i, i < p → i < 100 → τ (4, 1) i = σ (1, 25) i ∧ τ (4, 2) i = σ (1, 26) i)
def rr_t (τ σ : hk_v) (i fc ff fv : Nat) (fi : Int32) : Prop := τ (5, i) 2 = fi ∧ ∃ n, n ≤ 20 ∧ τ (5, i) 3 = nI n ∧ σ (0, 0) fc = nI n ∧ ∀ j, j < n → τ (6, i) j = σ (1, ff) j ∧ τ (7, i) j = σ (1, fv) j ∧ ∃ a, a ≤ 480 ∧ τ (6, i) j = nI a
def rr_T (τ σ : hk_v) : Prop := rr_t τ σ 0 29 30 31 2 ∧ rr_t τ σ 1 32 33 34 0
def rr_rg (nw a : Nat) : Nat := (nw + 25 - a) % 25
def rr_ga (G : Nat → Nat → Nat) (nw a g : Nat) : Nat := if a ≤ nw then G (nw - a) g else 0
/-- the system's ring and its sum; the reference's row of hours -/
def rr_C (nw : Nat) (G : Nat → Nat → Nat) (τ : hk_v) : Prop :=
  (∀ a g, a < 25 → g < 6 → τ (3, 1) (rr_rg nw a * 6 + g) = nI (rr_ga G nw a g)) ∧ τ (3, 0) 1 = nI (rr_sum (fun a => rr_sum (fun g => rr_ga G nw a g) 6) 25)
def rr_M (G : Nat → Nat → Nat) (σ : hk_v) : Prop := ∀ h g, h ≤ 480 → g < 6 → σ (1, 16) (6 * h + g) = nI (G h g)
def rr_L (Z : hk_Z) (nw : Nat) (G : Nat → Nat → Nat) (τ : hk_v) : Prop :=
  (∀ i, i < Z.1 0 → ∃ l, τ (9, i) 2 = nI l ∧ ∀ h, G h i + l ≤ 5000) ∧ (∀ h g, Z.1 0 ≤ g → G h g = 0) ∧ (∀ h g, nw < h ∨ h + 24 < nw → G h g = 0)
def rr_R (Z : hk_Z) (nw w P : Nat) (G : Nat → Nat → Nat) (τ σ : hk_v) : Prop :=
  rr_S Z nw w τ σ ∧ rr_D Z τ σ ∧ rr_N Z τ σ ∧ rr_K Z τ σ ∧ rr_P P τ σ ∧ rr_T τ σ ∧ rr_C nw G τ ∧ rr_M G σ ∧ rr_L Z nw G τ
section RRO
variable {Z : hk_Z} {nw w P : Nat} {G : Nat → Nat → Nat} {τ σ τ' σ' : hk_v}
theorem rr_S.of (h : rr_S Z nw w τ σ) (e1 : ∀ j, τ' (1, j) 2 = τ (1, j) 2) (e8 : τ' (0, 0) 8 = τ (0, 0) 8) (e9 : τ' (0, 0) 9 = τ (0, 0) 9) (f : ∀ f, f ≤ 17 → σ' (0, 0) f = σ (0, 0) f) : rr_S Z nw w τ' σ' := by
  unfold rr_S hk_sz hk_mz at *
  rw [e1, e1, e1, e8, e9, f 0 (by omega), f 1 (by omega), f 2 (by omega), f 9 (by omega), f 17 (by omega)]
  exact h
theorem rr_D.of (h : rr_D Z τ σ) (e : ∀ i k, τ' (9, i) k = τ (9, i) k) (f : ∀ f k, 3 ≤ f → f ≤ 8 → σ' (1, f) k = σ (1, f) k) : rr_D Z τ' σ' := by
  unfold rr_D at *
  simp only [e, fun k => f 3 k (by omega) (by omega), fun k => f 4 k (by omega) (by omega), fun k => f 5 k (by omega) (by omega), fun k => f 6 k (by omega) (by omega), fun k => f 7 k (by omega) (by omega), fun k => f 8 k (by omega) (by omega)]
  exact h
theorem rr_N.of (h : rr_N Z τ σ) (e : ∀ i k, τ' (10, i) k = τ (10, i) k) (f : ∀ f k, 10 ≤ f → f ≤ 15 → σ' (1, f) k = σ (1, f) k) : rr_N Z τ' σ' := by
  unfold rr_N at *
  simp only [e, fun k => f 10 k (by omega) (by omega), fun k => f 11 k (by omega) (by omega), fun k => f 12 k (by omega) (by omega), fun k => f 13 k (by omega) (by omega), fun k => f 14 k (by omega) (by omega), fun k => f 15 k (by omega) (by omega)]
  exact h
theorem rr_l.of {k n f : Nat} {pre : Nat → Nat} (h : rr_l Z τ σ k n f pre) (hf : f ≤ 200) (e3 : ∀ j, τ' (13, k) j = τ (13, k) j) (e4 : ∀ j, τ' (14, k) j = τ (14, k) j) (fb : ∀ b, b < 200 → σ' (1, 23) (200 * k + b) = σ (1, 23) (200 * k + b)) : rr_l Z τ' σ' k n f pre := by
  obtain ⟨h1, h2, h3⟩ := h
  refine ⟨h1, h2, fun j hj => ?_⟩
  obtain ⟨a1, a2, a3, g, a4, a5, a6⟩ := h3 j hj
  exact ⟨a1, a2, by rw [e4]; exact a3, g, a4, by rw [e3]; exact a5, fun b b1 b2 => by rw [fb b (by omega)]; exact a6 b b1 b2⟩
theorem rr_k.of {k : Nat} (h : rr_k Z τ σ k) (e1 : ∀ j, τ' (11, k) j = τ (11, k) j) (e3 : ∀ j, τ' (13, k) j = τ (13, k) j) (e4 : ∀ j, τ' (14, k) j = τ (14, k) j) (f : ∀ f, 18 ≤ f → f ≤ 22 → σ' (1, f) k = σ (1, f) k) (fb : ∀ b, b < 200 → σ' (1, 23) (200 * k + b) = σ (1, 23) (200 * k + b)) : rr_k Z τ' σ' k := by
  obtain ⟨h1, h2, h3, h4, n, fi, pre, g1, g2, g3, g4, g5, g6, g7⟩ := h
  unfold rr_k
  rw [e1, e1, e1, f 18 (by omega) (by omega), f 19 (by omega) (by omega), f 20 (by omega) (by omega), f 21 (by omega) (by omega)]
  exact ⟨h1, h2, h3, h4, n, fi, pre, by rw [e1]; exact g1, by rw [e1]; exact g2, by rw [f 22 (by omega) (by omega)]; exact g3, g4, g5, g6, g7.of (by omega) e3 e4 fb⟩
theorem rr_K.of (h : rr_K Z τ σ) (e1 : ∀ k j, τ' (11, k) j = τ (11, k) j) (e3 : ∀ k j, τ' (13, k) j = τ (13, k) j) (e4 : ∀ k j, τ' (14, k) j = τ (14, k) j) (f : ∀ f k, 18 ≤ f → f ≤ 23 → σ' (1, f) k = σ (1, f) k) : rr_K Z τ' σ' :=
  ⟨fun k hk => (h.1 k hk).of (e1 k) (e3 k) (e4 k) (fun f0 h1 h2 => f f0 k h1 (by omega)) (fun b _ => f 23 _ (by omega) (by omega)), fun k hk => by rw [f 21 k (by omega) (by omega), f 22 k (by omega) (by omega)]; exact h.2 k hk⟩
theorem rr_P.of (h : rr_P P τ σ) (e : ∀ i k, τ' (4, i) k = τ (4, i) k) (f : ∀ f, 24 ≤ f → f ≤ 28 → σ' (0, 0) f = σ (0, 0) f) (f1 : ∀ f k, 25 ≤ f → f ≤ 26 → σ' (1, f) k = σ (1, f) k) : rr_P P τ' σ' := by
  unfold rr_P at *
  simp only [e, f 24 (by omega) (by omega), f 27 (by omega) (by omega), f 28 (by omega) (by omega), fun k => f1 25 k (by omega) (by omega), fun k => f1 26 k (by omega) (by omega)]
  exact h
theorem rr_P.le {P' : Nat} (h : rr_P P τ σ) (hP : P ≤ P') : rr_P P' τ σ := by
  obtain ⟨p, l, h1, h2, h3, h4⟩ := h
  exact ⟨p, l, h1, h2, by omega, h4⟩
theorem rr_T.of (h : rr_T τ σ) (e5 : ∀ i k, τ' (5, i) k = τ (5, i) k) (e6 : ∀ i k, τ' (6, i) k = τ (6, i) k) (e7 : ∀ i k, τ' (7, i) k = τ (7, i) k) (f : ∀ f, 29 ≤ f → f ≤ 32 → σ' (0, 0) f = σ (0, 0) f) (f1 : ∀ f k, 30 ≤ f → f ≤ 34 → σ' (1, f) k = σ (1, f) k) : rr_T τ' σ' := by
  unfold rr_T rr_t at *
  simp only [e5, e6, e7, f 29 (by omega) (by omega), f 32 (by omega) (by omega), fun k => f1 30 k (by omega) (by omega), fun k => f1 31 k (by omega) (by omega), fun k => f1 33 k (by omega) (by omega), fun k => f1 34 k (by omega) (by omega)]
  exact h
theorem rr_C.of (h : rr_C nw G τ) (e : ∀ i k, τ' (3, i) k = τ (3, i) k) : rr_C nw G τ' := by
  unfold rr_C at *
  simp only [e]
  exact h
theorem rr_M.of (h : rr_M G σ) (e : ∀ k, σ' (1, 16) k = σ (1, 16) k) : rr_M G σ' := by
  unfold rr_M at *
  simp only [e]
  exact h
theorem rr_L.of (h : rr_L Z nw G τ) (e : ∀ i, τ' (9, i) 2 = τ (9, i) 2) : rr_L Z nw G τ' := by
  unfold rr_L at *
  simp only [e]
  exact h
end RRO
