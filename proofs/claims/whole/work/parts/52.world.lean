set_option maxHeartbeats 4000000 in
theorem GT_Y {D : hk_D} {G : hk_G} {a a1 a4 a7 a10 b11_0 a13 b14_0 b14_1 a16 b17_0 b17_1 a19 b20_0 b20_1 a22 b23_0 b23_1 b23_2 : Nat} (ha : G.1 (.inl (0, 0)) = a) (hk : G.2.1 (.inl (0, 0)) = some (.inl 11)) (hno : ∀ q, ¬ q = (0, 0) → G.2.1 (.inl q) = none) : hk_Y D (GT_init D G a a1 a4 a7 a10 b11_0 a13 b14_0 b14_1 a16 b17_0 b17_1 a19 b20_0 b20_1 a22 b23_0 b23_1 b23_2) hk_Z0 := by
  unfold GT_init
  exact ⟨(by simp [hk_add_1, hk_add_2, hk_add_3, hk_rf_1, hk_rf_2, hk_rf_3, ha, hk, hno]),
    (by simp [hk_add_1, hk_add_2, hk_add_3, hk_rf_1, hk_rf_2, hk_rf_3, ha, hk, hno]),
    (by simp [hk_add_1, hk_add_2, hk_add_3, hk_rf_1, hk_rf_2, hk_rf_3, ha, hk, hno]),
    (fun _ => by simp [hk_add_1, hk_add_2, hk_add_3, hk_rf_1, hk_rf_2, hk_rf_3, ha, hk, hno]),
    (fun hi => absurd hi (Nat.lt_irrefl _)),
    (fun hi => absurd hi (Nat.lt_irrefl _)),
    (fun i hi => absurd hi (Nat.not_lt_zero _)),
    (by simp [hk_add_1, hk_add_2, hk_add_3, hk_rf_1, hk_rf_2, hk_rf_3, ha, hk, hno]),
    (by simp [hk_add_1, hk_add_2, hk_add_3, hk_rf_1, hk_rf_2, hk_rf_3, ha, hk, hno]),
    (fun _ => by simp [hk_add_1, hk_add_2, hk_add_3, hk_rf_1, hk_rf_2, hk_rf_3, ha, hk, hno]),
    (fun hi => absurd hi (Nat.lt_irrefl _)),
    (fun hi => absurd hi (Nat.lt_irrefl _)),
    (fun i hi => absurd hi (Nat.not_lt_zero _)),
    (by simp [hk_add_1, hk_add_2, hk_add_3, hk_rf_1, hk_rf_2, hk_rf_3, ha, hk, hno]),
    (by simp [hk_add_1, hk_add_2, hk_add_3, hk_rf_1, hk_rf_2, hk_rf_3, ha, hk, hno]),
    (fun _ => by simp [hk_add_1, hk_add_2, hk_add_3, hk_rf_1, hk_rf_2, hk_rf_3, ha, hk, hno]),
    (fun hi => absurd hi (Nat.lt_irrefl _)),
    (fun hi => absurd hi (Nat.lt_irrefl _)),
    (fun i hi => absurd hi (Nat.not_lt_zero _)),
    (by simp [hk_add_1, hk_add_2, hk_add_3, hk_rf_1, hk_rf_2, hk_rf_3, ha, hk, hno]),
    (by simp [hk_add_1, hk_add_2, hk_add_3, hk_rf_1, hk_rf_2, hk_rf_3, ha, hk, hno]),
    (by simp [hk_add_1, hk_add_2, hk_add_3, hk_rf_1, hk_rf_2, hk_rf_3, ha, hk, hno]),
    (by simp [hk_add_1, hk_add_2, hk_add_3, hk_rf_1, hk_rf_2, hk_rf_3, ha, hk, hno]),
    (by simp [hk_add_1, hk_add_2, hk_add_3, hk_rf_1, hk_rf_2, hk_rf_3, ha, hk, hno]),
    (by simp [hk_add_1, hk_add_2, hk_add_3, hk_rf_1, hk_rf_2, hk_rf_3, ha, hk, hno]),
    (by simp [hk_add_1, hk_add_2, hk_add_3, hk_rf_1, hk_rf_2, hk_rf_3, ha, hk, hno]),
    (by simp [hk_add_1, hk_add_2, hk_add_3, hk_rf_1, hk_rf_2, hk_rf_3, ha, hk, hno]),
    (by simp [hk_add_1, hk_add_2, hk_add_3, hk_rf_1, hk_rf_2, hk_rf_3, ha, hk, hno]),
    (by simp [hk_add_1, hk_add_2, hk_add_3, hk_rf_1, hk_rf_2, hk_rf_3, ha, hk, hno]),
    (by simp [hk_add_1, hk_add_2, hk_add_3, hk_rf_1, hk_rf_2, hk_rf_3, ha, hk, hno]),
    (by simp [hk_add_1, hk_add_2, hk_add_3, hk_rf_1, hk_rf_2, hk_rf_3, ha, hk, hno]),
    (by intro i hi; rcases (show i = 0 ∨ i = 1 by omega) with rfl | rfl <;> simp [hk_add_1, hk_add_2, hk_add_3, hk_rf_1, hk_rf_2, hk_rf_3, ha, hk, hno]),
    (by intro i hi; rcases (show i = 0 ∨ i = 1 by omega) with rfl | rfl <;> simp [hk_add_1, hk_add_2, hk_add_3, hk_rf_1, hk_rf_2, hk_rf_3, ha, hk, hno]),
    (by intro i hi; rcases (show i = 0 ∨ i = 1 by omega) with rfl | rfl <;> simp [hk_add_1, hk_add_2, hk_add_3, hk_rf_1, hk_rf_2, hk_rf_3, ha, hk, hno]),
    (by intro i hi; rcases (show i = 0 ∨ i = 1 by omega) with rfl | rfl <;> simp [hk_add_1, hk_add_2, hk_add_3, hk_rf_1, hk_rf_2, hk_rf_3, ha, hk, hno]),
    (by intro i hi; rcases (show i = 0 ∨ i = 1 by omega) with rfl | rfl <;> simp [hk_add_1, hk_add_2, hk_add_3, hk_rf_1, hk_rf_2, hk_rf_3, ha, hk, hno]),
    (by simp [hk_add_1, hk_add_2, hk_add_3, hk_rf_1, hk_rf_2, hk_rf_3, ha, hk, hno]),
    (by simp [hk_add_1, hk_add_2, hk_add_3, hk_rf_1, hk_rf_2, hk_rf_3, ha, hk, hno]),
    (by simp [hk_add_1, hk_add_2, hk_add_3, hk_rf_1, hk_rf_2, hk_rf_3, ha, hk, hno]),
    (by simp [hk_add_1, hk_add_2, hk_add_3, hk_rf_1, hk_rf_2, hk_rf_3, ha, hk, hno]),
    (by simp [hk_add_1, hk_add_2, hk_add_3, hk_rf_1, hk_rf_2, hk_rf_3, ha, hk, hno]),
    (by simp [hk_add_1, hk_add_2, hk_add_3, hk_rf_1, hk_rf_2, hk_rf_3, ha, hk, hno]),
    (by simp [hk_add_1, hk_add_2, hk_add_3, hk_rf_1, hk_rf_2, hk_rf_3, ha, hk, hno]),
    (by simp [hk_add_1, hk_add_2, hk_add_3, hk_rf_1, hk_rf_2, hk_rf_3, ha, hk, hno]),
    (fun i hi => absurd hi (Nat.not_lt_zero _)),
    (fun i hi => absurd hi (Nat.not_lt_zero _)),
    (fun i hi => absurd hi (Nat.not_lt_zero _)),
    (fun i hi => absurd hi (Nat.not_lt_zero _)),
    (fun i hi => absurd hi (Nat.not_lt_zero _)),
    (fun i hi => absurd hi (Nat.not_lt_zero _)),
    (fun i hi => absurd hi (Nat.not_lt_zero _)),
    (fun i hi => absurd hi (Nat.not_lt_zero _)),
    (fun i hi => absurd hi (Nat.not_lt_zero _)),
    (fun i hi => absurd hi (Nat.not_lt_zero _))⟩
set_option maxHeartbeats 4000000 in
theorem GT_N {D : hk_D} {G : hk_G} {a a1 a4 a7 a10 b11_0 a13 b14_0 b14_1 a16 b17_0 b17_1 a19 b20_0 b20_1 a22 b23_0 b23_1 b23_2 : Nat} (ha : G.1 (.inl (0, 0)) = a) (hk : G.2.1 (.inl (0, 0)) = some (.inl 11)) (hno : ∀ q, ¬ q = (0, 0) → G.2.1 (.inl q) = none) : hk_N (GT_init D G a a1 a4 a7 a10 b11_0 a13 b14_0 b14_1 a16 b17_0 b17_1 a19 b20_0 b20_1 a22 b23_0 b23_1 b23_2) hk_Z0 ∧ (GT_init D G a a1 a4 a7 a10 b11_0 a13 b14_0 b14_1 a16 b17_0 b17_1 a19 b20_0 b20_1 a22 b23_0 b23_1 b23_2).2.2 (.inl (0, 0)) 10 = .long 0 ∧ (GT_init D G a a1 a4 a7 a10 b11_0 a13 b14_0 b14_1 a16 b17_0 b17_1 a19 b20_0 b20_1 a22 b23_0 b23_1 b23_2).1 (.inl (0, 0)) = a ∧ (∀ q, (GT_init D G a a1 a4 a7 a10 b11_0 a13 b14_0 b14_1 a16 b17_0 b17_1 a19 b20_0 b20_1 a22 b23_0 b23_1 b23_2).1 (.inr q) = G.1 (.inr q) ∧ (GT_init D G a a1 a4 a7 a10 b11_0 a13 b14_0 b14_1 a16 b17_0 b17_1 a19 b20_0 b20_1 a22 b23_0 b23_1 b23_2).2.1 (.inr q) = G.2.1 (.inr q)) := by
  unfold GT_init
  exact ⟨⟨(fun i _ => by simp [hk_add_1, hk_add_2, hk_add_3, hk_rf_1, hk_rf_2, hk_rf_3, ha, hk, hno]), (fun i _ => by simp [hk_add_1, hk_add_2, hk_add_3, hk_rf_1, hk_rf_2, hk_rf_3, ha, hk, hno]), (fun i _ => by simp [hk_add_1, hk_add_2, hk_add_3, hk_rf_1, hk_rf_2, hk_rf_3, ha, hk, hno]), (fun i _ => by simp [hk_add_1, hk_add_2, hk_add_3, hk_rf_1, hk_rf_2, hk_rf_3, ha, hk, hno]), (fun i _ => by simp [hk_add_1, hk_add_2, hk_add_3, hk_rf_1, hk_rf_2, hk_rf_3, ha, hk, hno]), (fun i _ => by simp [hk_add_1, hk_add_2, hk_add_3, hk_rf_1, hk_rf_2, hk_rf_3, ha, hk, hno]), (fun _ => by simp [hk_add_1, hk_add_2, hk_add_3, hk_rf_1, hk_rf_2, hk_rf_3, ha, hk, hno]), (fun _ => by simp [hk_add_1, hk_add_2, hk_add_3, hk_rf_1, hk_rf_2, hk_rf_3, ha, hk, hno]), (fun _ => by simp [hk_add_1, hk_add_2, hk_add_3, hk_rf_1, hk_rf_2, hk_rf_3, ha, hk, hno])⟩, (by simp [hk_add_1, hk_add_2, hk_add_3, hk_rf_1, hk_rf_2, hk_rf_3, ha, hk, hno]), (by simp [hk_add_1, hk_add_2, hk_add_3, hk_rf_1, hk_rf_2, hk_rf_3, ha, hk, hno]), fun q => ⟨(by simp [hk_add_1, hk_add_2, hk_add_3, hk_rf_1, hk_rf_2, hk_rf_3, ha, hk, hno]), (by simp [hk_add_1, hk_add_2, hk_add_3, hk_rf_1, hk_rf_2, hk_rf_3, ha, hk, hno])⟩⟩
theorem hk_Y.cong {D : hk_D} {G G' : hk_G} {Z : hk_Z} (h : hk_Y D G Z) (e : ∀ q, G'.1 (.inl q) = G.1 (.inl q) ∧ G'.2.1 (.inl q) = G.2.1 (.inl q) ∧ ∀ j, G'.2.2 (.inl q) j = G.2.2 (.inl q) j) : hk_Y D G' Z := by
  unfold hk_Y at *
  simp only [fun q => (e q).1, fun q => (e q).2.1, fun q j => (e q).2.2 j]
  exact h
theorem hk_N.cong {G G' : hk_G} {Z : hk_Z} (h : hk_N G Z) (e : ∀ q, G'.2.1 (.inl q) = G.2.1 (.inl q)) : hk_N G' Z := by
  unfold hk_N at *
  simp only [e]
  exact h
theorem mi_M {a : Nat} {G0 G : hk_G} (h : mi_Q 37 a G0 G) : hk_M G := by
  obtain ⟨h1, h2, h3, h4, h5, h6⟩ := h
  have q : ∀ f, f < 37 → mi_fld f → G.2.2 (.inr (0, 0)) f = .ref (G.1 (.inr (1, f))) ∧ G.2.1 (.inr (1, f)) = some (.inr (.inl (mi_len f))) := h4
  exact ⟨h2, (q 3 (by decide) (by unfold mi_fld; omega)).1, (q 3 (by decide) (by unfold mi_fld; omega)).2, (q 4 (by decide) (by unfold mi_fld; omega)).1, (q 4 (by decide) (by unfold mi_fld; omega)).2, (q 5 (by decide) (by unfold mi_fld; omega)).1, (q 5 (by decide) (by unfold mi_fld; omega)).2, (q 6 (by decide) (by unfold mi_fld; omega)).1, (q 6 (by decide) (by unfold mi_fld; omega)).2, (q 7 (by decide) (by unfold mi_fld; omega)).1, (q 7 (by decide) (by unfold mi_fld; omega)).2, (q 8 (by decide) (by unfold mi_fld; omega)).1, (q 8 (by decide) (by unfold mi_fld; omega)).2, (q 10 (by decide) (by unfold mi_fld; omega)).1, (q 10 (by decide) (by unfold mi_fld; omega)).2, (q 11 (by decide) (by unfold mi_fld; omega)).1, (q 11 (by decide) (by unfold mi_fld; omega)).2, (q 12 (by decide) (by unfold mi_fld; omega)).1, (q 12 (by decide) (by unfold mi_fld; omega)).2, (q 13 (by decide) (by unfold mi_fld; omega)).1, (q 13 (by decide) (by unfold mi_fld; omega)).2, (q 14 (by decide) (by unfold mi_fld; omega)).1, (q 14 (by decide) (by unfold mi_fld; omega)).2, (q 15 (by decide) (by unfold mi_fld; omega)).1, (q 15 (by decide) (by unfold mi_fld; omega)).2, (q 16 (by decide) (by unfold mi_fld; omega)).1, (q 16 (by decide) (by unfold mi_fld; omega)).2, (q 18 (by decide) (by unfold mi_fld; omega)).1, (q 18 (by decide) (by unfold mi_fld; omega)).2, (q 19 (by decide) (by unfold mi_fld; omega)).1, (q 19 (by decide) (by unfold mi_fld; omega)).2, (q 20 (by decide) (by unfold mi_fld; omega)).1, (q 20 (by decide) (by unfold mi_fld; omega)).2, (q 21 (by decide) (by unfold mi_fld; omega)).1, (q 21 (by decide) (by unfold mi_fld; omega)).2, (q 22 (by decide) (by unfold mi_fld; omega)).1, (q 22 (by decide) (by unfold mi_fld; omega)).2, (q 23 (by decide) (by unfold mi_fld; omega)).1, (q 23 (by decide) (by unfold mi_fld; omega)).2, (q 25 (by decide) (by unfold mi_fld; omega)).1, (q 25 (by decide) (by unfold mi_fld; omega)).2, (q 26 (by decide) (by unfold mi_fld; omega)).1, (q 26 (by decide) (by unfold mi_fld; omega)).2, (q 30 (by decide) (by unfold mi_fld; omega)).1, (q 30 (by decide) (by unfold mi_fld; omega)).2, (q 31 (by decide) (by unfold mi_fld; omega)).1, (q 31 (by decide) (by unfold mi_fld; omega)).2, (q 33 (by decide) (by unfold mi_fld; omega)).1, (q 33 (by decide) (by unfold mi_fld; omega)).2, (q 34 (by decide) (by unfold mi_fld; omega)).1, (q 34 (by decide) (by unfold mi_fld; omega)).2, (q 36 (by decide) (by unfold mi_fld; omega)).1, (q 36 (by decide) (by unfold mi_fld; omega)).2⟩
/-- the first ints -/
def rr_J (Z : hk_Z) (nw w : Nat) (τ σ : hk_v) : Prop := rr_I Z nw w τ σ ∧ τ (8, 1) 0 = 0 ∧ τ (8, 2) 0 = 0
theorem rr_first (τ σ : hk_v) : rr_J hk_Z0 0 10 (T_init (hk_zo τ (0, 0))) (T_minit (hk_zo σ (0, 0))) := by
  have z : (0 : Int32) = nI 0 := rfl
  refine ⟨⟨fun _ _ => 0, ⟨?_, ?_, ?_, ?_, ?_, ?_, ?_, ?_, ?_⟩, fun _ => rfl⟩, ?_, ?_⟩
  · refine ⟨⟨⟨?_, ?_, ?_⟩, ?_, ?_, ?_⟩, ⟨⟨?_, ?_, ?_⟩, ?_, ?_, ?_⟩, ⟨?_, ?_, ?_⟩, ?_, ?_, ?_, ?_⟩
    all_goals first | (simp [T_init, T_minit, hk_u_ap, hk_zo_ap, hk_Z0]; done) | (simp [T_init, T_minit, hk_u_ap, hk_zo_ap, hk_Z0]; rfl) | decide
  · refine ⟨fun i hi => absurd hi (Nat.not_lt_zero _), fun i hi => ?_⟩
    simp [T_minit, hk_u_ap, hk_zo_ap]
  · refine ⟨fun i hi => absurd hi (Nat.not_lt_zero _), fun i hi hi6 => ?_⟩
    rcases (show i = 0 ∨ i = 1 ∨ i = 2 ∨ i = 3 ∨ i = 4 ∨ i = 5 by omega) with rfl | rfl | rfl | rfl | rfl | rfl <;> simp [T_minit, hk_u_ap, hk_zo_ap]
  · refine ⟨fun i hi => absurd hi (Nat.not_lt_zero _), fun i hi => ?_⟩
    simp [T_minit, hk_u_ap, hk_zo_ap]
  · refine ⟨0, 0, ?_, ?_, Nat.le_refl _, ?_, ?_, by decide, ?_, fun i hi => absurd hi (Nat.not_lt_zero _)⟩
    all_goals first | (simp [T_init, T_minit, hk_u_ap, hk_zo_ap]; done) | (simp [T_init, T_minit, hk_u_ap, hk_zo_ap]; rfl)
  · refine ⟨⟨?_, 0, by decide, ?_, ?_, fun j hj => absurd hj (Nat.not_lt_zero _)⟩, ⟨?_, 0, by decide, ?_, ?_, fun j hj => absurd hj (Nat.not_lt_zero _)⟩⟩
    all_goals first | (simp [T_init, T_minit, hk_u_ap, hk_zo_ap]; done) | (simp [T_init, T_minit, hk_u_ap, hk_zo_ap]; rfl)
  · have e : ∀ a g, rr_ga (fun _ _ => 0) 0 a g = 0 := fun a g => by unfold rr_ga; split <;> rfl
    refine ⟨fun a g _ _ => ?_, ?_⟩
    · rw [e]
      simp [T_init, hk_u_ap, hk_zo_ap]
      rfl
    · rw [rr_sum_z (fun a _ => rr_sum_z (fun g _ => e a g))]
      simp [T_init, hk_u_ap, hk_zo_ap]
      rfl
  · intro h g _ _
    simp [T_minit, hk_u_ap, hk_zo_ap]
    rfl
  · exact ⟨fun i hi => absurd hi (Nat.not_lt_zero _), fun _ _ _ => rfl, fun _ _ _ => rfl⟩
  · simp [T_init, hk_u_ap, hk_zo_ap]
  · simp [T_init, hk_u_ap, hk_zo_ap]
/-! the sets' rows are most's alone -/
section RR8
variable {Z : hk_Z} {t : hk_v} {i k : Nat}
theorem e8_pick {τ : hk_v} {j : Nat} : B_pick τ j t (8, i) k = t (8, i) k := by
  unfold B_pick
  split
  · rfl
  · split
    · rfl
    · rw [T_glay_o (show (8 : Nat) ≠ 3 by decide), T_enter_o (show (8 : Nat) ≠ 10 by decide), T_yields_o (show (8 : Nat) ≠ 9 by decide)]
theorem e8_unload {u j : Nat} : B_unload u j t (8, i) k = t (8, i) k := by
  unfold B_unload
  split
  · rw [T_play_o (show (8 : Nat) ≠ 4 by decide)]
  · rw [T_play_o (show (8 : Nat) ≠ 4 by decide), hk_u_o (show (8 : Nat) ≠ 9 by decide)]
theorem e8_it {f : Nat → hk_v → hk_v} (h : ∀ j t, f j t (8, i) k = t (8, i) k) (n s : Nat) : hk_it f n s t (8, i) k = t (8, i) k :=
  hk_it_inv (f := f) (fun _ u => u (8, i) k = t (8, i) k) n s t rfl (fun j u _ _ hu => (h j u).trans hu)
theorem e8_dn {f : Nat → hk_v → hk_v} (h : ∀ j t, f j t (8, i) k = t (8, i) k) (n : Nat) : hk_dn f n t (8, i) k = t (8, i) k :=
  hk_dn_inv (f := f) (fun _ u => u (8, i) k = t (8, i) k) n t rfl (fun j u _ hu => (h j u).trans hu)
theorem e8_dry {j : Nat} : B_dry Z j t (8, i) k = t (8, i) k := by
  unfold B_dry
  split
  · split
    · rw [hk_u_o (show (8 : Nat) ≠ 11 by decide)]
    · unfold T_unload
      rw [T_clear_o (show (8 : Nat) ≠ 11 by decide), e8_it (fun _ _ => e8_unload), hk_u_o (show (8 : Nat) ≠ 11 by decide)]
  · rfl
theorem e8_lose {w : Nat} : T_loseHour Z t w (8, i) k = t (8, i) k := by
  unfold T_loseHour
  refine e8_it (fun j t => ?_) _ _
  unfold B_lose
  refine e8_it (fun g t => ?_) _ _
  unfold B_loseg
  rw [hk_u_o (show (8 : Nat) ≠ 9 by decide), T_give_o (show (8 : Nat) ≠ 3 by decide)]
theorem e8_fill {w j : Nat} : B_fillH w Z j t (8, i) k = t (8, i) k := by
  unfold B_fillH
  split
  · rfl
  · unfold T_fill
    refine e8_dn (fun r t => ?_) _
    unfold B_fill
    refine e8_it (fun g t => ?_) _ _
    unfold B_fillg
    split
    · rfl
    · split
      · rfl
      · rw [T_take_o (show (8 : Nat) ≠ 11 by decide) (show (8 : Nat) ≠ 13 by decide) (show (8 : Nat) ≠ 14 by decide), T_give_o (show (8 : Nat) ≠ 3 by decide)]
theorem e8_pass {w : Nat} : T_passHour Z t w (8, i) k = t (8, i) k := by
  unfold T_passHour
  rw [hk_u_o (show (8 : Nat) ≠ 0 by decide)]
  unfold T_fillHour
  rw [e8_it (fun _ _ => e8_fill), e8_lose]
  unfold T_dryHour
  rw [e8_it (fun _ _ => e8_dry)]
  unfold T_pickHour
  rw [e8_it (fun _ _ => e8_pick)]
theorem e8_hours {w : Nat} {n : Int32} : T_hours Z t w n (8, i) k = t (8, i) k := by
  unfold T_hours
  split
  · rfl
  · split
    · exact e8_it (fun _ _ => e8_pass) _ _
    · rfl
end RR8
theorem e8_waits {t : hk_v} {i k : Nat} {v : Int32} : T_waits t v (8, i) k = t (8, i) k := by
  unfold T_waits
  (repeat' split) <;> simp [hk_u_ap]
theorem e8_sends {t : hk_v} {i k : Nat} {g d : Int32} : T_sends t g d (8, i) k = t (8, i) k := by
  unfold T_sends
  (repeat' split) <;> simp [hk_u_ap]
theorem e8_read {t : hk_v} {i k : Nat} {g d : Int32} : T_read t g d (8, i) k = t (8, i) k := by
  unfold T_read
  (repeat' split) <;> simp [hk_u_ap]
theorem e8_price {t : hk_v} {i k : Nat} {g d : Int32} : T_price t g d (8, i) k = t (8, i) k := by
  unfold T_price T_tell
  (repeat' split) <;> simp [hk_u_ap]
theorem e8_act {t : hk_v} {i k : Nat} {g d : Int32} : T_act t g d (8, i) k = t (8, i) k := by
  unfold T_act T_tell
  (repeat' split) <;> simp [hk_u_ap]
theorem e8_garden {Z : hk_Z} {t : hk_v} {i k : Nat} {a b c : Int32} : T_garden Z t a b c (8, i) k = t (8, i) k := by
  unfold T_garden
  (repeat' split) <;> simp [hk_u_ap, hk_zo_ap]
theorem e8_gang {Z : hk_Z} {t : hk_v} {i k : Nat} {a b : Int32} : T_gang Z t a b (8, i) k = t (8, i) k := by
  unfold T_gang
  (repeat' split) <;> simp [hk_u_ap, hk_zo_ap]
theorem e8_kiln {Z : hk_Z} {t : hk_v} {i k : Nat} {a b : Int32} : T_kiln Z t a b (8, i) k = t (8, i) k := by
  unfold T_kiln
  (repeat' split) <;> simp [hk_u_ap, hk_zo_ap]
