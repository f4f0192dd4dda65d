/-- the reference's constructor: its rows one by one -/
def mi_len (f : Nat) : Nat := if f = 16 then 2886 else if f = 23 then 800 else if 18 ≤ f ∧ f ≤ 22 then 4 else if f = 25 ∨ f = 26 then 100 else if 30 ≤ f ∧ f ≤ 34 then 20 else if f = 36 then 7 else 6
def mi_fld (f : Nat) : Prop := (3 ≤ f ∧ f ≤ 8) ∨ (10 ≤ f ∧ f ≤ 16) ∨ (18 ≤ f ∧ f ≤ 23) ∨ f = 25 ∨ f = 26 ∨ f = 30 ∨ f = 31 ∨ f = 33 ∨ f = 34 ∨ f = 36
def mi_Q (lo a : Nat) (G0 G : hk_G) : Prop := G.1 (.inr (0, 0)) = a ∧ G.2.1 (.inr (0, 0)) = some (.inl 12) ∧ (∀ x, lo ≤ x → G.2.1 (.inr (1, x)) = none) ∧ (∀ f, f < lo → mi_fld f → G.2.2 (.inr (0, 0)) f = .ref (G.1 (.inr (1, f))) ∧ G.2.1 (.inr (1, f)) = some (.inr (.inl (mi_len f)))) ∧ G.2.2 (.inr (0, 0)) 35 = .long 0 ∧ (∀ q, G.1 (.inl q) = G0.1 (.inl q) ∧ G.2.1 (.inl q) = G0.2.1 (.inl q) ∧ ∀ j, G.2.2 (.inl q) j = G0.2.2 (.inl q) j)
theorem hk_add_1 (G : hk_G) (L : hk_L) (a : Nat) (k : hk_k) (r : Nat → Value) (L' : hk_L) : (hk_add G L a k r).1 L' = if L' = L then a else G.1 L' := rfl
theorem hk_add_2 (G : hk_G) (L : hk_L) (a : Nat) (k : hk_k) (r : Nat → Value) (L' : hk_L) : (hk_add G L a k r).2.1 L' = if L' = L then some k else G.2.1 L' := rfl
theorem hk_add_3 (G : hk_G) (L : hk_L) (a : Nat) (k : hk_k) (r : Nat → Value) (L' : hk_L) (j : Nat) : (hk_add G L a k r).2.2 L' j = if L' = L then r j else G.2.2 L' j := rfl
theorem hk_rf_1 (G : hk_G) (L : hk_L) (k : Nat) (v : Value) (L' : hk_L) : (hk_rf G L k v).1 L' = G.1 L' := rfl
theorem hk_rf_2 (G : hk_G) (L : hk_L) (k : Nat) (v : Value) (L' : hk_L) : (hk_rf G L k v).2.1 L' = G.2.1 L' := rfl
theorem hk_rf_3 (G : hk_G) (L : hk_L) (k : Nat) (v : Value) (L' : hk_L) (j : Nat) : (hk_rf G L k v).2.2 L' j = if L' = L ∧ j = k then v else G.2.2 L' j := rfl
theorem mi_A {lo a f b : Nat} {G0 G G1 : hk_G} {k : hk_k} {r : Nat → Value} (h : mi_Q lo a G0 G) (e : G1 = hk_add G (.inr (1, f)) b k r) : G1.1 (.inr (0, 0)) = a ∧ G1.2.1 (.inr (0, 0)) = some (.inl 12) ∧ G1.1 (.inr (1, f)) = b ∧ G1.2.1 (.inr (1, f)) = some k := by
  subst e
  refine ⟨?_, ?_, ?_, ?_⟩
  · rw [hk_add_1, if_neg (by simp)]; exact h.1
  · rw [hk_add_2, if_neg (by simp)]; exact h.2.1
  · rw [hk_add_1, if_pos rfl]
  · rw [hk_add_2, if_pos rfl]
theorem mi_B {lo a f b : Nat} {G0 G G1 G2 : hk_G} {n : Nat} {r : Nat → Value} (h : mi_Q lo a G0 G) (hlo : lo ≤ f) (hf : f ≠ 35) (hs : ∀ x, lo ≤ x → x < f → ¬ mi_fld x) (hn : n = mi_len f) (e : G1 = hk_add G (.inr (1, f)) b (.inr (.inl n)) r) (e2 : G2 = hk_rf G1 (.inr (0, 0)) f (.ref b)) : mi_Q (f + 1) a G0 G2 := by
  obtain ⟨r1, r2, r3, r4⟩ := mi_A h e
  obtain ⟨h1, h2, h3, h4, h5, h6⟩ := h
  subst hn
  subst e2
  refine ⟨r1, r2, fun x hx => ?_, fun x hx hfl => ?_, ?_, fun q => ?_⟩
  · rw [hk_rf_2, e, hk_add_2, if_neg (by simp; omega)]
    exact h3 x (by omega)
  · rw [hk_rf_3, hk_rf_1, hk_rf_2]
    by_cases c : x = f
    · subst c
      rw [if_pos ⟨rfl, rfl⟩, r3]
      exact ⟨rfl, r4⟩
    · have hx2 : x < lo := by
        refine Classical.byContradiction (fun z => ?_)
        exact hs x (by omega) (by omega) hfl
      rw [if_neg (fun q => c q.2), e, hk_add_3, if_neg (by simp), hk_add_1, if_neg (by simp; exact c), hk_add_2, if_neg (by simp; exact c)]
      exact h4 x hx2 hfl
  · rw [hk_rf_3, if_neg (fun q => hf q.2.symm), e, hk_add_3, if_neg (by simp)]
    exact h5
  · obtain ⟨q1, q2, q3⟩ := h6 q
    refine ⟨?_, ?_, fun j => ?_⟩
    · rw [hk_rf_1, e, hk_add_1, if_neg (by simp)]; exact q1
    · rw [hk_rf_2, e, hk_add_2, if_neg (by simp)]; exact q2
    · rw [hk_rf_3, if_neg (by simp), e, hk_add_3, if_neg (by simp)]; exact q3 j
def T_minit (σ : hk_v) : hk_v := (hk_u (hk_zo (hk_zo (hk_zo (hk_zo (hk_zo (hk_zo (hk_zo (hk_zo (hk_zo (hk_zo (hk_zo (hk_zo (hk_zo (hk_zo (hk_zo (hk_zo (hk_zo (hk_u (hk_u (hk_u (hk_u (hk_u (hk_u (hk_zo (hk_zo (hk_zo (hk_zo (hk_zo (hk_zo (hk_zo (hk_zo (hk_zo (hk_u σ (0, 0) 1 10) (1, 3)) (1, 4)) (1, 5)) (1, 6)) (1, 7)) (1, 8)) (1, 10)) (1, 11)) (1, 12)) (1, 12) 0 (-9)) (1, 12) 1 (-9)) (1, 12) 2 (-9)) (1, 12) 3 (-9)) (1, 12) 4 (-9)) (1, 12) 5 (-9)) (1, 13)) (1, 14)) (1, 15)) (1, 16)) (1, 18)) (1, 19)) (1, 20)) (1, 21)) (1, 22)) (1, 23)) (1, 25)) (1, 26)) (1, 30)) (1, 31)) (1, 33)) (1, 34)) (1, 36)) (0, 0) 0 0)
set_option maxHeartbeats 4000000 in
set_option maxRecDepth 100000 in
theorem c_minit (l : Launch) (D : hk_D) (G : hk_G) (τ σ : hk_v) (a : Nat) (ha : G.1 (.inr (0, 0)) = a) (hk : G.2.1 (.inr (0, 0)) = some (.inl 12)) (hno : ∀ x, G.2.1 (.inr (1, x)) = none) (h35 : G.2.2 (.inr (0, 0)) 35 = .long 0) : Met l yX11_init (hk_ws yX11_init cX11_init 1 none) ({ frames := 1, cells := 26, slots := 4065, locals := 12 }) (hk_P D G (hk_cm τ σ) [.ref a]) (hk_Q D (fun v' G' iv' => none = v' ∧ mi_Q 37 a G G' ∧ iv' = hk_cm τ (T_minit σ))) 26 4065 (hk_A D) := by
  refine hk_met (by decide +kernel) (Nat.le_of_ble_eq_true rfl) (fun p e s m below meth c hx hb hr hml hlocks ht hown hin hK hH hS ls hl => ?_)
  have hq : mi_Q 3 a G G := ⟨ha, hk, fun x _ => hno x, fun f h q => by unfold mi_fld at q; omega, h35, fun q => ⟨rfl, rfl, fun _ => rfl⟩⟩
  have hl : lv_has ls 1 [(0, .ref a)] := hl
  refine lv_aload_n hx hb dX11_init_0 rfl (lv_at hl 0 rfl) ?_
  refine W.objInit hx hb hown (ht _ tw_691) (ht _ tw_61) (ht _ tw_62) rfl (by rw [hml]; exact hl.1) rfl dX11_init_1 (Nat.le_of_ble_eq_true rfl) (Nat.le_of_ble_eq_true rfl) ?_
  refine lv_aload_n hx hb dX11_init_4 rfl (lv_at hl 0 rfl) ?_
  refine lv_bipush (v := 10) hx hb dX11_init_5 (by decide) ?_
  refine hk_puti_a (G := G) (L := (.inr (0, 0))) hq.1 hx hb ht hown hK hH hS kc_12 hq.2.1 1 (by decide) rfl tw_693 rfl (Or.inl rfl) rfl dX11_init_7 (fun H locs hH hS => ?_)
  rw [hk_up_r] at hH
  refine lv_aload_n hx hb dX11_init_10 rfl (lv_at hl 0 rfl) ?_
  refine lv_bipush (v := 6) hx hb dX11_init_11 (by decide) ?_
  refine hk_newi (G := G) (L := (.inr (1, 3))) (n := 6) hx hb ht hK hH hS (hq.2.2.1 _ (by decide)) tw_103 rfl (by omega) ⟨Nat.le_of_ble_eq_true rfl, Nat.le_of_ble_eq_true rfl⟩ dX11_init_13 (fun H a1 hH hS => ?_)
  rw [hk_zr_r] at hH
  obtain ⟨G1, hG1⟩ : ∃ g, g = hk_add G (.inr (1, 3)) a1 (.inr (.inl 6)) (fun _ => .null) := ⟨_, rfl⟩
  rw [← hG1] at hH
  have hra := mi_A hq hG1
  refine hk_putr_a (G := G1) (L := (.inr (0, 0))) (v := .ref a1) hra.1 hx hb ht hown hK hH hS kc_12 hra.2.1 3 (by decide) rfl tw_695 rfl (Or.inr ⟨rfl, hin, rfl⟩) rfl rfl dX11_init_15 (fun H locs hH hS => ?_)
  obtain ⟨G2, hG2⟩ : ∃ g, g = hk_rf G1 (.inr (0, 0)) 3 (.ref a1) := ⟨_, rfl⟩
  rw [← hG2] at hH
  have hq := mi_B hq (by decide) (by decide) (fun x h1 h2 q => by unfold mi_fld at q; omega) (by decide) hG1 hG2
  refine lv_aload_n hx hb dX11_init_18 rfl (lv_at hl 0 rfl) ?_
  refine lv_bipush (v := 6) hx hb dX11_init_19 (by decide) ?_
  refine hk_newi (G := G2) (L := (.inr (1, 4))) (n := 6) hx hb ht hK hH hS (hq.2.2.1 _ (by decide)) tw_103 rfl (by omega) ⟨Nat.le_of_ble_eq_true rfl, Nat.le_of_ble_eq_true rfl⟩ dX11_init_21 (fun H a3 hH hS => ?_)
  rw [hk_zr_r] at hH
  obtain ⟨G3, hG3⟩ : ∃ g, g = hk_add G2 (.inr (1, 4)) a3 (.inr (.inl 6)) (fun _ => .null) := ⟨_, rfl⟩
  rw [← hG3] at hH
  have hra := mi_A hq hG3
  refine hk_putr_a (G := G3) (L := (.inr (0, 0))) (v := .ref a3) hra.1 hx hb ht hown hK hH hS kc_12 hra.2.1 4 (by decide) rfl tw_696 rfl (Or.inr ⟨rfl, hin, rfl⟩) rfl rfl dX11_init_23 (fun H locs hH hS => ?_)
  obtain ⟨G4, hG4⟩ : ∃ g, g = hk_rf G3 (.inr (0, 0)) 4 (.ref a3) := ⟨_, rfl⟩
  rw [← hG4] at hH
  have hq := mi_B hq (by decide) (by decide) (fun x h1 h2 q => by unfold mi_fld at q; omega) (by decide) hG3 hG4
  refine lv_aload_n hx hb dX11_init_26 rfl (lv_at hl 0 rfl) ?_
  refine lv_bipush (v := 6) hx hb dX11_init_27 (by decide) ?_
  refine hk_newi (G := G4) (L := (.inr (1, 5))) (n := 6) hx hb ht hK hH hS (hq.2.2.1 _ (by decide)) tw_103 rfl (by omega) ⟨Nat.le_of_ble_eq_true rfl, Nat.le_of_ble_eq_true rfl⟩ dX11_init_29 (fun H a5 hH hS => ?_)
  rw [hk_zr_r] at hH
  obtain ⟨G5, hG5⟩ : ∃ g, g = hk_add G4 (.inr (1, 5)) a5 (.inr (.inl 6)) (fun _ => .null) := ⟨_, rfl⟩
  rw [← hG5] at hH
  have hra := mi_A hq hG5
  refine hk_putr_a (G := G5) (L := (.inr (0, 0))) (v := .ref a5) hra.1 hx hb ht hown hK hH hS kc_12 hra.2.1 5 (by decide) rfl tw_697 rfl (Or.inr ⟨rfl, hin, rfl⟩) rfl rfl dX11_init_31 (fun H locs hH hS => ?_)
  obtain ⟨G6, hG6⟩ : ∃ g, g = hk_rf G5 (.inr (0, 0)) 5 (.ref a5) := ⟨_, rfl⟩
  rw [← hG6] at hH
  have hq := mi_B hq (by decide) (by decide) (fun x h1 h2 q => by unfold mi_fld at q; omega) (by decide) hG5 hG6
  refine lv_aload_n hx hb dX11_init_34 rfl (lv_at hl 0 rfl) ?_
  refine lv_bipush (v := 6) hx hb dX11_init_35 (by decide) ?_
  refine hk_newi (G := G6) (L := (.inr (1, 6))) (n := 6) hx hb ht hK hH hS (hq.2.2.1 _ (by decide)) tw_103 rfl (by omega) ⟨Nat.le_of_ble_eq_true rfl, Nat.le_of_ble_eq_true rfl⟩ dX11_init_37 (fun H a7 hH hS => ?_)
  rw [hk_zr_r] at hH
  obtain ⟨G7, hG7⟩ : ∃ g, g = hk_add G6 (.inr (1, 6)) a7 (.inr (.inl 6)) (fun _ => .null) := ⟨_, rfl⟩
  rw [← hG7] at hH
  have hra := mi_A hq hG7
  refine hk_putr_a (G := G7) (L := (.inr (0, 0))) (v := .ref a7) hra.1 hx hb ht hown hK hH hS kc_12 hra.2.1 6 (by decide) rfl tw_698 rfl (Or.inr ⟨rfl, hin, rfl⟩) rfl rfl dX11_init_39 (fun H locs hH hS => ?_)
  obtain ⟨G8, hG8⟩ : ∃ g, g = hk_rf G7 (.inr (0, 0)) 6 (.ref a7) := ⟨_, rfl⟩
  rw [← hG8] at hH
  have hq := mi_B hq (by decide) (by decide) (fun x h1 h2 q => by unfold mi_fld at q; omega) (by decide) hG7 hG8
  refine lv_aload_n hx hb dX11_init_42 rfl (lv_at hl 0 rfl) ?_
  refine lv_bipush (v := 6) hx hb dX11_init_43 (by decide) ?_
  refine hk_newi (G := G8) (L := (.inr (1, 7))) (n := 6) hx hb ht hK hH hS (hq.2.2.1 _ (by decide)) tw_103 rfl (by omega) ⟨Nat.le_of_ble_eq_true rfl, Nat.le_of_ble_eq_true rfl⟩ dX11_init_45 (fun H a9 hH hS => ?_)
  rw [hk_zr_r] at hH
  obtain ⟨G9, hG9⟩ : ∃ g, g = hk_add G8 (.inr (1, 7)) a9 (.inr (.inl 6)) (fun _ => .null) := ⟨_, rfl⟩
  rw [← hG9] at hH
  have hra := mi_A hq hG9
  refine hk_putr_a (G := G9) (L := (.inr (0, 0))) (v := .ref a9) hra.1 hx hb ht hown hK hH hS kc_12 hra.2.1 7 (by decide) rfl tw_699 rfl (Or.inr ⟨rfl, hin, rfl⟩) rfl rfl dX11_init_47 (fun H locs hH hS => ?_)
  obtain ⟨G10, hG10⟩ : ∃ g, g = hk_rf G9 (.inr (0, 0)) 7 (.ref a9) := ⟨_, rfl⟩
  rw [← hG10] at hH
  have hq := mi_B hq (by decide) (by decide) (fun x h1 h2 q => by unfold mi_fld at q; omega) (by decide) hG9 hG10
  refine lv_aload_n hx hb dX11_init_50 rfl (lv_at hl 0 rfl) ?_
  refine lv_bipush (v := 6) hx hb dX11_init_51 (by decide) ?_
  refine hk_newi (G := G10) (L := (.inr (1, 8))) (n := 6) hx hb ht hK hH hS (hq.2.2.1 _ (by decide)) tw_103 rfl (by omega) ⟨Nat.le_of_ble_eq_true rfl, Nat.le_of_ble_eq_true rfl⟩ dX11_init_53 (fun H a11 hH hS => ?_)
  rw [hk_zr_r] at hH
  obtain ⟨G11, hG11⟩ : ∃ g, g = hk_add G10 (.inr (1, 8)) a11 (.inr (.inl 6)) (fun _ => .null) := ⟨_, rfl⟩
  rw [← hG11] at hH
  have hra := mi_A hq hG11
  refine hk_putr_a (G := G11) (L := (.inr (0, 0))) (v := .ref a11) hra.1 hx hb ht hown hK hH hS kc_12 hra.2.1 8 (by decide) rfl tw_700 rfl (Or.inr ⟨rfl, hin, rfl⟩) rfl rfl dX11_init_55 (fun H locs hH hS => ?_)
  obtain ⟨G12, hG12⟩ : ∃ g, g = hk_rf G11 (.inr (0, 0)) 8 (.ref a11) := ⟨_, rfl⟩
  rw [← hG12] at hH
  have hq := mi_B hq (by decide) (by decide) (fun x h1 h2 q => by unfold mi_fld at q; omega) (by decide) hG11 hG12
  refine lv_aload_n hx hb dX11_init_58 rfl (lv_at hl 0 rfl) ?_
  refine lv_bipush (v := 6) hx hb dX11_init_59 (by decide) ?_
  refine hk_newi (G := G12) (L := (.inr (1, 10))) (n := 6) hx hb ht hK hH hS (hq.2.2.1 _ (by decide)) tw_103 rfl (by omega) ⟨Nat.le_of_ble_eq_true rfl, Nat.le_of_ble_eq_true rfl⟩ dX11_init_61 (fun H a13 hH hS => ?_)
  rw [hk_zr_r] at hH
  obtain ⟨G13, hG13⟩ : ∃ g, g = hk_add G12 (.inr (1, 10)) a13 (.inr (.inl 6)) (fun _ => .null) := ⟨_, rfl⟩
  rw [← hG13] at hH
  have hra := mi_A hq hG13
  refine hk_putr_a (G := G13) (L := (.inr (0, 0))) (v := .ref a13) hra.1 hx hb ht hown hK hH hS kc_12 hra.2.1 10 (by decide) rfl tw_702 rfl (Or.inr ⟨rfl, hin, rfl⟩) rfl rfl dX11_init_63 (fun H locs hH hS => ?_)
  obtain ⟨G14, hG14⟩ : ∃ g, g = hk_rf G13 (.inr (0, 0)) 10 (.ref a13) := ⟨_, rfl⟩
  rw [← hG14] at hH
  have hq := mi_B hq (by decide) (by decide) (fun x h1 h2 q => by unfold mi_fld at q; omega) (by decide) hG13 hG14
  refine lv_aload_n hx hb dX11_init_66 rfl (lv_at hl 0 rfl) ?_
  refine lv_bipush (v := 6) hx hb dX11_init_67 (by decide) ?_
  refine hk_newi (G := G14) (L := (.inr (1, 11))) (n := 6) hx hb ht hK hH hS (hq.2.2.1 _ (by decide)) tw_103 rfl (by omega) ⟨Nat.le_of_ble_eq_true rfl, Nat.le_of_ble_eq_true rfl⟩ dX11_init_69 (fun H a15 hH hS => ?_)
  rw [hk_zr_r] at hH
  obtain ⟨G15, hG15⟩ : ∃ g, g = hk_add G14 (.inr (1, 11)) a15 (.inr (.inl 6)) (fun _ => .null) := ⟨_, rfl⟩
  rw [← hG15] at hH
  have hra := mi_A hq hG15
  refine hk_putr_a (G := G15) (L := (.inr (0, 0))) (v := .ref a15) hra.1 hx hb ht hown hK hH hS kc_12 hra.2.1 11 (by decide) rfl tw_703 rfl (Or.inr ⟨rfl, hin, rfl⟩) rfl rfl dX11_init_71 (fun H locs hH hS => ?_)
  obtain ⟨G16, hG16⟩ : ∃ g, g = hk_rf G15 (.inr (0, 0)) 11 (.ref a15) := ⟨_, rfl⟩
  rw [← hG16] at hH
  have hq := mi_B hq (by decide) (by decide) (fun x h1 h2 q => by unfold mi_fld at q; omega) (by decide) hG15 hG16
  refine lv_aload_n hx hb dX11_init_74 rfl (lv_at hl 0 rfl) ?_
  refine lv_bipush (v := 6) hx hb dX11_init_75 (by decide) ?_
  refine hk_newi (G := G16) (L := (.inr (1, 12))) (n := 6) hx hb ht hK hH hS (hq.2.2.1 _ (by decide)) tw_103 rfl (by omega) ⟨Nat.le_of_ble_eq_true rfl, Nat.le_of_ble_eq_true rfl⟩ dX11_init_77 (fun H a17 hH hS => ?_)
  rw [hk_zr_r] at hH
  obtain ⟨G17, hG17⟩ : ∃ g, g = hk_add G16 (.inr (1, 12)) a17 (.inr (.inl 6)) (fun _ => .null) := ⟨_, rfl⟩
  rw [← hG17] at hH
  have hra := mi_A hq hG17
  refine lv_dup hx hb dX11_init_79 rfl ?_
  refine lv_iconst (v := 0) hx hb dX11_init_80 (by decide) ?_
  refine lv_bipush (v := -9) hx hb dX11_init_81 (by decide) ?_
  refine hk_ist_a (G := G17) (L := (.inr (1, 12))) hra.2.2.1 hx hb hK hH hS hra.2.2.2 (show vp_in (nI 0) 6 from vp_in_nI (by omega) (by omega)) dX11_init_83 (fun H locs hH hS => ?_)
  rw [hk_up_r, show (0 : Int32).toNatClampNeg = 0 from rfl] at hH
  refine lv_dup hx hb dX11_init_84 rfl ?_
  refine lv_iconst (v := 1) hx hb dX11_init_85 (by decide) ?_
  refine lv_bipush (v := -9) hx hb dX11_init_86 (by decide) ?_
  refine hk_ist_a (G := G17) (L := (.inr (1, 12))) hra.2.2.1 hx hb hK hH hS hra.2.2.2 (show vp_in (nI 1) 6 from vp_in_nI (by omega) (by omega)) dX11_init_88 (fun H locs hH hS => ?_)
  rw [hk_up_r, show (1 : Int32).toNatClampNeg = 1 from rfl] at hH
  refine lv_dup hx hb dX11_init_89 rfl ?_
  refine lv_iconst (v := 2) hx hb dX11_init_90 (by decide) ?_
  refine lv_bipush (v := -9) hx hb dX11_init_91 (by decide) ?_
  refine hk_ist_a (G := G17) (L := (.inr (1, 12))) hra.2.2.1 hx hb hK hH hS hra.2.2.2 (show vp_in (nI 2) 6 from vp_in_nI (by omega) (by omega)) dX11_init_93 (fun H locs hH hS => ?_)
  rw [hk_up_r, show (2 : Int32).toNatClampNeg = 2 from rfl] at hH
  refine lv_dup hx hb dX11_init_94 rfl ?_
  refine lv_iconst (v := 3) hx hb dX11_init_95 (by decide) ?_
  refine lv_bipush (v := -9) hx hb dX11_init_96 (by decide) ?_
  refine hk_ist_a (G := G17) (L := (.inr (1, 12))) hra.2.2.1 hx hb hK hH hS hra.2.2.2 (show vp_in (nI 3) 6 from vp_in_nI (by omega) (by omega)) dX11_init_98 (fun H locs hH hS => ?_)
  rw [hk_up_r, show (3 : Int32).toNatClampNeg = 3 from rfl] at hH
  refine lv_dup hx hb dX11_init_99 rfl ?_
  refine lv_iconst (v := 4) hx hb dX11_init_100 (by decide) ?_
  refine lv_bipush (v := -9) hx hb dX11_init_101 (by decide) ?_
  refine hk_ist_a (G := G17) (L := (.inr (1, 12))) hra.2.2.1 hx hb hK hH hS hra.2.2.2 (show vp_in (nI 4) 6 from vp_in_nI (by omega) (by omega)) dX11_init_103 (fun H locs hH hS => ?_)
  rw [hk_up_r, show (4 : Int32).toNatClampNeg = 4 from rfl] at hH
  refine lv_dup hx hb dX11_init_104 rfl ?_
  refine lv_iconst (v := 5) hx hb dX11_init_105 (by decide) ?_
  refine lv_bipush (v := -9) hx hb dX11_init_106 (by decide) ?_
  refine hk_ist_a (G := G17) (L := (.inr (1, 12))) hra.2.2.1 hx hb hK hH hS hra.2.2.2 (show vp_in (nI 5) 6 from vp_in_nI (by omega) (by omega)) dX11_init_108 (fun H locs hH hS => ?_)
  rw [hk_up_r, show (5 : Int32).toNatClampNeg = 5 from rfl] at hH
  refine hk_putr_a (G := G17) (L := (.inr (0, 0))) (v := .ref a17) hra.1 hx hb ht hown hK hH hS kc_12 hra.2.1 12 (by decide) rfl tw_704 rfl (Or.inr ⟨rfl, hin, rfl⟩) rfl rfl dX11_init_109 (fun H locs hH hS => ?_)
  obtain ⟨G18, hG18⟩ : ∃ g, g = hk_rf G17 (.inr (0, 0)) 12 (.ref a17) := ⟨_, rfl⟩
  rw [← hG18] at hH
  have hq := mi_B hq (by decide) (by decide) (fun x h1 h2 q => by unfold mi_fld at q; omega) (by decide) hG17 hG18
  refine lv_aload_n hx hb dX11_init_112 rfl (lv_at hl 0 rfl) ?_
  refine lv_bipush (v := 6) hx hb dX11_init_113 (by decide) ?_
  refine hk_newi (G := G18) (L := (.inr (1, 13))) (n := 6) hx hb ht hK hH hS (hq.2.2.1 _ (by decide)) tw_103 rfl (by omega) ⟨Nat.le_of_ble_eq_true rfl, Nat.le_of_ble_eq_true rfl⟩ dX11_init_115 (fun H a19 hH hS => ?_)
  rw [hk_zr_r] at hH
  obtain ⟨G19, hG19⟩ : ∃ g, g = hk_add G18 (.inr (1, 13)) a19 (.inr (.inl 6)) (fun _ => .null) := ⟨_, rfl⟩
  rw [← hG19] at hH
  have hra := mi_A hq hG19
  refine hk_putr_a (G := G19) (L := (.inr (0, 0))) (v := .ref a19) hra.1 hx hb ht hown hK hH hS kc_12 hra.2.1 13 (by decide) rfl tw_705 rfl (Or.inr ⟨rfl, hin, rfl⟩) rfl rfl dX11_init_117 (fun H locs hH hS => ?_)
  obtain ⟨G20, hG20⟩ : ∃ g, g = hk_rf G19 (.inr (0, 0)) 13 (.ref a19) := ⟨_, rfl⟩
  rw [← hG20] at hH
  have hq := mi_B hq (by decide) (by decide) (fun x h1 h2 q => by unfold mi_fld at q; omega) (by decide) hG19 hG20
  refine lv_aload_n hx hb dX11_init_120 rfl (lv_at hl 0 rfl) ?_
  refine lv_bipush (v := 6) hx hb dX11_init_121 (by decide) ?_
  refine hk_newi (G := G20) (L := (.inr (1, 14))) (n := 6) hx hb ht hK hH hS (hq.2.2.1 _ (by decide)) tw_103 rfl (by omega) ⟨Nat.le_of_ble_eq_true rfl, Nat.le_of_ble_eq_true rfl⟩ dX11_init_123 (fun H a21 hH hS => ?_)
  rw [hk_zr_r] at hH
  obtain ⟨G21, hG21⟩ : ∃ g, g = hk_add G20 (.inr (1, 14)) a21 (.inr (.inl 6)) (fun _ => .null) := ⟨_, rfl⟩
  rw [← hG21] at hH
  have hra := mi_A hq hG21
  refine hk_putr_a (G := G21) (L := (.inr (0, 0))) (v := .ref a21) hra.1 hx hb ht hown hK hH hS kc_12 hra.2.1 14 (by decide) rfl tw_706 rfl (Or.inr ⟨rfl, hin, rfl⟩) rfl rfl dX11_init_125 (fun H locs hH hS => ?_)
  obtain ⟨G22, hG22⟩ : ∃ g, g = hk_rf G21 (.inr (0, 0)) 14 (.ref a21) := ⟨_, rfl⟩
  rw [← hG22] at hH
  have hq := mi_B hq (by decide) (by decide) (fun x h1 h2 q => by unfold mi_fld at q; omega) (by decide) hG21 hG22
  refine lv_aload_n hx hb dX11_init_128 rfl (lv_at hl 0 rfl) ?_
  refine lv_bipush (v := 6) hx hb dX11_init_129 (by decide) ?_
  refine hk_newi (G := G22) (L := (.inr (1, 15))) (n := 6) hx hb ht hK hH hS (hq.2.2.1 _ (by decide)) tw_103 rfl (by omega) ⟨Nat.le_of_ble_eq_true rfl, Nat.le_of_ble_eq_true rfl⟩ dX11_init_131 (fun H a23 hH hS => ?_)
  rw [hk_zr_r] at hH
  obtain ⟨G23, hG23⟩ : ∃ g, g = hk_add G22 (.inr (1, 15)) a23 (.inr (.inl 6)) (fun _ => .null) := ⟨_, rfl⟩
  rw [← hG23] at hH
  have hra := mi_A hq hG23
  refine hk_putr_a (G := G23) (L := (.inr (0, 0))) (v := .ref a23) hra.1 hx hb ht hown hK hH hS kc_12 hra.2.1 15 (by decide) rfl tw_707 rfl (Or.inr ⟨rfl, hin, rfl⟩) rfl rfl dX11_init_133 (fun H locs hH hS => ?_)
  obtain ⟨G24, hG24⟩ : ∃ g, g = hk_rf G23 (.inr (0, 0)) 15 (.ref a23) := ⟨_, rfl⟩
  rw [← hG24] at hH
  have hq := mi_B hq (by decide) (by decide) (fun x h1 h2 q => by unfold mi_fld at q; omega) (by decide) hG23 hG24
  refine lv_aload_n hx hb dX11_init_136 rfl (lv_at hl 0 rfl) ?_
  refine lv_sipush (v := 2886) hx hb dX11_init_137 (by decide) ?_
  refine hk_newi (G := G24) (L := (.inr (1, 16))) (n := 2886) hx hb ht hK hH hS (hq.2.2.1 _ (by decide)) tw_103 rfl (by omega) ⟨Nat.le_of_ble_eq_true rfl, Nat.le_of_ble_eq_true rfl⟩ dX11_init_140 (fun H a25 hH hS => ?_)
  rw [hk_zr_r] at hH
  obtain ⟨G25, hG25⟩ : ∃ g, g = hk_add G24 (.inr (1, 16)) a25 (.inr (.inl 2886)) (fun _ => .null) := ⟨_, rfl⟩
  rw [← hG25] at hH
  have hra := mi_A hq hG25
  refine hk_putr_a (G := G25) (L := (.inr (0, 0))) (v := .ref a25) hra.1 hx hb ht hown hK hH hS kc_12 hra.2.1 16 (by decide) rfl tw_708 rfl (Or.inr ⟨rfl, hin, rfl⟩) rfl rfl dX11_init_142 (fun H locs hH hS => ?_)
  obtain ⟨G26, hG26⟩ : ∃ g, g = hk_rf G25 (.inr (0, 0)) 16 (.ref a25) := ⟨_, rfl⟩
  rw [← hG26] at hH
  have hq := mi_B hq (by decide) (by decide) (fun x h1 h2 q => by unfold mi_fld at q; omega) (by decide) hG25 hG26
  refine lv_aload_n hx hb dX11_init_145 rfl (lv_at hl 0 rfl) ?_
  refine lv_iconst (v := 4) hx hb dX11_init_146 (by decide) ?_
  refine hk_newi (G := G26) (L := (.inr (1, 18))) (n := 4) hx hb ht hK hH hS (hq.2.2.1 _ (by decide)) tw_103 rfl (by omega) ⟨Nat.le_of_ble_eq_true rfl, Nat.le_of_ble_eq_true rfl⟩ dX11_init_147 (fun H a27 hH hS => ?_)
  rw [hk_zr_r] at hH
  obtain ⟨G27, hG27⟩ : ∃ g, g = hk_add G26 (.inr (1, 18)) a27 (.inr (.inl 4)) (fun _ => .null) := ⟨_, rfl⟩
  rw [← hG27] at hH
  have hra := mi_A hq hG27
  refine hk_putr_a (G := G27) (L := (.inr (0, 0))) (v := .ref a27) hra.1 hx hb ht hown hK hH hS kc_12 hra.2.1 18 (by decide) rfl tw_710 rfl (Or.inr ⟨rfl, hin, rfl⟩) rfl rfl dX11_init_149 (fun H locs hH hS => ?_)
  obtain ⟨G28, hG28⟩ : ∃ g, g = hk_rf G27 (.inr (0, 0)) 18 (.ref a27) := ⟨_, rfl⟩
  rw [← hG28] at hH
  have hq := mi_B hq (by decide) (by decide) (fun x h1 h2 q => by unfold mi_fld at q; omega) (by decide) hG27 hG28
  refine lv_aload_n hx hb dX11_init_152 rfl (lv_at hl 0 rfl) ?_
  refine lv_iconst (v := 4) hx hb dX11_init_153 (by decide) ?_
  refine hk_newi (G := G28) (L := (.inr (1, 19))) (n := 4) hx hb ht hK hH hS (hq.2.2.1 _ (by decide)) tw_103 rfl (by omega) ⟨Nat.le_of_ble_eq_true rfl, Nat.le_of_ble_eq_true rfl⟩ dX11_init_154 (fun H a29 hH hS => ?_)
  rw [hk_zr_r] at hH
  obtain ⟨G29, hG29⟩ : ∃ g, g = hk_add G28 (.inr (1, 19)) a29 (.inr (.inl 4)) (fun _ => .null) := ⟨_, rfl⟩
  rw [← hG29] at hH
  have hra := mi_A hq hG29
  refine hk_putr_a (G := G29) (L := (.inr (0, 0))) (v := .ref a29) hra.1 hx hb ht hown hK hH hS kc_12 hra.2.1 19 (by decide) rfl tw_711 rfl (Or.inr ⟨rfl, hin, rfl⟩) rfl rfl dX11_init_156 (fun H locs hH hS => ?_)
  obtain ⟨G30, hG30⟩ : ∃ g, g = hk_rf G29 (.inr (0, 0)) 19 (.ref a29) := ⟨_, rfl⟩
  rw [← hG30] at hH
  have hq := mi_B hq (by decide) (by decide) (fun x h1 h2 q => by unfold mi_fld at q; omega) (by decide) hG29 hG30
  refine lv_aload_n hx hb dX11_init_159 rfl (lv_at hl 0 rfl) ?_
  refine lv_iconst (v := 4) hx hb dX11_init_160 (by decide) ?_
  refine hk_newi (G := G30) (L := (.inr (1, 20))) (n := 4) hx hb ht hK hH hS (hq.2.2.1 _ (by decide)) tw_103 rfl (by omega) ⟨Nat.le_of_ble_eq_true rfl, Nat.le_of_ble_eq_true rfl⟩ dX11_init_161 (fun H a31 hH hS => ?_)
  rw [hk_zr_r] at hH
  obtain ⟨G31, hG31⟩ : ∃ g, g = hk_add G30 (.inr (1, 20)) a31 (.inr (.inl 4)) (fun _ => .null) := ⟨_, rfl⟩
  rw [← hG31] at hH
  have hra := mi_A hq hG31
  refine hk_putr_a (G := G31) (L := (.inr (0, 0))) (v := .ref a31) hra.1 hx hb ht hown hK hH hS kc_12 hra.2.1 20 (by decide) rfl tw_712 rfl (Or.inr ⟨rfl, hin, rfl⟩) rfl rfl dX11_init_163 (fun H locs hH hS => ?_)
  obtain ⟨G32, hG32⟩ : ∃ g, g = hk_rf G31 (.inr (0, 0)) 20 (.ref a31) := ⟨_, rfl⟩
  rw [← hG32] at hH
  have hq := mi_B hq (by decide) (by decide) (fun x h1 h2 q => by unfold mi_fld at q; omega) (by decide) hG31 hG32
  refine lv_aload_n hx hb dX11_init_166 rfl (lv_at hl 0 rfl) ?_
  refine lv_iconst (v := 4) hx hb dX11_init_167 (by decide) ?_
  refine hk_newi (G := G32) (L := (.inr (1, 21))) (n := 4) hx hb ht hK hH hS (hq.2.2.1 _ (by decide)) tw_103 rfl (by omega) ⟨Nat.le_of_ble_eq_true rfl, Nat.le_of_ble_eq_true rfl⟩ dX11_init_168 (fun H a33 hH hS => ?_)
  rw [hk_zr_r] at hH
  obtain ⟨G33, hG33⟩ : ∃ g, g = hk_add G32 (.inr (1, 21)) a33 (.inr (.inl 4)) (fun _ => .null) := ⟨_, rfl⟩
  rw [← hG33] at hH
  have hra := mi_A hq hG33
  refine hk_putr_a (G := G33) (L := (.inr (0, 0))) (v := .ref a33) hra.1 hx hb ht hown hK hH hS kc_12 hra.2.1 21 (by decide) rfl tw_713 rfl (Or.inr ⟨rfl, hin, rfl⟩) rfl rfl dX11_init_170 (fun H locs hH hS => ?_)
  obtain ⟨G34, hG34⟩ : ∃ g, g = hk_rf G33 (.inr (0, 0)) 21 (.ref a33) := ⟨_, rfl⟩
  rw [← hG34] at hH
  have hq := mi_B hq (by decide) (by decide) (fun x h1 h2 q => by unfold mi_fld at q; omega) (by decide) hG33 hG34
  refine lv_aload_n hx hb dX11_init_173 rfl (lv_at hl 0 rfl) ?_
  refine lv_iconst (v := 4) hx hb dX11_init_174 (by decide) ?_
  refine hk_newi (G := G34) (L := (.inr (1, 22))) (n := 4) hx hb ht hK hH hS (hq.2.2.1 _ (by decide)) tw_103 rfl (by omega) ⟨Nat.le_of_ble_eq_true rfl, Nat.le_of_ble_eq_true rfl⟩ dX11_init_175 (fun H a35 hH hS => ?_)
  rw [hk_zr_r] at hH
  obtain ⟨G35, hG35⟩ : ∃ g, g = hk_add G34 (.inr (1, 22)) a35 (.inr (.inl 4)) (fun _ => .null) := ⟨_, rfl⟩
  rw [← hG35] at hH
  have hra := mi_A hq hG35
  refine hk_putr_a (G := G35) (L := (.inr (0, 0))) (v := .ref a35) hra.1 hx hb ht hown hK hH hS kc_12 hra.2.1 22 (by decide) rfl tw_714 rfl (Or.inr ⟨rfl, hin, rfl⟩) rfl rfl dX11_init_177 (fun H locs hH hS => ?_)
  obtain ⟨G36, hG36⟩ : ∃ g, g = hk_rf G35 (.inr (0, 0)) 22 (.ref a35) := ⟨_, rfl⟩
  rw [← hG36] at hH
  have hq := mi_B hq (by decide) (by decide) (fun x h1 h2 q => by unfold mi_fld at q; omega) (by decide) hG35 hG36
  refine lv_aload_n hx hb dX11_init_180 rfl (lv_at hl 0 rfl) ?_
  refine lv_sipush (v := 800) hx hb dX11_init_181 (by decide) ?_
  refine hk_newi (G := G36) (L := (.inr (1, 23))) (n := 800) hx hb ht hK hH hS (hq.2.2.1 _ (by decide)) tw_103 rfl (by omega) ⟨Nat.le_of_ble_eq_true rfl, Nat.le_of_ble_eq_true rfl⟩ dX11_init_184 (fun H a37 hH hS => ?_)
  rw [hk_zr_r] at hH
  obtain ⟨G37, hG37⟩ : ∃ g, g = hk_add G36 (.inr (1, 23)) a37 (.inr (.inl 800)) (fun _ => .null) := ⟨_, rfl⟩
  rw [← hG37] at hH
  have hra := mi_A hq hG37
  refine hk_putr_a (G := G37) (L := (.inr (0, 0))) (v := .ref a37) hra.1 hx hb ht hown hK hH hS kc_12 hra.2.1 23 (by decide) rfl tw_715 rfl (Or.inr ⟨rfl, hin, rfl⟩) rfl rfl dX11_init_186 (fun H locs hH hS => ?_)
  obtain ⟨G38, hG38⟩ : ∃ g, g = hk_rf G37 (.inr (0, 0)) 23 (.ref a37) := ⟨_, rfl⟩
  rw [← hG38] at hH
  have hq := mi_B hq (by decide) (by decide) (fun x h1 h2 q => by unfold mi_fld at q; omega) (by decide) hG37 hG38
  refine lv_aload_n hx hb dX11_init_189 rfl (lv_at hl 0 rfl) ?_
  refine lv_bipush (v := 100) hx hb dX11_init_190 (by decide) ?_
  refine hk_newi (G := G38) (L := (.inr (1, 25))) (n := 100) hx hb ht hK hH hS (hq.2.2.1 _ (by decide)) tw_103 rfl (by omega) ⟨Nat.le_of_ble_eq_true rfl, Nat.le_of_ble_eq_true rfl⟩ dX11_init_192 (fun H a39 hH hS => ?_)
  rw [hk_zr_r] at hH
  obtain ⟨G39, hG39⟩ : ∃ g, g = hk_add G38 (.inr (1, 25)) a39 (.inr (.inl 100)) (fun _ => .null) := ⟨_, rfl⟩
  rw [← hG39] at hH
  have hra := mi_A hq hG39
  refine hk_putr_a (G := G39) (L := (.inr (0, 0))) (v := .ref a39) hra.1 hx hb ht hown hK hH hS kc_12 hra.2.1 25 (by decide) rfl tw_717 rfl (Or.inr ⟨rfl, hin, rfl⟩) rfl rfl dX11_init_194 (fun H locs hH hS => ?_)
  obtain ⟨G40, hG40⟩ : ∃ g, g = hk_rf G39 (.inr (0, 0)) 25 (.ref a39) := ⟨_, rfl⟩
  rw [← hG40] at hH
  have hq := mi_B hq (by decide) (by decide) (fun x h1 h2 q => by unfold mi_fld at q; omega) (by decide) hG39 hG40
  refine lv_aload_n hx hb dX11_init_197 rfl (lv_at hl 0 rfl) ?_
  refine lv_bipush (v := 100) hx hb dX11_init_198 (by decide) ?_
  refine hk_newi (G := G40) (L := (.inr (1, 26))) (n := 100) hx hb ht hK hH hS (hq.2.2.1 _ (by decide)) tw_103 rfl (by omega) ⟨Nat.le_of_ble_eq_true rfl, Nat.le_of_ble_eq_true rfl⟩ dX11_init_200 (fun H a41 hH hS => ?_)
  rw [hk_zr_r] at hH
  obtain ⟨G41, hG41⟩ : ∃ g, g = hk_add G40 (.inr (1, 26)) a41 (.inr (.inl 100)) (fun _ => .null) := ⟨_, rfl⟩
  rw [← hG41] at hH
  have hra := mi_A hq hG41
  refine hk_putr_a (G := G41) (L := (.inr (0, 0))) (v := .ref a41) hra.1 hx hb ht hown hK hH hS kc_12 hra.2.1 26 (by decide) rfl tw_718 rfl (Or.inr ⟨rfl, hin, rfl⟩) rfl rfl dX11_init_202 (fun H locs hH hS => ?_)
  obtain ⟨G42, hG42⟩ : ∃ g, g = hk_rf G41 (.inr (0, 0)) 26 (.ref a41) := ⟨_, rfl⟩
  rw [← hG42] at hH
  have hq := mi_B hq (by decide) (by decide) (fun x h1 h2 q => by unfold mi_fld at q; omega) (by decide) hG41 hG42
  refine lv_aload_n hx hb dX11_init_205 rfl (lv_at hl 0 rfl) ?_
  refine lv_bipush (v := 20) hx hb dX11_init_206 (by decide) ?_
  refine hk_newi (G := G42) (L := (.inr (1, 30))) (n := 20) hx hb ht hK hH hS (hq.2.2.1 _ (by decide)) tw_103 rfl (by omega) ⟨Nat.le_of_ble_eq_true rfl, Nat.le_of_ble_eq_true rfl⟩ dX11_init_208 (fun H a43 hH hS => ?_)
  rw [hk_zr_r] at hH
  obtain ⟨G43, hG43⟩ : ∃ g, g = hk_add G42 (.inr (1, 30)) a43 (.inr (.inl 20)) (fun _ => .null) := ⟨_, rfl⟩
  rw [← hG43] at hH
  have hra := mi_A hq hG43
  refine hk_putr_a (G := G43) (L := (.inr (0, 0))) (v := .ref a43) hra.1 hx hb ht hown hK hH hS kc_12 hra.2.1 30 (by decide) rfl tw_722 rfl (Or.inr ⟨rfl, hin, rfl⟩) rfl rfl dX11_init_210 (fun H locs hH hS => ?_)
  obtain ⟨G44, hG44⟩ : ∃ g, g = hk_rf G43 (.inr (0, 0)) 30 (.ref a43) := ⟨_, rfl⟩
  rw [← hG44] at hH
  have hq := mi_B hq (by decide) (by decide) (fun x h1 h2 q => by unfold mi_fld at q; omega) (by decide) hG43 hG44
  refine lv_aload_n hx hb dX11_init_213 rfl (lv_at hl 0 rfl) ?_
  refine lv_bipush (v := 20) hx hb dX11_init_214 (by decide) ?_
  refine hk_newi (G := G44) (L := (.inr (1, 31))) (n := 20) hx hb ht hK hH hS (hq.2.2.1 _ (by decide)) tw_103 rfl (by omega) ⟨Nat.le_of_ble_eq_true rfl, Nat.le_of_ble_eq_true rfl⟩ dX11_init_216 (fun H a45 hH hS => ?_)
  rw [hk_zr_r] at hH
  obtain ⟨G45, hG45⟩ : ∃ g, g = hk_add G44 (.inr (1, 31)) a45 (.inr (.inl 20)) (fun _ => .null) := ⟨_, rfl⟩
  rw [← hG45] at hH
  have hra := mi_A hq hG45
  refine hk_putr_a (G := G45) (L := (.inr (0, 0))) (v := .ref a45) hra.1 hx hb ht hown hK hH hS kc_12 hra.2.1 31 (by decide) rfl tw_723 rfl (Or.inr ⟨rfl, hin, rfl⟩) rfl rfl dX11_init_218 (fun H locs hH hS => ?_)
  obtain ⟨G46, hG46⟩ : ∃ g, g = hk_rf G45 (.inr (0, 0)) 31 (.ref a45) := ⟨_, rfl⟩
  rw [← hG46] at hH
  have hq := mi_B hq (by decide) (by decide) (fun x h1 h2 q => by unfold mi_fld at q; omega) (by decide) hG45 hG46
  refine lv_aload_n hx hb dX11_init_221 rfl (lv_at hl 0 rfl) ?_
  refine lv_bipush (v := 20) hx hb dX11_init_222 (by decide) ?_
  refine hk_newi (G := G46) (L := (.inr (1, 33))) (n := 20) hx hb ht hK hH hS (hq.2.2.1 _ (by decide)) tw_103 rfl (by omega) ⟨Nat.le_of_ble_eq_true rfl, Nat.le_of_ble_eq_true rfl⟩ dX11_init_224 (fun H a47 hH hS => ?_)
  rw [hk_zr_r] at hH
  obtain ⟨G47, hG47⟩ : ∃ g, g = hk_add G46 (.inr (1, 33)) a47 (.inr (.inl 20)) (fun _ => .null) := ⟨_, rfl⟩
  rw [← hG47] at hH
  have hra := mi_A hq hG47
  refine hk_putr_a (G := G47) (L := (.inr (0, 0))) (v := .ref a47) hra.1 hx hb ht hown hK hH hS kc_12 hra.2.1 33 (by decide) rfl tw_725 rfl (Or.inr ⟨rfl, hin, rfl⟩) rfl rfl dX11_init_226 (fun H locs hH hS => ?_)
  obtain ⟨G48, hG48⟩ : ∃ g, g = hk_rf G47 (.inr (0, 0)) 33 (.ref a47) := ⟨_, rfl⟩
  rw [← hG48] at hH
  have hq := mi_B hq (by decide) (by decide) (fun x h1 h2 q => by unfold mi_fld at q; omega) (by decide) hG47 hG48
  refine lv_aload_n hx hb dX11_init_229 rfl (lv_at hl 0 rfl) ?_
  refine lv_bipush (v := 20) hx hb dX11_init_230 (by decide) ?_
  refine hk_newi (G := G48) (L := (.inr (1, 34))) (n := 20) hx hb ht hK hH hS (hq.2.2.1 _ (by decide)) tw_103 rfl (by omega) ⟨Nat.le_of_ble_eq_true rfl, Nat.le_of_ble_eq_true rfl⟩ dX11_init_232 (fun H a49 hH hS => ?_)
  rw [hk_zr_r] at hH
  obtain ⟨G49, hG49⟩ : ∃ g, g = hk_add G48 (.inr (1, 34)) a49 (.inr (.inl 20)) (fun _ => .null) := ⟨_, rfl⟩
  rw [← hG49] at hH
  have hra := mi_A hq hG49
  refine hk_putr_a (G := G49) (L := (.inr (0, 0))) (v := .ref a49) hra.1 hx hb ht hown hK hH hS kc_12 hra.2.1 34 (by decide) rfl tw_726 rfl (Or.inr ⟨rfl, hin, rfl⟩) rfl rfl dX11_init_234 (fun H locs hH hS => ?_)
  obtain ⟨G50, hG50⟩ : ∃ g, g = hk_rf G49 (.inr (0, 0)) 34 (.ref a49) := ⟨_, rfl⟩
  rw [← hG50] at hH
  have hq := mi_B hq (by decide) (by decide) (fun x h1 h2 q => by unfold mi_fld at q; omega) (by decide) hG49 hG50
  refine lv_aload_n hx hb dX11_init_237 rfl (lv_at hl 0 rfl) ?_
  refine lv_bipush (v := 7) hx hb dX11_init_238 (by decide) ?_
  refine hk_newi (G := G50) (L := (.inr (1, 36))) (n := 7) hx hb ht hK hH hS (hq.2.2.1 _ (by decide)) tw_103 rfl (by omega) ⟨Nat.le_of_ble_eq_true rfl, Nat.le_of_ble_eq_true rfl⟩ dX11_init_240 (fun H a51 hH hS => ?_)
  rw [hk_zr_r] at hH
  obtain ⟨G51, hG51⟩ : ∃ g, g = hk_add G50 (.inr (1, 36)) a51 (.inr (.inl 7)) (fun _ => .null) := ⟨_, rfl⟩
  rw [← hG51] at hH
  have hra := mi_A hq hG51
  refine hk_putr_a (G := G51) (L := (.inr (0, 0))) (v := .ref a51) hra.1 hx hb ht hown hK hH hS kc_12 hra.2.1 36 (by decide) rfl tw_728 rfl (Or.inr ⟨rfl, hin, rfl⟩) rfl rfl dX11_init_242 (fun H locs hH hS => ?_)
  obtain ⟨G52, hG52⟩ : ∃ g, g = hk_rf G51 (.inr (0, 0)) 36 (.ref a51) := ⟨_, rfl⟩
  rw [← hG52] at hH
  have hq := mi_B hq (by decide) (by decide) (fun x h1 h2 q => by unfold mi_fld at q; omega) (by decide) hG51 hG52
  refine lv_aload_n hx hb dX11_init_245 rfl (lv_at hl 0 rfl) ?_
  refine lv_iconst (v := 0) hx hb dX11_init_246 (by decide) ?_
  refine hk_puti_a (G := G52) (L := (.inr (0, 0))) hq.1 hx hb ht hown hK hH hS kc_12 hq.2.1 0 (by decide) rfl tw_692 rfl (Or.inl rfl) rfl dX11_init_247 (fun H locs hH hS => ?_)
  rw [hk_up_r] at hH
  exact hk_vret hx hb hr hlocks hH hS ⟨rfl, hq, rfl⟩ dX11_init_250
