set_option maxHeartbeats 4000000 in
set_option maxRecDepth 100000 in
theorem c_i6 (l : Launch) (D : hk_D) (G : hk_G) (τ σ : hk_v) (i : Nat) (a : Nat) (b : Nat) (rm : Int32) (w : Nat) (ha : G.1 (.inl (11, i)) = a) (hk : G.2.1 (.inl (11, i)) = some (.inl 7)) (hn0 : G.2.1 (.inl (13, i)) = none) (hn1 : G.2.1 (.inl (14, i)) = none) (hrm : rm = nI w) (hw : w ≤ 200) : Met l yX6_init (hk_ws yX6_init cX6_init 3 none) ({ frames := 1, cells := 2, slots := 400, locals := 12 }) (hk_P D G (hk_cm τ σ) [.ref a, .ref b, .int rm]) (hk_Q D (fun v' G' iv' => none = v' ∧ ∃ a2 a4 : Nat, G' = (hk_rf (hk_add (hk_rf (hk_add (hk_rf G (.inl (11, i)) 0 (.ref b)) (.inl (13, i)) a2 (.inr (.inl w)) (fun _ => .null)) (.inl (11, i)) 2 (.ref a2)) (.inl (14, i)) a4 (.inr (.inl w)) (fun _ => .null)) (.inl (11, i)) 3 (.ref a4)) ∧ iv' = (hk_cm (hk_u (hk_zo (hk_zo (hk_u τ (11, i) 1 rm) (13, i)) (14, i)) (11, i) 7 50) σ))) 2 400 (hk_A D) := by
  refine hk_met (by decide +kernel) (Nat.le_of_ble_eq_true rfl) (fun p e s m below meth c hx hb hr hml hlocks ht hown hin hK hH hS ls hl => ?_)
  have hl : lv_has ls 3 [(0, .ref a), (1, .ref b), (2, .int rm)] := hl
  refine lv_aload_n hx hb dX6_init_0 rfl (lv_at hl 0 rfl) ?_
  refine W.objInit hx hb hown (ht _ tw_394) (ht _ tw_61) (ht _ tw_62) rfl (by rw [hml]; exact hl.1) rfl dX6_init_1 (Nat.le_of_ble_eq_true rfl) (Nat.le_of_ble_eq_true rfl) ?_
  refine lv_aload_n hx hb dX6_init_4 rfl (lv_at hl 0 rfl) ?_
  refine lv_aload_n hx hb dX6_init_5 rfl (lv_at hl 1 rfl) ?_
  refine hk_putr_a (G := G) (L := (.inl (11, i))) (v := .ref b) (by simp [hk_add, hk_rf, ha, hk, hn0, hn1]) hx hb ht hown hK hH hS kc_7 (by simp [hk_add, hk_rf, ha, hk, hn0, hn1]) 0 (by decide) rfl tw_395 rfl (Or.inr ⟨rfl, hin, rfl⟩) rfl rfl dX6_init_6 (fun H locs hH hS => ?_)
  obtain ⟨G1, hG1⟩ : ∃ g, g = hk_rf G (.inl (11, i)) 0 (.ref b) := ⟨_, rfl⟩
  rw [← hG1] at hH
  refine lv_aload_n hx hb dX6_init_9 rfl (lv_at hl 0 rfl) ?_
  refine lv_iload_n hx hb dX6_init_10 rfl (lv_at hl 2 rfl) ?_
  refine hk_puti_a (G := G1) (L := (.inl (11, i))) (by simp [hG1, hk_add, hk_rf, ha, hk, hn0, hn1]) hx hb ht hown hK hH hS kc_7 (by simp [hG1, hk_add, hk_rf, ha, hk, hn0, hn1]) 1 (by decide) rfl tw_397 rfl (Or.inr ⟨rfl, hin, rfl⟩) rfl dX6_init_11 (fun H locs hH hS => ?_)
  rw [hk_up_l] at hH
  refine lv_aload_n hx hb dX6_init_14 rfl (lv_at hl 0 rfl) ?_
  refine lv_iload_n hx hb dX6_init_15 rfl (lv_at hl 2 rfl) ?_
  refine hk_newi (G := G1) (L := (.inl (13, i))) (n := w) hx hb ht hK hH hS (by simp [hG1, hk_add, hk_rf, ha, hk, hn0, hn1]) tw_103 hrm (by omega) ⟨Nat.le_of_ble_eq_true rfl, (by show _ ≤ 400; omega)⟩ dX6_init_16 (fun H a2 hH hS => ?_)
  rw [hk_zr_l] at hH
  obtain ⟨G2, hG2⟩ : ∃ g, g = hk_add G1 (.inl (13, i)) a2 (.inr (.inl w)) (fun _ => .null) := ⟨_, rfl⟩
  rw [← hG2] at hH
  refine hk_putr_a (G := G2) (L := (.inl (11, i))) (v := .ref a2) (by simp [hG2, hG1, hk_add, hk_rf, ha, hk, hn0, hn1]) hx hb ht hown hK hH hS kc_7 (by simp [hG2, hG1, hk_add, hk_rf, ha, hk, hn0, hn1]) 2 (by decide) rfl tw_398 rfl (Or.inr ⟨rfl, hin, rfl⟩) rfl rfl dX6_init_18 (fun H locs hH hS => ?_)
  obtain ⟨G3, hG3⟩ : ∃ g, g = hk_rf G2 (.inl (11, i)) 2 (.ref a2) := ⟨_, rfl⟩
  rw [← hG3] at hH
  refine lv_aload_n hx hb dX6_init_21 rfl (lv_at hl 0 rfl) ?_
  refine lv_iload_n hx hb dX6_init_22 rfl (lv_at hl 2 rfl) ?_
  refine hk_newi (G := G3) (L := (.inl (14, i))) (n := w) hx hb ht hK hH hS (by simp [hG3, hG2, hG1, hk_add, hk_rf, ha, hk, hn0, hn1]) tw_103 hrm (by omega) ⟨Nat.le_of_ble_eq_true rfl, (by show _ ≤ 400; omega)⟩ dX6_init_23 (fun H a4 hH hS => ?_)
  rw [hk_zr_l] at hH
  obtain ⟨G4, hG4⟩ : ∃ g, g = hk_add G3 (.inl (14, i)) a4 (.inr (.inl w)) (fun _ => .null) := ⟨_, rfl⟩
  rw [← hG4] at hH
  refine hk_putr_a (G := G4) (L := (.inl (11, i))) (v := .ref a4) (by simp [hG4, hG3, hG2, hG1, hk_add, hk_rf, ha, hk, hn0, hn1]) hx hb ht hown hK hH hS kc_7 (by simp [hG4, hG3, hG2, hG1, hk_add, hk_rf, ha, hk, hn0, hn1]) 3 (by decide) rfl tw_400 rfl (Or.inr ⟨rfl, hin, rfl⟩) rfl rfl dX6_init_25 (fun H locs hH hS => ?_)
  obtain ⟨G5, hG5⟩ : ∃ g, g = hk_rf G4 (.inl (11, i)) 3 (.ref a4) := ⟨_, rfl⟩
  rw [← hG5] at hH
  refine lv_aload_n hx hb dX6_init_28 rfl (lv_at hl 0 rfl) ?_
  refine lv_bipush (v := 50) hx hb dX6_init_29 (by decide) ?_
  refine hk_puti_a (G := G5) (L := (.inl (11, i))) (by simp [hG5, hG4, hG3, hG2, hG1, hk_add, hk_rf, ha, hk, hn0, hn1]) hx hb ht hown hK hH hS kc_7 (by simp [hG5, hG4, hG3, hG2, hG1, hk_add, hk_rf, ha, hk, hn0, hn1]) 7 (by decide) rfl tw_408 rfl (Or.inl rfl) rfl dX6_init_31 (fun H locs hH hS => ?_)
  rw [hk_up_l] at hH
  refine W.widen (k := 2) (n := 400) (by show _ ≤ 2; omega) (by show _ ≤ 400; omega) ?_
  exact hk_vret hx hb hr hlocks hH hS ⟨rfl, a2, a4, (by simp only [hG5, hG4, hG3, hG2, hG1]), rfl⟩ dX6_init_34
