set_option maxHeartbeats 4000000 in
set_option maxRecDepth 100000 in
theorem c_i8 (l : Launch) (D : hk_D) (G : hk_G) (τ σ : hk_v) (b : Nat)  : Met l yX8_init (hk_ws yX8_init cX8_init 1 none) ({ frames := 1, cells := 0, slots := 0, locals := 12 }) (hk_P D G (hk_cm τ σ) [.ref b]) (hk_Q D (hk_e G (none) (hk_cm τ σ))) 0 0 (hk_A D) := by
  refine hk_met (by decide +kernel) (Nat.le_of_ble_eq_true rfl) (fun p e s m below meth c hx hb hr hml hlocks ht hown hin hK hH hS ls hl => ?_)
  have hl : lv_has ls 1 [(0, .ref b)] := hl
  refine lv_aload_n hx hb dX8_init_0 rfl (lv_at hl 0 rfl) ?_
  refine W.objInit hx hb hown (ht _ tw_378) (ht _ tw_61) (ht _ tw_62) rfl (by rw [hml]; exact hl.1) rfl dX8_init_1 (Nat.le_of_ble_eq_true rfl) (Nat.le_of_ble_eq_true rfl) ?_
  exact hk_vret hx hb hr hlocks hH hS ⟨rfl, rfl, rfl⟩ dX8_init_4
set_option maxHeartbeats 4000000 in
set_option maxRecDepth 100000 in
theorem c_iC (l : Launch) (D : hk_D) (G : hk_G) (τ σ : hk_v) (b : Nat)  : Met l yJxa1e45_init_da8c8 (hk_ws yJxa1e45_init_da8c8 cJxa1e45_init_da8c8 1 none) ({ frames := 1, cells := 0, slots := 0, locals := 12 }) (hk_P D G (hk_cm τ σ) [.ref b]) (hk_Q D (hk_e G (none) (hk_cm τ σ))) 0 0 (hk_A D) := by
  refine hk_met (by decide +kernel) (Nat.le_of_ble_eq_true rfl) (fun p e s m below meth c hx hb hr hml hlocks ht hown hin hK hH hS ls hl => ?_)
  have hl : lv_has ls 1 [(0, .ref b)] := hl
  refine lv_aload_n hx hb dJxa1e45_init_da8c8_0 rfl (lv_at hl 0 rfl) ?_
  refine W.objInit hx hb hown (ht _ tw_74) (ht _ tw_61) (ht _ tw_62) rfl (by rw [hml]; exact hl.1) rfl dJxa1e45_init_da8c8_1 (Nat.le_of_ble_eq_true rfl) (Nat.le_of_ble_eq_true rfl) ?_
  exact hk_vret hx hb hr hlocks hH hS ⟨rfl, rfl, rfl⟩ dJxa1e45_init_da8c8_4
theorem ymI_X8_init : hk_mI yX8_init cX8_init 1 0 := ⟨tw_377, tw_376, tw_52, rfl, by decide, by decide, by decide +kernel⟩
set_option maxHeartbeats 4000000 in
set_option maxRecDepth 100000 in
theorem c_i2 (l : Launch) (D : hk_D) (G : hk_G) (τ σ : hk_v) (b : Nat)  : Met l yX2_init (hk_ws yX2_init cX2_init 1 none) ({ frames := 2, cells := 0, slots := 0, locals := 32 }) (hk_P D G (hk_cm τ σ) [.ref b]) (hk_Q D (hk_e G (none) (hk_cm τ σ))) 0 0 (hk_A D) := by
  refine hk_met (by decide +kernel) (Nat.le_of_ble_eq_true rfl) (fun p e s m below meth c hx hb hr hml hlocks ht hown hin hK hH hS ls hl => ?_)
  have hl : lv_has ls 1 [(0, .ref b)] := hl
  refine lv_aload_n hx hb dX2_init_0 rfl (lv_at hl 0 rfl) ?_
  refine hk_cIN (G := G) (As := []) (rest := []) hx hb hml hl.1 ht hown hK hH hS (c_i8 l D G τ σ b) ymI_X8_init (List.mem_filter.mpr ⟨tw_375, rfl⟩) ⟨rfl, rfl⟩ ⟨Nat.le_of_ble_eq_true rfl, Nat.le_of_ble_eq_true rfl⟩ rfl rfl (Nat.le_of_ble_eq_true rfl) dX2_init_1 ⟨Nat.le_of_ble_eq_true rfl, Nat.le_of_ble_eq_true rfl⟩ (hk_ev (fun H locs hH hS => ?_))
  exact hk_vret hx hb hr hlocks hH hS ⟨rfl, rfl, rfl⟩ dX2_init_4
theorem ymI_X2_init : hk_mI yX2_init cX2_init 1 0 := ⟨tw_374, tw_373, tw_53, rfl, by decide, by decide, by decide +kernel⟩
set_option maxHeartbeats 4000000 in
set_option maxRecDepth 100000 in
theorem c_i1 (l : Launch) (D : hk_D) (G : hk_G) (τ σ : hk_v) (b : Nat)  : Met l yX1_init (hk_ws yX1_init cX1_init 1 none) ({ frames := 3, cells := 0, slots := 0, locals := 52 }) (hk_P D G (hk_cm τ σ) [.ref b]) (hk_Q D (hk_e G (none) (hk_cm τ σ))) 0 0 (hk_A D) := by
  refine hk_met (by decide +kernel) (Nat.le_of_ble_eq_true rfl) (fun p e s m below meth c hx hb hr hml hlocks ht hown hin hK hH hS ls hl => ?_)
  have hl : lv_has ls 1 [(0, .ref b)] := hl
  refine lv_aload_n hx hb dX1_init_0 rfl (lv_at hl 0 rfl) ?_
  refine hk_cIN (G := G) (As := []) (rest := []) hx hb hml hl.1 ht hown hK hH hS (c_i2 l D G τ σ b) ymI_X2_init (List.mem_filter.mpr ⟨tw_385, rfl⟩) ⟨rfl, rfl⟩ ⟨Nat.le_of_ble_eq_true rfl, Nat.le_of_ble_eq_true rfl⟩ rfl rfl (Nat.le_of_ble_eq_true rfl) dX1_init_1 ⟨Nat.le_of_ble_eq_true rfl, Nat.le_of_ble_eq_true rfl⟩ (hk_ev (fun H locs hH hS => ?_))
  exact hk_vret hx hb hr hlocks hH hS ⟨rfl, rfl, rfl⟩ dX1_init_4
theorem ymI_Jxa1e45_init_da8c8 : hk_mI yJxa1e45_init_da8c8 cJxa1e45_init_da8c8 1 0 := ⟨tw_73, tw_72, tw_35, rfl, by decide, by decide, by decide +kernel⟩
set_option maxHeartbeats 4000000 in
set_option maxRecDepth 100000 in
theorem c_iL (l : Launch) (D : hk_D) (G : hk_G) (τ σ : hk_v) (j : Nat) (a : Nat) (ha : G.1 (.inl (1, j)) = a) (hk : G.2.1 (.inl (1, j)) = some (.inl 0)) : Met l yJxc12de_init_da8c8 (hk_ws yJxc12de_init_da8c8 cJxc12de_init_da8c8 1 none) ({ frames := 2, cells := 0, slots := 0, locals := 32 }) (hk_P D G (hk_cm τ σ) [.ref a]) (hk_Q D (hk_e G (none) (hk_cm (hk_u τ (1, j) 0 0) σ))) 0 0 (hk_A D) := by
  refine hk_met (by decide +kernel) (Nat.le_of_ble_eq_true rfl) (fun p e s m below meth c hx hb hr hml hlocks ht hown hin hK hH hS ls hl => ?_)
  have hl : lv_has ls 1 [(0, .ref a)] := hl
  refine lv_aload_n hx hb dJxc12de_init_da8c8_0 rfl (lv_at hl 0 rfl) ?_
  refine hk_cI (G := G) (As := []) (rest := []) hx hb hml hl.1 ht hown hK hH hS (c_iC l D G τ σ a) ymI_Jxa1e45_init_da8c8 tw_71 ⟨rfl, rfl⟩ ⟨Nat.le_of_ble_eq_true rfl, Nat.le_of_ble_eq_true rfl⟩ rfl rfl (Nat.le_of_ble_eq_true rfl) dJxc12de_init_da8c8_1 ⟨Nat.le_of_ble_eq_true rfl, Nat.le_of_ble_eq_true rfl⟩ (hk_ev (fun H locs hH hS => ?_))
  refine lv_aload_n hx hb dJxc12de_init_da8c8_4 rfl (lv_at hl 0 rfl) ?_
  refine lv_iconst (v := 0) hx hb dJxc12de_init_da8c8_5 (by decide) ?_
  refine hk_puti_a (G := G) (L := (.inl (1, j))) (by simp [hk_add, hk_rf, ha, hk]) hx hb ht hown hK hH hS kc_0 (by simp [hk_add, hk_rf, ha, hk]) 0 (by decide) rfl tw_79 rfl (Or.inl rfl) rfl dJxc12de_init_da8c8_6 (fun H locs hH hS => ?_)
  rw [hk_up_l] at hH
  exact hk_vret hx hb hr hlocks hH hS ⟨rfl, rfl, rfl⟩ dJxc12de_init_da8c8_9
theorem ymI_Jxc12de_init_da8c8 : hk_mI yJxc12de_init_da8c8 cJxc12de_init_da8c8 1 0 := ⟨tw_70, tw_69, tw_36, rfl, by decide, by decide, by decide +kernel⟩
set_option maxHeartbeats 4000000 in
set_option maxRecDepth 100000 in
theorem c_iA (l : Launch) (D : hk_D) (G : hk_G) (τ σ : hk_v) (j : Nat) (a : Nat) (ha : G.1 (.inl (1, j)) = a) (hk : G.2.1 (.inl (1, j)) = some (.inl 0)) : Met l yJx4a65c_init_da8c8 (hk_ws yJx4a65c_init_da8c8 cJx4a65c_init_da8c8 1 none) ({ frames := 3, cells := 0, slots := 0, locals := 52 }) (hk_P D G (hk_cm τ σ) [.ref a]) (hk_Q D (fun v' G' iv' => none = v' ∧ G' = (hk_rf G (.inl (1, j)) 1 (.ref D.2.2)) ∧ iv' = (hk_cm (hk_u τ (1, j) 0 0) σ))) 0 0 (hk_A D) := by
  refine hk_met (by decide +kernel) (Nat.le_of_ble_eq_true rfl) (fun p e s m below meth c hx hb hr hml hlocks ht hown hin hK hH hS ls hl => ?_)
  have hl : lv_has ls 1 [(0, .ref a)] := hl
  refine lv_aload_n hx hb dJx4a65c_init_da8c8_0 rfl (lv_at hl 0 rfl) ?_
  refine hk_cI (G := G) (As := []) (rest := []) hx hb hml hl.1 ht hown hK hH hS (c_iL l D G τ σ j a (by simp [hk_add, hk_rf, ha, hk]) (by simp [hk_add, hk_rf, ha, hk])) ymI_Jxc12de_init_da8c8 tw_68 ⟨rfl, rfl⟩ ⟨Nat.le_of_ble_eq_true rfl, Nat.le_of_ble_eq_true rfl⟩ rfl rfl (Nat.le_of_ble_eq_true rfl) dJx4a65c_init_da8c8_1 ⟨Nat.le_of_ble_eq_true rfl, Nat.le_of_ble_eq_true rfl⟩ (hk_ev (fun H locs hH hS => ?_))
  refine lv_aload_n hx hb dJx4a65c_init_da8c8_4 rfl (lv_at hl 0 rfl) ?_
  refine va_gets hx hb hK.2.2.2.1 hS hown (ht _ tw_75) (fun x h => h) dJx4a65c_init_da8c8_5 ?_
  refine hk_putr_a (G := G) (L := (.inl (1, j))) (v := .ref D.2.2) (by simp [hk_add, hk_rf, ha, hk]) hx hb ht hown hK hH hS kc_0 (by simp [hk_add, hk_rf, ha, hk]) 1 (by decide) rfl tw_77 rfl (Or.inl rfl) rfl rfl dJx4a65c_init_da8c8_8 (fun H locs hH hS => ?_)
  obtain ⟨G2, hG2⟩ : ∃ g, g = hk_rf G (.inl (1, j)) 1 (.ref D.2.2) := ⟨_, rfl⟩
  rw [← hG2] at hH
  exact hk_vret hx hb hr hlocks hH hS ⟨rfl, (by simp only [hG2]), rfl⟩ dJx4a65c_init_da8c8_11
set_option maxHeartbeats 4000000 in
set_option maxRecDepth 100000 in
theorem c_i3 (l : Launch) (D : hk_D) (G : hk_G) (τ σ : hk_v) (i : Nat) (a : Nat) (rt : Int32) (ms : Int32) (ha : G.1 (.inl (10, i)) = a) (hk : G.2.1 (.inl (10, i)) = some (.inl 4)) : Met l yX3_init (hk_ws yX3_init cX3_init 3 none) ({ frames := 1, cells := 0, slots := 0, locals := 12 }) (hk_P D G (hk_cm τ σ) [.ref a, .int rt, .int ms]) (hk_Q D (hk_e G (none) (hk_cm (hk_u (hk_u (hk_u τ (10, i) 0 rt) (10, i) 1 ms) (10, i) 2 (-9)) σ))) 0 0 (hk_A D) := by
  refine hk_met (by decide +kernel) (Nat.le_of_ble_eq_true rfl) (fun p e s m below meth c hx hb hr hml hlocks ht hown hin hK hH hS ls hl => ?_)
  have hl : lv_has ls 3 [(0, .ref a), (1, .int rt), (2, .int ms)] := hl
  refine lv_aload_n hx hb dX3_init_0 rfl (lv_at hl 0 rfl) ?_
  refine W.objInit hx hb hown (ht _ tw_309) (ht _ tw_61) (ht _ tw_62) rfl (by rw [hml]; exact hl.1) rfl dX3_init_1 (Nat.le_of_ble_eq_true rfl) (Nat.le_of_ble_eq_true rfl) ?_
  refine lv_aload_n hx hb dX3_init_4 rfl (lv_at hl 0 rfl) ?_
  refine lv_iload_n hx hb dX3_init_5 rfl (lv_at hl 1 rfl) ?_
  refine hk_puti_a (G := G) (L := (.inl (10, i))) (by simp [hk_add, hk_rf, ha, hk]) hx hb ht hown hK hH hS kc_4 (by simp [hk_add, hk_rf, ha, hk]) 0 (by decide) rfl tw_310 rfl (Or.inr ⟨rfl, hin, rfl⟩) rfl dX3_init_6 (fun H locs hH hS => ?_)
  rw [hk_up_l] at hH
  refine lv_aload_n hx hb dX3_init_9 rfl (lv_at hl 0 rfl) ?_
  refine lv_iload_n hx hb dX3_init_10 rfl (lv_at hl 2 rfl) ?_
  refine hk_puti_a (G := G) (L := (.inl (10, i))) (by simp [hk_add, hk_rf, ha, hk]) hx hb ht hown hK hH hS kc_4 (by simp [hk_add, hk_rf, ha, hk]) 1 (by decide) rfl tw_313 rfl (Or.inr ⟨rfl, hin, rfl⟩) rfl dX3_init_11 (fun H locs hH hS => ?_)
  rw [hk_up_l] at hH
  refine lv_aload_n hx hb dX3_init_14 rfl (lv_at hl 0 rfl) ?_
  refine lv_bipush (v := -9) hx hb dX3_init_15 (by decide) ?_
  refine hk_puti_a (G := G) (L := (.inl (10, i))) (by simp [hk_add, hk_rf, ha, hk]) hx hb ht hown hK hH hS kc_4 (by simp [hk_add, hk_rf, ha, hk]) 2 (by decide) rfl tw_314 rfl (Or.inl rfl) rfl dX3_init_17 (fun H locs hH hS => ?_)
  rw [hk_up_l] at hH
  exact hk_vret hx hb hr hlocks hH hS ⟨rfl, rfl, rfl⟩ dX3_init_20
set_option maxHeartbeats 4000000 in
set_option maxRecDepth 100000 in
theorem c_i4 (l : Launch) (D : hk_D) (G : hk_G) (τ σ : hk_v) (i : Nat) (a : Nat) (bu : Int32) (fr : Int32) (tt : Int32) (ha : G.1 (.inl (9, i)) = a) (hk : G.2.1 (.inl (9, i)) = some (.inl 5)) : Met l yX4_init (hk_ws yX4_init cX4_init 4 none) ({ frames := 1, cells := 0, slots := 0, locals := 12 }) (hk_P D G (hk_cm τ σ) [.ref a, .int bu, .int fr, .int tt]) (hk_Q D (hk_e G (none) (hk_cm (hk_u (hk_u (hk_u τ (9, i) 0 fr) (9, i) 1 tt) (9, i) 2 bu) σ))) 0 0 (hk_A D) := by
  refine hk_met (by decide +kernel) (Nat.le_of_ble_eq_true rfl) (fun p e s m below meth c hx hb hr hml hlocks ht hown hin hK hH hS ls hl => ?_)
  have hl : lv_has ls 4 [(0, .ref a), (1, .int bu), (2, .int fr), (3, .int tt)] := hl
  refine lv_aload_n hx hb dX4_init_0 rfl (lv_at hl 0 rfl) ?_
  refine W.objInit hx hb hown (ht _ tw_218) (ht _ tw_61) (ht _ tw_62) rfl (by rw [hml]; exact hl.1) rfl dX4_init_1 (Nat.le_of_ble_eq_true rfl) (Nat.le_of_ble_eq_true rfl) ?_
  refine lv_aload_n hx hb dX4_init_4 rfl (lv_at hl 0 rfl) ?_
  refine lv_iload_n hx hb dX4_init_5 rfl (lv_at hl 2 rfl) ?_
  refine hk_puti_a (G := G) (L := (.inl (9, i))) (by simp [hk_add, hk_rf, ha, hk]) hx hb ht hown hK hH hS kc_5 (by simp [hk_add, hk_rf, ha, hk]) 0 (by decide) rfl tw_219 rfl (Or.inr ⟨rfl, hin, rfl⟩) rfl dX4_init_6 (fun H locs hH hS => ?_)
  rw [hk_up_l] at hH
  refine lv_aload_n hx hb dX4_init_9 rfl (lv_at hl 0 rfl) ?_
  refine lv_iload_n hx hb dX4_init_10 rfl (lv_at hl 3 rfl) ?_
  refine hk_puti_a (G := G) (L := (.inl (9, i))) (by simp [hk_add, hk_rf, ha, hk]) hx hb ht hown hK hH hS kc_5 (by simp [hk_add, hk_rf, ha, hk]) 1 (by decide) rfl tw_220 rfl (Or.inr ⟨rfl, hin, rfl⟩) rfl dX4_init_11 (fun H locs hH hS => ?_)
  rw [hk_up_l] at hH
  refine lv_aload_n hx hb dX4_init_14 rfl (lv_at hl 0 rfl) ?_
  refine lv_iload_n hx hb dX4_init_15 rfl (lv_at hl 1 rfl) ?_
  refine hk_puti_a (G := G) (L := (.inl (9, i))) (by simp [hk_add, hk_rf, ha, hk]) hx hb ht hown hK hH hS kc_5 (by simp [hk_add, hk_rf, ha, hk]) 2 (by decide) rfl tw_221 rfl (Or.inl rfl) rfl dX4_init_16 (fun H locs hH hS => ?_)
  rw [hk_up_l] at hH
  exact hk_vret hx hb hr hlocks hH hS ⟨rfl, rfl, rfl⟩ dX4_init_19
set_option maxHeartbeats 4000000 in
set_option maxRecDepth 100000 in
theorem c_i5 (l : Launch) (D : hk_D) (G : hk_G) (τ σ : hk_v) (a : Nat) (ha : G.1 (.inl (3, 0)) = a) (hk : G.2.1 (.inl (3, 0)) = some (.inl 6)) (hn0 : G.2.1 (.inl (3, 1)) = none) : Met l yX5_init (hk_ws yX5_init cX5_init 1 none) ({ frames := 1, cells := 1, slots := 150, locals := 12 }) (hk_P D G (hk_cm τ σ) [.ref a]) (hk_Q D (fun v' G' iv' => none = v' ∧ ∃ a1 : Nat, G' = (hk_rf (hk_add G (.inl (3, 1)) a1 (.inr (.inl 150)) (fun _ => .null)) (.inl (3, 0)) 0 (.ref a1)) ∧ iv' = (hk_cm (hk_zo τ (3, 1)) σ))) 1 150 (hk_A D) := by
  refine hk_met (by decide +kernel) (Nat.le_of_ble_eq_true rfl) (fun p e s m below meth c hx hb hr hml hlocks ht hown hin hK hH hS ls hl => ?_)
  have hl : lv_has ls 1 [(0, .ref a)] := hl
  refine lv_aload_n hx hb dX5_init_0 rfl (lv_at hl 0 rfl) ?_
  refine W.objInit hx hb hown (ht _ tw_94) (ht _ tw_61) (ht _ tw_62) rfl (by rw [hml]; exact hl.1) rfl dX5_init_1 (Nat.le_of_ble_eq_true rfl) (Nat.le_of_ble_eq_true rfl) ?_
  refine lv_aload_n hx hb dX5_init_4 rfl (lv_at hl 0 rfl) ?_
  refine lv_sipush (v := 150) hx hb dX5_init_5 (by decide) ?_
  refine hk_newi (G := G) (L := (.inl (3, 1))) (n := 150) hx hb ht hK hH hS (by simp [hk_add, hk_rf, ha, hk, hn0]) tw_103 rfl (by omega) ⟨Nat.le_of_ble_eq_true rfl, Nat.le_of_ble_eq_true rfl⟩ dX5_init_8 (fun H a1 hH hS => ?_)
  rw [hk_zr_l] at hH
  obtain ⟨G1, hG1⟩ : ∃ g, g = hk_add G (.inl (3, 1)) a1 (.inr (.inl 150)) (fun _ => .null) := ⟨_, rfl⟩
  rw [← hG1] at hH
  refine hk_putr_a (G := G1) (L := (.inl (3, 0))) (v := .ref a1) (by simp [hG1, hk_add, hk_rf, ha, hk, hn0]) hx hb ht hown hK hH hS kc_6 (by simp [hG1, hk_add, hk_rf, ha, hk, hn0]) 0 (by decide) rfl tw_95 rfl (Or.inr ⟨rfl, hin, rfl⟩) rfl rfl dX5_init_10 (fun H locs hH hS => ?_)
  obtain ⟨G2, hG2⟩ : ∃ g, g = hk_rf G1 (.inl (3, 0)) 0 (.ref a1) := ⟨_, rfl⟩
  rw [← hG2] at hH
  exact hk_vret hx hb hr hlocks hH hS ⟨rfl, a1, (by simp only [hG2, hG1]), rfl⟩ dX5_init_13
set_option maxHeartbeats 4000000 in
set_option maxRecDepth 100000 in
theorem c_i9 (l : Launch) (D : hk_D) (G : hk_G) (τ σ : hk_v) (a : Nat) (ha : G.1 (.inl (4, 0)) = a) (hk : G.2.1 (.inl (4, 0)) = some (.inl 10)) (hn0 : G.2.1 (.inl (4, 1)) = none) (hn1 : G.2.1 (.inl (4, 2)) = none) : Met l yX9_init (hk_ws yX9_init cX9_init 1 none) ({ frames := 1, cells := 2, slots := 200, locals := 12 }) (hk_P D G (hk_cm τ σ) [.ref a]) (hk_Q D (fun v' G' iv' => none = v' ∧ ∃ a1 a3 : Nat, G' = (hk_rf (hk_add (hk_rf (hk_add G (.inl (4, 1)) a1 (.inr (.inl 100)) (fun _ => .null)) (.inl (4, 0)) 0 (.ref a1)) (.inl (4, 2)) a3 (.inr (.inl 100)) (fun _ => .null)) (.inl (4, 0)) 1 (.ref a3)) ∧ iv' = (hk_cm (hk_zo (hk_zo τ (4, 1)) (4, 2)) σ))) 2 200 (hk_A D) := by
  refine hk_met (by decide +kernel) (Nat.le_of_ble_eq_true rfl) (fun p e s m below meth c hx hb hr hml hlocks ht hown hin hK hH hS ls hl => ?_)
  have hl : lv_has ls 1 [(0, .ref a)] := hl
  refine lv_aload_n hx hb dX9_init_0 rfl (lv_at hl 0 rfl) ?_
  refine W.objInit hx hb hown (ht _ tw_109) (ht _ tw_61) (ht _ tw_62) rfl (by rw [hml]; exact hl.1) rfl dX9_init_1 (Nat.le_of_ble_eq_true rfl) (Nat.le_of_ble_eq_true rfl) ?_
  refine lv_aload_n hx hb dX9_init_4 rfl (lv_at hl 0 rfl) ?_
  refine lv_bipush (v := 100) hx hb dX9_init_5 (by decide) ?_
  refine hk_newi (G := G) (L := (.inl (4, 1))) (n := 100) hx hb ht hK hH hS (by simp [hk_add, hk_rf, ha, hk, hn0, hn1]) tw_103 rfl (by omega) ⟨Nat.le_of_ble_eq_true rfl, Nat.le_of_ble_eq_true rfl⟩ dX9_init_7 (fun H a1 hH hS => ?_)
  rw [hk_zr_l] at hH
  obtain ⟨G1, hG1⟩ : ∃ g, g = hk_add G (.inl (4, 1)) a1 (.inr (.inl 100)) (fun _ => .null) := ⟨_, rfl⟩
  rw [← hG1] at hH
  refine hk_putr_a (G := G1) (L := (.inl (4, 0))) (v := .ref a1) (by simp [hG1, hk_add, hk_rf, ha, hk, hn0, hn1]) hx hb ht hown hK hH hS kc_10 (by simp [hG1, hk_add, hk_rf, ha, hk, hn0, hn1]) 0 (by decide) rfl tw_110 rfl (Or.inr ⟨rfl, hin, rfl⟩) rfl rfl dX9_init_9 (fun H locs hH hS => ?_)
  obtain ⟨G2, hG2⟩ : ∃ g, g = hk_rf G1 (.inl (4, 0)) 0 (.ref a1) := ⟨_, rfl⟩
  rw [← hG2] at hH
  refine lv_aload_n hx hb dX9_init_12 rfl (lv_at hl 0 rfl) ?_
  refine lv_bipush (v := 100) hx hb dX9_init_13 (by decide) ?_
  refine hk_newi (G := G2) (L := (.inl (4, 2))) (n := 100) hx hb ht hK hH hS (by simp [hG2, hG1, hk_add, hk_rf, ha, hk, hn0, hn1]) tw_103 rfl (by omega) ⟨Nat.le_of_ble_eq_true rfl, Nat.le_of_ble_eq_true rfl⟩ dX9_init_15 (fun H a3 hH hS => ?_)
  rw [hk_zr_l] at hH
  obtain ⟨G3, hG3⟩ : ∃ g, g = hk_add G2 (.inl (4, 2)) a3 (.inr (.inl 100)) (fun _ => .null) := ⟨_, rfl⟩
  rw [← hG3] at hH
  refine hk_putr_a (G := G3) (L := (.inl (4, 0))) (v := .ref a3) (by simp [hG3, hG2, hG1, hk_add, hk_rf, ha, hk, hn0, hn1]) hx hb ht hown hK hH hS kc_10 (by simp [hG3, hG2, hG1, hk_add, hk_rf, ha, hk, hn0, hn1]) 1 (by decide) rfl tw_112 rfl (Or.inr ⟨rfl, hin, rfl⟩) rfl rfl dX9_init_17 (fun H locs hH hS => ?_)
  obtain ⟨G4, hG4⟩ : ∃ g, g = hk_rf G3 (.inl (4, 0)) 1 (.ref a3) := ⟨_, rfl⟩
  rw [← hG4] at hH
  exact hk_vret hx hb hr hlocks hH hS ⟨rfl, a1, a3, (by simp only [hG4, hG3, hG2, hG1]), rfl⟩ dX9_init_20
set_option maxHeartbeats 4000000 in
set_option maxRecDepth 100000 in
theorem c_i7 (l : Launch) (D : hk_D) (G : hk_G) (τ σ : hk_v) (i : Nat) (a : Nat) (fi : Int32) (ha : G.1 (.inl (5, i)) = a) (hk : G.2.1 (.inl (5, i)) = some (.inl 8)) (hn0 : G.2.1 (.inl (6, i)) = none) (hn1 : G.2.1 (.inl (7, i)) = none) : Met l yX7_init (hk_ws yX7_init cX7_init 2 none) ({ frames := 1, cells := 2, slots := 40, locals := 12 }) (hk_P D G (hk_cm τ σ) [.ref a, .int fi]) (hk_Q D (fun v' G' iv' => none = v' ∧ ∃ a1 a3 : Nat, G' = (hk_rf (hk_add (hk_rf (hk_add G (.inl (6, i)) a1 (.inr (.inl 20)) (fun _ => .null)) (.inl (5, i)) 0 (.ref a1)) (.inl (7, i)) a3 (.inr (.inl 20)) (fun _ => .null)) (.inl (5, i)) 1 (.ref a3)) ∧ iv' = (hk_cm (hk_zo (hk_zo (hk_u τ (5, i) 2 fi) (6, i)) (7, i)) σ))) 2 40 (hk_A D) := by
  refine hk_met (by decide +kernel) (Nat.le_of_ble_eq_true rfl) (fun p e s m below meth c hx hb hr hml hlocks ht hown hin hK hH hS ls hl => ?_)
  have hl : lv_has ls 2 [(0, .ref a), (1, .int fi)] := hl
  refine lv_aload_n hx hb dX7_init_0 rfl (lv_at hl 0 rfl) ?_
  refine W.objInit hx hb hown (ht _ tw_135) (ht _ tw_61) (ht _ tw_62) rfl (by rw [hml]; exact hl.1) rfl dX7_init_1 (Nat.le_of_ble_eq_true rfl) (Nat.le_of_ble_eq_true rfl) ?_
  refine lv_aload_n hx hb dX7_init_4 rfl (lv_at hl 0 rfl) ?_
  refine lv_iload_n hx hb dX7_init_5 rfl (lv_at hl 1 rfl) ?_
  refine hk_puti_a (G := G) (L := (.inl (5, i))) (by simp [hk_add, hk_rf, ha, hk, hn0, hn1]) hx hb ht hown hK hH hS kc_8 (by simp [hk_add, hk_rf, ha, hk, hn0, hn1]) 2 (by decide) rfl tw_138 rfl (Or.inr ⟨rfl, hin, rfl⟩) rfl dX7_init_6 (fun H locs hH hS => ?_)
  rw [hk_up_l] at hH
  refine lv_aload_n hx hb dX7_init_9 rfl (lv_at hl 0 rfl) ?_
  refine lv_bipush (v := 20) hx hb dX7_init_10 (by decide) ?_
  refine hk_newi (G := G) (L := (.inl (6, i))) (n := 20) hx hb ht hK hH hS (by simp [hk_add, hk_rf, ha, hk, hn0, hn1]) tw_103 rfl (by omega) ⟨Nat.le_of_ble_eq_true rfl, Nat.le_of_ble_eq_true rfl⟩ dX7_init_12 (fun H a1 hH hS => ?_)
  rw [hk_zr_l] at hH
  obtain ⟨G1, hG1⟩ : ∃ g, g = hk_add G (.inl (6, i)) a1 (.inr (.inl 20)) (fun _ => .null) := ⟨_, rfl⟩
  rw [← hG1] at hH
  refine hk_putr_a (G := G1) (L := (.inl (5, i))) (v := .ref a1) (by simp [hG1, hk_add, hk_rf, ha, hk, hn0, hn1]) hx hb ht hown hK hH hS kc_8 (by simp [hG1, hk_add, hk_rf, ha, hk, hn0, hn1]) 0 (by decide) rfl tw_136 rfl (Or.inr ⟨rfl, hin, rfl⟩) rfl rfl dX7_init_14 (fun H locs hH hS => ?_)
  obtain ⟨G2, hG2⟩ : ∃ g, g = hk_rf G1 (.inl (5, i)) 0 (.ref a1) := ⟨_, rfl⟩
  rw [← hG2] at hH
  refine lv_aload_n hx hb dX7_init_17 rfl (lv_at hl 0 rfl) ?_
  refine lv_bipush (v := 20) hx hb dX7_init_18 (by decide) ?_
  refine hk_newi (G := G2) (L := (.inl (7, i))) (n := 20) hx hb ht hK hH hS (by simp [hG2, hG1, hk_add, hk_rf, ha, hk, hn0, hn1]) tw_103 rfl (by omega) ⟨Nat.le_of_ble_eq_true rfl, Nat.le_of_ble_eq_true rfl⟩ dX7_init_20 (fun H a3 hH hS => ?_)
  rw [hk_zr_l] at hH
  obtain ⟨G3, hG3⟩ : ∃ g, g = hk_add G2 (.inl (7, i)) a3 (.inr (.inl 20)) (fun _ => .null) := ⟨_, rfl⟩
  rw [← hG3] at hH
  refine hk_putr_a (G := G3) (L := (.inl (5, i))) (v := .ref a3) (by simp [hG3, hG2, hG1, hk_add, hk_rf, ha, hk, hn0, hn1]) hx hb ht hown hK hH hS kc_8 (by simp [hG3, hG2, hG1, hk_add, hk_rf, ha, hk, hn0, hn1]) 1 (by decide) rfl tw_137 rfl (Or.inr ⟨rfl, hin, rfl⟩) rfl rfl dX7_init_22 (fun H locs hH hS => ?_)
  obtain ⟨G4, hG4⟩ : ∃ g, g = hk_rf G3 (.inl (5, i)) 1 (.ref a3) := ⟨_, rfl⟩
  rw [← hG4] at hH
  exact hk_vret hx hb hr hlocks hH hS ⟨rfl, a1, a3, (by simp only [hG4, hG3, hG2, hG1]), rfl⟩ dX7_init_25
set_option maxHeartbeats 4000000 in
set_option maxRecDepth 100000 in
theorem c_i0 (l : Launch) (D : hk_D) (G : hk_G) (τ σ : hk_v) (a : Nat) (ha : G.1 (.inl (8, 0)) = a) (hk : G.2.1 (.inl (8, 0)) = some (.inl 1)) (hn0 : G.2.1 (.inl (8, 1)) = none) (hn1 : G.2.1 (.inl (8, 2)) = none) (hn2 : G.2.1 (.inl (8, 3)) = none) : Met l yX0_init (hk_ws yX0_init cX0_init 1 none) ({ frames := 1, cells := 3, slots := 192, locals := 12 }) (hk_P D G (hk_cm τ σ) [.ref a]) (hk_Q D (fun v' G' iv' => none = v' ∧ ∃ a1 a3 a5 : Nat, G' = (hk_rf (hk_add (hk_rf (hk_add (hk_rf (hk_add G (.inl (8, 1)) a1 (.inr (.inl 64)) (fun _ => .null)) (.inl (8, 0)) 0 (.ref a1)) (.inl (8, 2)) a3 (.inr (.inl 64)) (fun _ => .null)) (.inl (8, 0)) 1 (.ref a3)) (.inl (8, 3)) a5 (.inr (.inl 64)) (fun _ => .null)) (.inl (8, 0)) 2 (.ref a5)) ∧ iv' = (hk_cm (hk_u (hk_zo (hk_zo (hk_zo τ (8, 1)) (8, 2)) (8, 3)) (8, 0) 3 1) σ))) 3 192 (hk_A D) := by
  refine hk_met (by decide +kernel) (Nat.le_of_ble_eq_true rfl) (fun p e s m below meth c hx hb hr hml hlocks ht hown hin hK hH hS ls hl => ?_)
  have hl : lv_has ls 1 [(0, .ref a)] := hl
  refine lv_aload_n hx hb dX0_init_0 rfl (lv_at hl 0 rfl) ?_
  refine W.objInit hx hb hown (ht _ tw_154) (ht _ tw_61) (ht _ tw_62) rfl (by rw [hml]; exact hl.1) rfl dX0_init_1 (Nat.le_of_ble_eq_true rfl) (Nat.le_of_ble_eq_true rfl) ?_
  refine lv_aload_n hx hb dX0_init_4 rfl (lv_at hl 0 rfl) ?_
  refine lv_bipush (v := 64) hx hb dX0_init_5 (by decide) ?_
  refine hk_newi (G := G) (L := (.inl (8, 1))) (n := 64) hx hb ht hK hH hS (by simp [hk_add, hk_rf, ha, hk, hn0, hn1, hn2]) tw_103 rfl (by omega) ⟨Nat.le_of_ble_eq_true rfl, Nat.le_of_ble_eq_true rfl⟩ dX0_init_7 (fun H a1 hH hS => ?_)
  rw [hk_zr_l] at hH
  obtain ⟨G1, hG1⟩ : ∃ g, g = hk_add G (.inl (8, 1)) a1 (.inr (.inl 64)) (fun _ => .null) := ⟨_, rfl⟩
  rw [← hG1] at hH
  refine hk_putr_a (G := G1) (L := (.inl (8, 0))) (v := .ref a1) (by simp [hG1, hk_add, hk_rf, ha, hk, hn0, hn1, hn2]) hx hb ht hown hK hH hS kc_1 (by simp [hG1, hk_add, hk_rf, ha, hk, hn0, hn1, hn2]) 0 (by decide) rfl tw_155 rfl (Or.inr ⟨rfl, hin, rfl⟩) rfl rfl dX0_init_9 (fun H locs hH hS => ?_)
  obtain ⟨G2, hG2⟩ : ∃ g, g = hk_rf G1 (.inl (8, 0)) 0 (.ref a1) := ⟨_, rfl⟩
  rw [← hG2] at hH
  refine lv_aload_n hx hb dX0_init_12 rfl (lv_at hl 0 rfl) ?_
  refine lv_bipush (v := 64) hx hb dX0_init_13 (by decide) ?_
  refine hk_newi (G := G2) (L := (.inl (8, 2))) (n := 64) hx hb ht hK hH hS (by simp [hG2, hG1, hk_add, hk_rf, ha, hk, hn0, hn1, hn2]) tw_103 rfl (by omega) ⟨Nat.le_of_ble_eq_true rfl, Nat.le_of_ble_eq_true rfl⟩ dX0_init_15 (fun H a3 hH hS => ?_)
  rw [hk_zr_l] at hH
  obtain ⟨G3, hG3⟩ : ∃ g, g = hk_add G2 (.inl (8, 2)) a3 (.inr (.inl 64)) (fun _ => .null) := ⟨_, rfl⟩
  rw [← hG3] at hH
  refine hk_putr_a (G := G3) (L := (.inl (8, 0))) (v := .ref a3) (by simp [hG3, hG2, hG1, hk_add, hk_rf, ha, hk, hn0, hn1, hn2]) hx hb ht hown hK hH hS kc_1 (by simp [hG3, hG2, hG1, hk_add, hk_rf, ha, hk, hn0, hn1, hn2]) 1 (by decide) rfl tw_156 rfl (Or.inr ⟨rfl, hin, rfl⟩) rfl rfl dX0_init_17 (fun H locs hH hS => ?_)
  obtain ⟨G4, hG4⟩ : ∃ g, g = hk_rf G3 (.inl (8, 0)) 1 (.ref a3) := ⟨_, rfl⟩
  rw [← hG4] at hH
  refine lv_aload_n hx hb dX0_init_20 rfl (lv_at hl 0 rfl) ?_
  refine lv_bipush (v := 64) hx hb dX0_init_21 (by decide) ?_
  refine hk_newi (G := G4) (L := (.inl (8, 3))) (n := 64) hx hb ht hK hH hS (by simp [hG4, hG3, hG2, hG1, hk_add, hk_rf, ha, hk, hn0, hn1, hn2]) tw_103 rfl (by omega) ⟨Nat.le_of_ble_eq_true rfl, Nat.le_of_ble_eq_true rfl⟩ dX0_init_23 (fun H a5 hH hS => ?_)
  rw [hk_zr_l] at hH
  obtain ⟨G5, hG5⟩ : ∃ g, g = hk_add G4 (.inl (8, 3)) a5 (.inr (.inl 64)) (fun _ => .null) := ⟨_, rfl⟩
  rw [← hG5] at hH
  refine hk_putr_a (G := G5) (L := (.inl (8, 0))) (v := .ref a5) (by simp [hG5, hG4, hG3, hG2, hG1, hk_add, hk_rf, ha, hk, hn0, hn1, hn2]) hx hb ht hown hK hH hS kc_1 (by simp [hG5, hG4, hG3, hG2, hG1, hk_add, hk_rf, ha, hk, hn0, hn1, hn2]) 2 (by decide) rfl tw_157 rfl (Or.inr ⟨rfl, hin, rfl⟩) rfl rfl dX0_init_25 (fun H locs hH hS => ?_)
  obtain ⟨G6, hG6⟩ : ∃ g, g = hk_rf G5 (.inl (8, 0)) 2 (.ref a5) := ⟨_, rfl⟩
  rw [← hG6] at hH
  refine lv_aload_n hx hb dX0_init_28 rfl (lv_at hl 0 rfl) ?_
  refine lv_iconst (v := 1) hx hb dX0_init_29 (by decide) ?_
  refine hk_puti_a (G := G6) (L := (.inl (8, 0))) (by simp [hG6, hG5, hG4, hG3, hG2, hG1, hk_add, hk_rf, ha, hk, hn0, hn1, hn2]) hx hb ht hown hK hH hS kc_1 (by simp [hG6, hG5, hG4, hG3, hG2, hG1, hk_add, hk_rf, ha, hk, hn0, hn1, hn2]) 3 (by decide) rfl tw_158 rfl (Or.inl rfl) rfl dX0_init_30 (fun H locs hH hS => ?_)
  rw [hk_up_l] at hH
  exact hk_vret hx hb hr hlocks hH hS ⟨rfl, a1, a3, a5, (by simp only [hG6, hG5, hG4, hG3, hG2, hG1]), rfl⟩ dX0_init_33
