def hk_Z0 : hk_Z := (fun _ => 0, (fun _ => 9, fun _ => 0))
theorem ymI_Jx4a65c_init_da8c8 : hk_mI yJx4a65c_init_da8c8 cJx4a65c_init_da8c8 1 0 := ⟨tw_67, tw_66, tw_37, rfl, by decide, by decide, by decide +kernel⟩
theorem ymI_X5_init : hk_mI yX5_init cX5_init 1 0 := ⟨tw_93, tw_92, tw_38, rfl, by decide, by decide, by decide +kernel⟩
theorem ymI_X9_init : hk_mI yX9_init cX9_init 1 0 := ⟨tw_108, tw_107, tw_39, rfl, by decide, by decide, by decide +kernel⟩
theorem ymI_X7_init : hk_mI yX7_init cX7_init 2 1 := ⟨tw_134, tw_133, tw_40, rfl, by decide, by decide, by decide +kernel⟩
theorem ymI_X0_init : hk_mI yX0_init cX0_init 1 0 := ⟨tw_153, tw_152, tw_41, rfl, by decide, by decide, by decide +kernel⟩
def T_init (τ : hk_v) : hk_v := (hk_u (hk_u (hk_u (hk_zo (hk_zo (hk_zo (hk_zo (hk_zo (hk_zo (hk_u (hk_zo (hk_zo (hk_zo (hk_u (hk_zo (hk_zo (hk_zo (hk_zo (hk_zo (hk_zo (hk_u (hk_zo (hk_u (hk_zo (hk_u (hk_zo τ (1, 0)) (1, 0) 0 0) (1, 1)) (1, 1) 0 0) (1, 2)) (1, 2) 0 0) (3, 0)) (3, 1)) (4, 0)) (4, 1)) (4, 2)) (5, 0)) (5, 0) 2 2) (6, 0)) (7, 0)) (5, 1)) (5, 1) 2 0) (6, 1)) (7, 1)) (8, 0)) (8, 1)) (8, 2)) (8, 3)) (8, 0) 3 1) (0, 0) 8 0) (0, 0) 9 10)
def GT_init (D : hk_D) (G : hk_G) (a a1 a4 a7 a10 b11_0 a13 b14_0 b14_1 a16 b17_0 b17_1 a19 b20_0 b20_1 a22 b23_0 b23_1 b23_2 : Nat) : hk_G := (hk_rf (hk_rf (hk_rf (hk_add (hk_rf (hk_add (hk_rf (hk_add (hk_add (hk_rf (hk_rf (hk_add (hk_rf (hk_add (hk_add (hk_rf (hk_rf (hk_add (hk_rf (hk_add (hk_add (hk_rf (hk_rf (hk_add (hk_rf (hk_add (hk_add (hk_rf (hk_rf (hk_add (hk_add (hk_rf (hk_rf (hk_add (hk_rf (hk_rf (hk_add (hk_rf (hk_rf (hk_add G (.inl (1, 0)) a1 (.inl 0) (fun j => defaultValue (tyJx4a65c j))) (.inl (1, 0)) 1 (.ref D.2.2)) (.inl (0, 0)) 0 (.ref a1)) (.inl (1, 1)) a4 (.inl 0) (fun j => defaultValue (tyJx4a65c j))) (.inl (1, 1)) 1 (.ref D.2.2)) (.inl (0, 0)) 1 (.ref a4)) (.inl (1, 2)) a7 (.inl 0) (fun j => defaultValue (tyJx4a65c j))) (.inl (1, 2)) 1 (.ref D.2.2)) (.inl (0, 0)) 2 (.ref a7)) (.inl (3, 0)) a10 (.inl 6) (fun j => defaultValue (tyX5 j))) (.inl (3, 1)) b11_0 (.inr (.inl 150)) (fun _ => .null)) (.inl (3, 0)) 0 (.ref b11_0)) (.inl (0, 0)) 3 (.ref a10)) (.inl (4, 0)) a13 (.inl 10) (fun j => defaultValue (tyX9 j))) (.inl (4, 1)) b14_0 (.inr (.inl 100)) (fun _ => .null)) (.inl (4, 0)) 0 (.ref b14_0)) (.inl (4, 2)) b14_1 (.inr (.inl 100)) (fun _ => .null)) (.inl (4, 0)) 1 (.ref b14_1)) (.inl (0, 0)) 4 (.ref a13)) (.inl (5, 0)) a16 (.inl 8) (fun j => defaultValue (tyX7 j))) (.inl (6, 0)) b17_0 (.inr (.inl 20)) (fun _ => .null)) (.inl (5, 0)) 0 (.ref b17_0)) (.inl (7, 0)) b17_1 (.inr (.inl 20)) (fun _ => .null)) (.inl (5, 0)) 1 (.ref b17_1)) (.inl (0, 0)) 5 (.ref a16)) (.inl (5, 1)) a19 (.inl 8) (fun j => defaultValue (tyX7 j))) (.inl (6, 1)) b20_0 (.inr (.inl 20)) (fun _ => .null)) (.inl (5, 1)) 0 (.ref b20_0)) (.inl (7, 1)) b20_1 (.inr (.inl 20)) (fun _ => .null)) (.inl (5, 1)) 1 (.ref b20_1)) (.inl (0, 0)) 6 (.ref a19)) (.inl (8, 0)) a22 (.inl 1) (fun j => defaultValue (tyX0 j))) (.inl (8, 1)) b23_0 (.inr (.inl 64)) (fun _ => .null)) (.inl (8, 0)) 0 (.ref b23_0)) (.inl (8, 2)) b23_1 (.inr (.inl 64)) (fun _ => .null)) (.inl (8, 0)) 1 (.ref b23_1)) (.inl (8, 3)) b23_2 (.inr (.inl 64)) (fun _ => .null)) (.inl (8, 0)) 2 (.ref b23_2)) (.inl (0, 0)) 7 (.ref a22)) (.inl (0, 0)) 10 (.long 0))
set_option maxHeartbeats 4000000 in
set_option maxRecDepth 100000 in
theorem c_init (l : Launch) (D : hk_D) (G : hk_G) (τ σ : hk_v) (a : Nat) (ha : G.1 (.inl (0, 0)) = a) (hk : G.2.1 (.inl (0, 0)) = some (.inl 11)) (hno : ∀ q, ¬ q = (0, 0) → G.2.1 (.inl q) = none) : Met l yX10_init (hk_ws yX10_init cX10_init 1 none) ({ frames := 4, cells := 18, slots := 650, locals := 72 }) (hk_P D G (hk_cm τ σ) [.ref a]) (hk_Q D (fun v' G' iv' => none = v' ∧ ∃ a1 a4 a7 a10 b11_0 a13 b14_0 b14_1 a16 b17_0 b17_1 a19 b20_0 b20_1 a22 b23_0 b23_1 b23_2 : Nat, G' = GT_init D G a a1 a4 a7 a10 b11_0 a13 b14_0 b14_1 a16 b17_0 b17_1 a19 b20_0 b20_1 a22 b23_0 b23_1 b23_2 ∧ iv' = hk_cm (T_init τ) σ)) 18 650 (hk_A D) := by
  refine hk_met (by decide +kernel) (Nat.le_of_ble_eq_true rfl) (fun p e s m below meth c hx hb hr hml hlocks ht hown hin hK hH hS ls hl => ?_)
  have hl : lv_has ls 1 [(0, .ref a)] := hl
  refine lv_aload_n hx hb dX10_init_0 rfl (lv_at hl 0 rfl) ?_
  refine W.objInit hx hb hown (ht _ tw_60) (ht _ tw_61) (ht _ tw_62) rfl (by rw [hml]; exact hl.1) rfl dX10_init_1 (Nat.le_of_ble_eq_true rfl) (Nat.le_of_ble_eq_true rfl) ?_
  refine lv_aload_n hx hb dX10_init_4 rfl (lv_at hl 0 rfl) ?_
  refine hk_new (G := G) (L := (.inl (1, 0))) hx hb ht hown hK hH hS kc_0 (by simp [hk_add, hk_rf, ha, hk, hno]) (by decide) tw_63 tw_64 tw_37 ⟨Nat.le_of_ble_eq_true rfl, Nat.le_of_ble_eq_true rfl⟩ dX10_init_5 (fun H a1 hH hS => ?_)
  rw [hk_zr_l] at hH
  obtain ⟨G1, hG1⟩ : ∃ g, g = hk_add G (.inl (1, 0)) a1 (.inl 0) (fun j => defaultValue (tyJx4a65c j)) := ⟨_, rfl⟩
  rw [← hG1] at hH
  refine lv_dup hx hb dX10_init_8 rfl ?_
  refine hk_cI (G := G1) (As := []) (rest := [.ref a1, .ref a]) hx hb hml hl.1 ht hown hK hH hS (c_iA l D G1 (hk_zo τ (1, 0)) σ 0 a1 (by simp [hG1, hk_add, hk_rf, ha, hk, hno]) (by simp [hG1, hk_add, hk_rf, ha, hk, hno])) ymI_Jx4a65c_init_da8c8 tw_65 ⟨rfl, rfl⟩ ⟨Nat.le_of_ble_eq_true rfl, Nat.le_of_ble_eq_true rfl⟩ rfl rfl (Nat.le_of_ble_eq_true rfl) dX10_init_9 ⟨Nat.le_of_ble_eq_true rfl, Nat.le_of_ble_eq_true rfl⟩ (fun v G2 iv H locs hP hH hS => ?_)
  obtain ⟨rfl, hG2, rfl⟩ := hP
  refine hk_putr_a (G := G2) (L := (.inl (0, 0))) (v := .ref a1) (by simp [hG2, hG1, hk_add, hk_rf, ha, hk, hno]) hx hb ht hown hK hH hS kc_11 (by simp [hG2, hG1, hk_add, hk_rf, ha, hk, hno]) 0 (by decide) rfl tw_168 rfl (Or.inr ⟨rfl, hin, rfl⟩) rfl rfl dX10_init_12 (fun H locs hH hS => ?_)
  obtain ⟨G3, hG3⟩ : ∃ g, g = hk_rf G2 (.inl (0, 0)) 0 (.ref a1) := ⟨_, rfl⟩
  rw [← hG3] at hH
  refine lv_aload_n hx hb dX10_init_15 rfl (lv_at hl 0 rfl) ?_
  refine hk_new (G := G3) (L := (.inl (1, 1))) hx hb ht hown hK hH hS kc_0 (by simp [hG3, hG2, hG1, hk_add, hk_rf, ha, hk, hno]) (by decide) tw_63 tw_64 tw_37 ⟨Nat.le_of_ble_eq_true rfl, Nat.le_of_ble_eq_true rfl⟩ dX10_init_16 (fun H a4 hH hS => ?_)
  rw [hk_zr_l] at hH
  obtain ⟨G4, hG4⟩ : ∃ g, g = hk_add G3 (.inl (1, 1)) a4 (.inl 0) (fun j => defaultValue (tyJx4a65c j)) := ⟨_, rfl⟩
  rw [← hG4] at hH
  refine lv_dup hx hb dX10_init_19 rfl ?_
  refine hk_cI (G := G4) (As := []) (rest := [.ref a4, .ref a]) hx hb hml hl.1 ht hown hK hH hS (c_iA l D G4 (hk_zo (hk_u (hk_zo τ (1, 0)) (1, 0) 0 0) (1, 1)) σ 1 a4 (by simp [hG4, hG3, hG2, hG1, hk_add, hk_rf, ha, hk, hno]) (by simp [hG4, hG3, hG2, hG1, hk_add, hk_rf, ha, hk, hno])) ymI_Jx4a65c_init_da8c8 tw_65 ⟨rfl, rfl⟩ ⟨Nat.le_of_ble_eq_true rfl, Nat.le_of_ble_eq_true rfl⟩ rfl rfl (Nat.le_of_ble_eq_true rfl) dX10_init_20 ⟨Nat.le_of_ble_eq_true rfl, Nat.le_of_ble_eq_true rfl⟩ (fun v G5 iv H locs hP hH hS => ?_)
  obtain ⟨rfl, hG5, rfl⟩ := hP
  refine hk_putr_a (G := G5) (L := (.inl (0, 0))) (v := .ref a4) (by simp [hG5, hG4, hG3, hG2, hG1, hk_add, hk_rf, ha, hk, hno]) hx hb ht hown hK hH hS kc_11 (by simp [hG5, hG4, hG3, hG2, hG1, hk_add, hk_rf, ha, hk, hno]) 1 (by decide) rfl tw_169 rfl (Or.inr ⟨rfl, hin, rfl⟩) rfl rfl dX10_init_23 (fun H locs hH hS => ?_)
  obtain ⟨G6, hG6⟩ : ∃ g, g = hk_rf G5 (.inl (0, 0)) 1 (.ref a4) := ⟨_, rfl⟩
  rw [← hG6] at hH
  refine lv_aload_n hx hb dX10_init_26 rfl (lv_at hl 0 rfl) ?_
  refine hk_new (G := G6) (L := (.inl (1, 2))) hx hb ht hown hK hH hS kc_0 (by simp [hG6, hG5, hG4, hG3, hG2, hG1, hk_add, hk_rf, ha, hk, hno]) (by decide) tw_63 tw_64 tw_37 ⟨Nat.le_of_ble_eq_true rfl, Nat.le_of_ble_eq_true rfl⟩ dX10_init_27 (fun H a7 hH hS => ?_)
  rw [hk_zr_l] at hH
  obtain ⟨G7, hG7⟩ : ∃ g, g = hk_add G6 (.inl (1, 2)) a7 (.inl 0) (fun j => defaultValue (tyJx4a65c j)) := ⟨_, rfl⟩
  rw [← hG7] at hH
  refine lv_dup hx hb dX10_init_30 rfl ?_
  refine hk_cI (G := G7) (As := []) (rest := [.ref a7, .ref a]) hx hb hml hl.1 ht hown hK hH hS (c_iA l D G7 (hk_zo (hk_u (hk_zo (hk_u (hk_zo τ (1, 0)) (1, 0) 0 0) (1, 1)) (1, 1) 0 0) (1, 2)) σ 2 a7 (by simp [hG7, hG6, hG5, hG4, hG3, hG2, hG1, hk_add, hk_rf, ha, hk, hno]) (by simp [hG7, hG6, hG5, hG4, hG3, hG2, hG1, hk_add, hk_rf, ha, hk, hno])) ymI_Jx4a65c_init_da8c8 tw_65 ⟨rfl, rfl⟩ ⟨Nat.le_of_ble_eq_true rfl, Nat.le_of_ble_eq_true rfl⟩ rfl rfl (Nat.le_of_ble_eq_true rfl) dX10_init_31 ⟨Nat.le_of_ble_eq_true rfl, Nat.le_of_ble_eq_true rfl⟩ (fun v G8 iv H locs hP hH hS => ?_)
  obtain ⟨rfl, hG8, rfl⟩ := hP
  refine hk_putr_a (G := G8) (L := (.inl (0, 0))) (v := .ref a7) (by simp [hG8, hG7, hG6, hG5, hG4, hG3, hG2, hG1, hk_add, hk_rf, ha, hk, hno]) hx hb ht hown hK hH hS kc_11 (by simp [hG8, hG7, hG6, hG5, hG4, hG3, hG2, hG1, hk_add, hk_rf, ha, hk, hno]) 2 (by decide) rfl tw_170 rfl (Or.inr ⟨rfl, hin, rfl⟩) rfl rfl dX10_init_34 (fun H locs hH hS => ?_)
  obtain ⟨G9, hG9⟩ : ∃ g, g = hk_rf G8 (.inl (0, 0)) 2 (.ref a7) := ⟨_, rfl⟩
  rw [← hG9] at hH
  refine lv_aload_n hx hb dX10_init_37 rfl (lv_at hl 0 rfl) ?_
  refine hk_new (G := G9) (L := (.inl (3, 0))) hx hb ht hown hK hH hS kc_6 (by simp [hG9, hG8, hG7, hG6, hG5, hG4, hG3, hG2, hG1, hk_add, hk_rf, ha, hk, hno]) (by decide) tw_89 tw_90 tw_38 ⟨Nat.le_of_ble_eq_true rfl, Nat.le_of_ble_eq_true rfl⟩ dX10_init_38 (fun H a10 hH hS => ?_)
  rw [hk_zr_l] at hH
  obtain ⟨G10, hG10⟩ : ∃ g, g = hk_add G9 (.inl (3, 0)) a10 (.inl 6) (fun j => defaultValue (tyX5 j)) := ⟨_, rfl⟩
  rw [← hG10] at hH
  refine lv_dup hx hb dX10_init_41 rfl ?_
  refine hk_cI (G := G10) (As := []) (rest := [.ref a10, .ref a]) hx hb hml hl.1 ht hown hK hH hS (c_i5 l D G10 (hk_zo (hk_u (hk_zo (hk_u (hk_zo (hk_u (hk_zo τ (1, 0)) (1, 0) 0 0) (1, 1)) (1, 1) 0 0) (1, 2)) (1, 2) 0 0) (3, 0)) σ a10 (by simp [hG10, hG9, hG8, hG7, hG6, hG5, hG4, hG3, hG2, hG1, hk_add, hk_rf, ha, hk, hno]) (by simp [hG10, hG9, hG8, hG7, hG6, hG5, hG4, hG3, hG2, hG1, hk_add, hk_rf, ha, hk, hno]) (by simp [hG10, hG9, hG8, hG7, hG6, hG5, hG4, hG3, hG2, hG1, hk_add, hk_rf, ha, hk, hno])) ymI_X5_init tw_91 ⟨rfl, rfl⟩ ⟨Nat.le_of_ble_eq_true rfl, Nat.le_of_ble_eq_true rfl⟩ rfl rfl (Nat.le_of_ble_eq_true rfl) dX10_init_42 ⟨Nat.le_of_ble_eq_true rfl, Nat.le_of_ble_eq_true rfl⟩ (fun v G11 iv H locs hP hH hS => ?_)
  obtain ⟨rfl, b11_0, hG11, rfl⟩ := hP
  refine hk_putr_a (G := G11) (L := (.inl (0, 0))) (v := .ref a10) (by simp [hG11, hG10, hG9, hG8, hG7, hG6, hG5, hG4, hG3, hG2, hG1, hk_add, hk_rf, ha, hk, hno]) hx hb ht hown hK hH hS kc_11 (by simp [hG11, hG10, hG9, hG8, hG7, hG6, hG5, hG4, hG3, hG2, hG1, hk_add, hk_rf, ha, hk, hno]) 3 (by decide) rfl tw_171 rfl (Or.inr ⟨rfl, hin, rfl⟩) rfl rfl dX10_init_45 (fun H locs hH hS => ?_)
  obtain ⟨G12, hG12⟩ : ∃ g, g = hk_rf G11 (.inl (0, 0)) 3 (.ref a10) := ⟨_, rfl⟩
  rw [← hG12] at hH
  refine lv_aload_n hx hb dX10_init_48 rfl (lv_at hl 0 rfl) ?_
  refine hk_new (G := G12) (L := (.inl (4, 0))) hx hb ht hown hK hH hS kc_10 (by simp [hG12, hG11, hG10, hG9, hG8, hG7, hG6, hG5, hG4, hG3, hG2, hG1, hk_add, hk_rf, ha, hk, hno]) (by decide) tw_104 tw_105 tw_39 ⟨Nat.le_of_ble_eq_true rfl, Nat.le_of_ble_eq_true rfl⟩ dX10_init_49 (fun H a13 hH hS => ?_)
  rw [hk_zr_l] at hH
  obtain ⟨G13, hG13⟩ : ∃ g, g = hk_add G12 (.inl (4, 0)) a13 (.inl 10) (fun j => defaultValue (tyX9 j)) := ⟨_, rfl⟩
  rw [← hG13] at hH
  refine lv_dup hx hb dX10_init_52 rfl ?_
  refine hk_cI (G := G13) (As := []) (rest := [.ref a13, .ref a]) hx hb hml hl.1 ht hown hK hH hS (c_i9 l D G13 (hk_zo (hk_zo (hk_zo (hk_u (hk_zo (hk_u (hk_zo (hk_u (hk_zo τ (1, 0)) (1, 0) 0 0) (1, 1)) (1, 1) 0 0) (1, 2)) (1, 2) 0 0) (3, 0)) (3, 1)) (4, 0)) σ a13 (by simp [hG13, hG12, hG11, hG10, hG9, hG8, hG7, hG6, hG5, hG4, hG3, hG2, hG1, hk_add, hk_rf, ha, hk, hno]) (by simp [hG13, hG12, hG11, hG10, hG9, hG8, hG7, hG6, hG5, hG4, hG3, hG2, hG1, hk_add, hk_rf, ha, hk, hno]) (by simp [hG13, hG12, hG11, hG10, hG9, hG8, hG7, hG6, hG5, hG4, hG3, hG2, hG1, hk_add, hk_rf, ha, hk, hno]) (by simp [hG13, hG12, hG11, hG10, hG9, hG8, hG7, hG6, hG5, hG4, hG3, hG2, hG1, hk_add, hk_rf, ha, hk, hno])) ymI_X9_init tw_106 ⟨rfl, rfl⟩ ⟨Nat.le_of_ble_eq_true rfl, Nat.le_of_ble_eq_true rfl⟩ rfl rfl (Nat.le_of_ble_eq_true rfl) dX10_init_53 ⟨Nat.le_of_ble_eq_true rfl, Nat.le_of_ble_eq_true rfl⟩ (fun v G14 iv H locs hP hH hS => ?_)
  obtain ⟨rfl, b14_0, b14_1, hG14, rfl⟩ := hP
  refine hk_putr_a (G := G14) (L := (.inl (0, 0))) (v := .ref a13) (by simp [hG14, hG13, hG12, hG11, hG10, hG9, hG8, hG7, hG6, hG5, hG4, hG3, hG2, hG1, hk_add, hk_rf, ha, hk, hno]) hx hb ht hown hK hH hS kc_11 (by simp [hG14, hG13, hG12, hG11, hG10, hG9, hG8, hG7, hG6, hG5, hG4, hG3, hG2, hG1, hk_add, hk_rf, ha, hk, hno]) 4 (by decide) rfl tw_172 rfl (Or.inr ⟨rfl, hin, rfl⟩) rfl rfl dX10_init_56 (fun H locs hH hS => ?_)
  obtain ⟨G15, hG15⟩ : ∃ g, g = hk_rf G14 (.inl (0, 0)) 4 (.ref a13) := ⟨_, rfl⟩
  rw [← hG15] at hH
  refine lv_aload_n hx hb dX10_init_59 rfl (lv_at hl 0 rfl) ?_
  refine hk_new (G := G15) (L := (.inl (5, 0))) hx hb ht hown hK hH hS kc_8 (by simp [hG15, hG14, hG13, hG12, hG11, hG10, hG9, hG8, hG7, hG6, hG5, hG4, hG3, hG2, hG1, hk_add, hk_rf, ha, hk, hno]) (by decide) tw_130 tw_131 tw_40 ⟨Nat.le_of_ble_eq_true rfl, Nat.le_of_ble_eq_true rfl⟩ dX10_init_60 (fun H a16 hH hS => ?_)
  rw [hk_zr_l] at hH
  obtain ⟨G16, hG16⟩ : ∃ g, g = hk_add G15 (.inl (5, 0)) a16 (.inl 8) (fun j => defaultValue (tyX7 j)) := ⟨_, rfl⟩
  rw [← hG16] at hH
  refine lv_dup hx hb dX10_init_63 rfl ?_
  refine lv_iconst (v := 2) hx hb dX10_init_64 (by decide) ?_
  refine hk_cI (G := G16) (As := [.int 2]) (rest := [.ref a16, .ref a]) hx hb hml hl.1 ht hown hK hH hS (c_i7 l D G16 (hk_zo (hk_zo (hk_zo (hk_zo (hk_zo (hk_zo (hk_u (hk_zo (hk_u (hk_zo (hk_u (hk_zo τ (1, 0)) (1, 0) 0 0) (1, 1)) (1, 1) 0 0) (1, 2)) (1, 2) 0 0) (3, 0)) (3, 1)) (4, 0)) (4, 1)) (4, 2)) (5, 0)) σ 0 a16 2 (by simp [hG16, hG15, hG14, hG13, hG12, hG11, hG10, hG9, hG8, hG7, hG6, hG5, hG4, hG3, hG2, hG1, hk_add, hk_rf, ha, hk, hno]) (by simp [hG16, hG15, hG14, hG13, hG12, hG11, hG10, hG9, hG8, hG7, hG6, hG5, hG4, hG3, hG2, hG1, hk_add, hk_rf, ha, hk, hno]) (by simp [hG16, hG15, hG14, hG13, hG12, hG11, hG10, hG9, hG8, hG7, hG6, hG5, hG4, hG3, hG2, hG1, hk_add, hk_rf, ha, hk, hno]) (by simp [hG16, hG15, hG14, hG13, hG12, hG11, hG10, hG9, hG8, hG7, hG6, hG5, hG4, hG3, hG2, hG1, hk_add, hk_rf, ha, hk, hno])) ymI_X7_init tw_132 ⟨rfl, rfl⟩ ⟨Nat.le_of_ble_eq_true rfl, Nat.le_of_ble_eq_true rfl⟩ rfl rfl (Nat.le_of_ble_eq_true rfl) dX10_init_65 ⟨Nat.le_of_ble_eq_true rfl, Nat.le_of_ble_eq_true rfl⟩ (fun v G17 iv H locs hP hH hS => ?_)
  obtain ⟨rfl, b17_0, b17_1, hG17, rfl⟩ := hP
  refine hk_putr_a (G := G17) (L := (.inl (0, 0))) (v := .ref a16) (by simp [hG17, hG16, hG15, hG14, hG13, hG12, hG11, hG10, hG9, hG8, hG7, hG6, hG5, hG4, hG3, hG2, hG1, hk_add, hk_rf, ha, hk, hno]) hx hb ht hown hK hH hS kc_11 (by simp [hG17, hG16, hG15, hG14, hG13, hG12, hG11, hG10, hG9, hG8, hG7, hG6, hG5, hG4, hG3, hG2, hG1, hk_add, hk_rf, ha, hk, hno]) 5 (by decide) rfl tw_173 rfl (Or.inr ⟨rfl, hin, rfl⟩) rfl rfl dX10_init_68 (fun H locs hH hS => ?_)
  obtain ⟨G18, hG18⟩ : ∃ g, g = hk_rf G17 (.inl (0, 0)) 5 (.ref a16) := ⟨_, rfl⟩
  rw [← hG18] at hH
  refine lv_aload_n hx hb dX10_init_71 rfl (lv_at hl 0 rfl) ?_
  refine hk_new (G := G18) (L := (.inl (5, 1))) hx hb ht hown hK hH hS kc_8 (by simp [hG18, hG17, hG16, hG15, hG14, hG13, hG12, hG11, hG10, hG9, hG8, hG7, hG6, hG5, hG4, hG3, hG2, hG1, hk_add, hk_rf, ha, hk, hno]) (by decide) tw_130 tw_131 tw_40 ⟨Nat.le_of_ble_eq_true rfl, Nat.le_of_ble_eq_true rfl⟩ dX10_init_72 (fun H a19 hH hS => ?_)
  rw [hk_zr_l] at hH
  obtain ⟨G19, hG19⟩ : ∃ g, g = hk_add G18 (.inl (5, 1)) a19 (.inl 8) (fun j => defaultValue (tyX7 j)) := ⟨_, rfl⟩
  rw [← hG19] at hH
  refine lv_dup hx hb dX10_init_75 rfl ?_
  refine lv_iconst (v := 0) hx hb dX10_init_76 (by decide) ?_
  refine hk_cI (G := G19) (As := [.int 0]) (rest := [.ref a19, .ref a]) hx hb hml hl.1 ht hown hK hH hS (c_i7 l D G19 (hk_zo (hk_zo (hk_zo (hk_u (hk_zo (hk_zo (hk_zo (hk_zo (hk_zo (hk_zo (hk_u (hk_zo (hk_u (hk_zo (hk_u (hk_zo τ (1, 0)) (1, 0) 0 0) (1, 1)) (1, 1) 0 0) (1, 2)) (1, 2) 0 0) (3, 0)) (3, 1)) (4, 0)) (4, 1)) (4, 2)) (5, 0)) (5, 0) 2 2) (6, 0)) (7, 0)) (5, 1)) σ 1 a19 0 (by simp [hG19, hG18, hG17, hG16, hG15, hG14, hG13, hG12, hG11, hG10, hG9, hG8, hG7, hG6, hG5, hG4, hG3, hG2, hG1, hk_add, hk_rf, ha, hk, hno]) (by simp [hG19, hG18, hG17, hG16, hG15, hG14, hG13, hG12, hG11, hG10, hG9, hG8, hG7, hG6, hG5, hG4, hG3, hG2, hG1, hk_add, hk_rf, ha, hk, hno]) (by simp [hG19, hG18, hG17, hG16, hG15, hG14, hG13, hG12, hG11, hG10, hG9, hG8, hG7, hG6, hG5, hG4, hG3, hG2, hG1, hk_add, hk_rf, ha, hk, hno]) (by simp [hG19, hG18, hG17, hG16, hG15, hG14, hG13, hG12, hG11, hG10, hG9, hG8, hG7, hG6, hG5, hG4, hG3, hG2, hG1, hk_add, hk_rf, ha, hk, hno])) ymI_X7_init tw_132 ⟨rfl, rfl⟩ ⟨Nat.le_of_ble_eq_true rfl, Nat.le_of_ble_eq_true rfl⟩ rfl rfl (Nat.le_of_ble_eq_true rfl) dX10_init_77 ⟨Nat.le_of_ble_eq_true rfl, Nat.le_of_ble_eq_true rfl⟩ (fun v G20 iv H locs hP hH hS => ?_)
  obtain ⟨rfl, b20_0, b20_1, hG20, rfl⟩ := hP
  refine hk_putr_a (G := G20) (L := (.inl (0, 0))) (v := .ref a19) (by simp [hG20, hG19, hG18, hG17, hG16, hG15, hG14, hG13, hG12, hG11, hG10, hG9, hG8, hG7, hG6, hG5, hG4, hG3, hG2, hG1, hk_add, hk_rf, ha, hk, hno]) hx hb ht hown hK hH hS kc_11 (by simp [hG20, hG19, hG18, hG17, hG16, hG15, hG14, hG13, hG12, hG11, hG10, hG9, hG8, hG7, hG6, hG5, hG4, hG3, hG2, hG1, hk_add, hk_rf, ha, hk, hno]) 6 (by decide) rfl tw_174 rfl (Or.inr ⟨rfl, hin, rfl⟩) rfl rfl dX10_init_80 (fun H locs hH hS => ?_)
  obtain ⟨G21, hG21⟩ : ∃ g, g = hk_rf G20 (.inl (0, 0)) 6 (.ref a19) := ⟨_, rfl⟩
  rw [← hG21] at hH
  refine lv_aload_n hx hb dX10_init_83 rfl (lv_at hl 0 rfl) ?_
  refine hk_new (G := G21) (L := (.inl (8, 0))) hx hb ht hown hK hH hS kc_1 (by simp [hG21, hG20, hG19, hG18, hG17, hG16, hG15, hG14, hG13, hG12, hG11, hG10, hG9, hG8, hG7, hG6, hG5, hG4, hG3, hG2, hG1, hk_add, hk_rf, ha, hk, hno]) (by decide) tw_149 tw_150 tw_41 ⟨Nat.le_of_ble_eq_true rfl, Nat.le_of_ble_eq_true rfl⟩ dX10_init_84 (fun H a22 hH hS => ?_)
  rw [hk_zr_l] at hH
  obtain ⟨G22, hG22⟩ : ∃ g, g = hk_add G21 (.inl (8, 0)) a22 (.inl 1) (fun j => defaultValue (tyX0 j)) := ⟨_, rfl⟩
  rw [← hG22] at hH
  refine lv_dup hx hb dX10_init_87 rfl ?_
  refine hk_cI (G := G22) (As := []) (rest := [.ref a22, .ref a]) hx hb hml hl.1 ht hown hK hH hS (c_i0 l D G22 (hk_zo (hk_zo (hk_zo (hk_u (hk_zo (hk_zo (hk_zo (hk_u (hk_zo (hk_zo (hk_zo (hk_zo (hk_zo (hk_zo (hk_u (hk_zo (hk_u (hk_zo (hk_u (hk_zo τ (1, 0)) (1, 0) 0 0) (1, 1)) (1, 1) 0 0) (1, 2)) (1, 2) 0 0) (3, 0)) (3, 1)) (4, 0)) (4, 1)) (4, 2)) (5, 0)) (5, 0) 2 2) (6, 0)) (7, 0)) (5, 1)) (5, 1) 2 0) (6, 1)) (7, 1)) (8, 0)) σ a22 (by simp [hG22, hG21, hG20, hG19, hG18, hG17, hG16, hG15, hG14, hG13, hG12, hG11, hG10, hG9, hG8, hG7, hG6, hG5, hG4, hG3, hG2, hG1, hk_add, hk_rf, ha, hk, hno]) (by simp [hG22, hG21, hG20, hG19, hG18, hG17, hG16, hG15, hG14, hG13, hG12, hG11, hG10, hG9, hG8, hG7, hG6, hG5, hG4, hG3, hG2, hG1, hk_add, hk_rf, ha, hk, hno]) (by simp [hG22, hG21, hG20, hG19, hG18, hG17, hG16, hG15, hG14, hG13, hG12, hG11, hG10, hG9, hG8, hG7, hG6, hG5, hG4, hG3, hG2, hG1, hk_add, hk_rf, ha, hk, hno]) (by simp [hG22, hG21, hG20, hG19, hG18, hG17, hG16, hG15, hG14, hG13, hG12, hG11, hG10, hG9, hG8, hG7, hG6, hG5, hG4, hG3, hG2, hG1, hk_add, hk_rf, ha, hk, hno]) (by simp [hG22, hG21, hG20, hG19, hG18, hG17, hG16, hG15, hG14, hG13, hG12, hG11, hG10, hG9, hG8, hG7, hG6, hG5, hG4, hG3, hG2, hG1, hk_add, hk_rf, ha, hk, hno])) ymI_X0_init tw_151 ⟨rfl, rfl⟩ ⟨Nat.le_of_ble_eq_true rfl, Nat.le_of_ble_eq_true rfl⟩ rfl rfl (Nat.le_of_ble_eq_true rfl) dX10_init_88 ⟨Nat.le_of_ble_eq_true rfl, Nat.le_of_ble_eq_true rfl⟩ (fun v G23 iv H locs hP hH hS => ?_)
  obtain ⟨rfl, b23_0, b23_1, b23_2, hG23, rfl⟩ := hP
  refine hk_putr_a (G := G23) (L := (.inl (0, 0))) (v := .ref a22) (by simp [hG23, hG22, hG21, hG20, hG19, hG18, hG17, hG16, hG15, hG14, hG13, hG12, hG11, hG10, hG9, hG8, hG7, hG6, hG5, hG4, hG3, hG2, hG1, hk_add, hk_rf, ha, hk, hno]) hx hb ht hown hK hH hS kc_11 (by simp [hG23, hG22, hG21, hG20, hG19, hG18, hG17, hG16, hG15, hG14, hG13, hG12, hG11, hG10, hG9, hG8, hG7, hG6, hG5, hG4, hG3, hG2, hG1, hk_add, hk_rf, ha, hk, hno]) 7 (by decide) rfl tw_175 rfl (Or.inr ⟨rfl, hin, rfl⟩) rfl rfl dX10_init_91 (fun H locs hH hS => ?_)
  obtain ⟨G24, hG24⟩ : ∃ g, g = hk_rf G23 (.inl (0, 0)) 7 (.ref a22) := ⟨_, rfl⟩
  rw [← hG24] at hH
  refine lv_aload_n hx hb dX10_init_94 rfl (lv_at hl 0 rfl) ?_
  refine lv_iconst (v := 0) hx hb dX10_init_95 (by decide) ?_
  refine hk_puti_a (G := G24) (L := (.inl (0, 0))) (by simp [hG24, hG23, hG22, hG21, hG20, hG19, hG18, hG17, hG16, hG15, hG14, hG13, hG12, hG11, hG10, hG9, hG8, hG7, hG6, hG5, hG4, hG3, hG2, hG1, hk_add, hk_rf, ha, hk, hno]) hx hb ht hown hK hH hS kc_11 (by simp [hG24, hG23, hG22, hG21, hG20, hG19, hG18, hG17, hG16, hG15, hG14, hG13, hG12, hG11, hG10, hG9, hG8, hG7, hG6, hG5, hG4, hG3, hG2, hG1, hk_add, hk_rf, ha, hk, hno]) 8 (by decide) rfl tw_176 rfl (Or.inl rfl) rfl dX10_init_96 (fun H locs hH hS => ?_)
  rw [hk_up_l] at hH
  refine lv_aload_n hx hb dX10_init_99 rfl (lv_at hl 0 rfl) ?_
  refine lv_bipush (v := 10) hx hb dX10_init_100 (by decide) ?_
  refine hk_puti_a (G := G24) (L := (.inl (0, 0))) (by simp [hG24, hG23, hG22, hG21, hG20, hG19, hG18, hG17, hG16, hG15, hG14, hG13, hG12, hG11, hG10, hG9, hG8, hG7, hG6, hG5, hG4, hG3, hG2, hG1, hk_add, hk_rf, ha, hk, hno]) hx hb ht hown hK hH hS kc_11 (by simp [hG24, hG23, hG22, hG21, hG20, hG19, hG18, hG17, hG16, hG15, hG14, hG13, hG12, hG11, hG10, hG9, hG8, hG7, hG6, hG5, hG4, hG3, hG2, hG1, hk_add, hk_rf, ha, hk, hno]) 9 (by decide) rfl tw_177 rfl (Or.inl rfl) rfl dX10_init_102 (fun H locs hH hS => ?_)
  rw [hk_up_l] at hH
  refine lv_aload_n hx hb dX10_init_105 rfl (lv_at hl 0 rfl) ?_
  refine lv_lconst (v := 0) hx hb dX10_init_106 (by decide) ?_
  refine hk_putr_a (G := G24) (L := (.inl (0, 0))) (v := .long 0) (by simp [hG24, hG23, hG22, hG21, hG20, hG19, hG18, hG17, hG16, hG15, hG14, hG13, hG12, hG11, hG10, hG9, hG8, hG7, hG6, hG5, hG4, hG3, hG2, hG1, hk_add, hk_rf, ha, hk, hno]) hx hb ht hown hK hH hS kc_11 (by simp [hG24, hG23, hG22, hG21, hG20, hG19, hG18, hG17, hG16, hG15, hG14, hG13, hG12, hG11, hG10, hG9, hG8, hG7, hG6, hG5, hG4, hG3, hG2, hG1, hk_add, hk_rf, ha, hk, hno]) 10 (by decide) rfl tw_178 rfl (Or.inl rfl) rfl rfl dX10_init_107 (fun H locs hH hS => ?_)
  obtain ⟨G25, hG25⟩ : ∃ g, g = hk_rf G24 (.inl (0, 0)) 10 (.long 0) := ⟨_, rfl⟩
  rw [← hG25] at hH
  exact hk_vret hx hb hr hlocks hH hS ⟨rfl, a1, a4, a7, a10, b11_0, a13, b14_0, b14_1, a16, b17_0, b17_1, a19, b20_0, b20_1, a22, b23_0, b23_1, b23_2, (by simp only [GT_init, hG25, hG24, hG23, hG22, hG21, hG20, hG19, hG18, hG17, hG16, hG15, hG14, hG13, hG12, hG11, hG10, hG9, hG8, hG7, hG6, hG5, hG4, hG3, hG2, hG1]), rfl⟩ dX10_init_110
