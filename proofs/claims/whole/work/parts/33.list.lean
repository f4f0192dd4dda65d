def hk_kc (kd : Int32) : Nat := if kd = 1 then 3 else if kd = 2 then 2 else 9
theorem ymI_X1_init : hk_mI yX1_init cX1_init 1 0 := ⟨tw_384, tw_383, tw_54, rfl, by decide, by decide, by decide +kernel⟩
set_option maxHeartbeats 4000000 in
set_option maxRecDepth 100000 in
theorem c_kindOf (l : Launch) (D : hk_D) (G : hk_G) (τ σ : hk_v) (i : Nat) (kd : Int32) (hkd : kd = 0 ∨ kd = 1 ∨ kd = 2) (hn0 : G.2.1 (.inl (12, i)) = none) : Met l yX10_kindOf (hk_ws yX10_kindOf cX10_kindOf 1 (some (FieldType.object "HopYard$Plain"))) ({ frames := 4, cells := 1, slots := 0, locals := 72 }) (hk_P D G (hk_cm τ σ) [.int kd]) (hk_Q D (fun v' G' iv' => ∃ (a : Nat) (r : Nat → Value), some (.ref a) = v' ∧ G' = hk_add G (.inl (12, i)) a (.inl (hk_kc kd)) r ∧ iv' = hk_cm (hk_zo τ (12, i)) σ)) 1 0 (hk_A D) := by
  refine hk_met (by decide +kernel) (Nat.le_of_ble_eq_true rfl) (fun p e s m below meth c hx hb hr hml hlocks ht hown hin hK hH hS ls hl => ?_)
  have hl : lv_has ls 1 [(0, .int kd)] := hl
  refine lv_iload_n hx hb dX10_kindOf_0 rfl (lv_at hl 0 rfl) ?_
  rcases hkd with rfl | rfl | rfl
  · refine lv_lookup (off := 43) (tgt := 44) hx hb dX10_kindOf_1 (by decide) (by decide) (by decide) ?_
    refine hk_new (G := G) (L := (.inl (12, i))) hx hb ht hown hK hH hS kc_9 (by simp [hk_add, hk_rf, hn0]) (by decide) tw_387 tw_388 tw_52 ⟨Nat.le_of_ble_eq_true rfl, Nat.le_of_ble_eq_true rfl⟩ dX10_kindOf_44 (fun H a1 hH hS => ?_)
    rw [hk_zr_l] at hH
    obtain ⟨G1, hG1⟩ : ∃ g, g = hk_add G (.inl (12, i)) a1 (.inl 9) (fun j => defaultValue (tyX8 j)) := ⟨_, rfl⟩
    rw [← hG1] at hH
    refine lv_dup hx hb dX10_kindOf_47 rfl ?_
    refine hk_cIN (G := G1) (As := []) (rest := [.ref a1]) hx hb hml hl.1 ht hown hK hH hS (c_i8 l D G1 (hk_zo τ (12, i)) σ a1) ymI_X8_init (List.mem_filter.mpr ⟨tw_389, rfl⟩) ⟨rfl, rfl⟩ ⟨Nat.le_of_ble_eq_true rfl, Nat.le_of_ble_eq_true rfl⟩ rfl rfl (Nat.le_of_ble_eq_true rfl) dX10_kindOf_48 ⟨Nat.le_of_ble_eq_true rfl, Nat.le_of_ble_eq_true rfl⟩ (hk_ev (fun H locs hH hS => ?_))
    exact hk_aret hx hb hr hlocks (Or.inl ⟨_, rfl⟩) (Or.inr ⟨_, rfl⟩) hH hS ⟨a1, _, rfl, (by rw [hG1, show hk_kc 0 = 9 from by decide]), rfl⟩ dX10_kindOf_51
  · refine lv_lookup (off := 27) (tgt := 28) hx hb dX10_kindOf_1 (by decide) (by decide) (by decide) ?_
    refine hk_new (G := G) (L := (.inl (12, i))) hx hb ht hown hK hH hS kc_3 (by simp [hk_add, hk_rf, hn0]) (by decide) tw_370 tw_371 tw_53 ⟨Nat.le_of_ble_eq_true rfl, Nat.le_of_ble_eq_true rfl⟩ dX10_kindOf_28 (fun H a3 hH hS => ?_)
    rw [hk_zr_l] at hH
    obtain ⟨G3, hG3⟩ : ∃ g, g = hk_add G (.inl (12, i)) a3 (.inl 3) (fun j => defaultValue (tyX2 j)) := ⟨_, rfl⟩
    rw [← hG3] at hH
    refine lv_dup hx hb dX10_kindOf_31 rfl ?_
    refine hk_cIN (G := G3) (As := []) (rest := [.ref a3]) hx hb hml hl.1 ht hown hK hH hS (c_i2 l D G3 (hk_zo τ (12, i)) σ a3) ymI_X2_init (List.mem_filter.mpr ⟨tw_372, rfl⟩) ⟨rfl, rfl⟩ ⟨Nat.le_of_ble_eq_true rfl, Nat.le_of_ble_eq_true rfl⟩ rfl rfl (Nat.le_of_ble_eq_true rfl) dX10_kindOf_32 ⟨Nat.le_of_ble_eq_true rfl, Nat.le_of_ble_eq_true rfl⟩ (hk_ev (fun H locs hH hS => ?_))
    exact hk_aret hx hb hr hlocks (Or.inl ⟨_, rfl⟩) (Or.inr ⟨_, rfl⟩) hH hS ⟨a3, _, rfl, (by rw [hG3, show hk_kc 1 = 3 from by decide]), rfl⟩ dX10_kindOf_35
  · refine lv_lookup (off := 35) (tgt := 36) hx hb dX10_kindOf_1 (by decide) (by decide) (by decide) ?_
    refine hk_new (G := G) (L := (.inl (12, i))) hx hb ht hown hK hH hS kc_2 (by simp [hk_add, hk_rf, hn0]) (by decide) tw_380 tw_381 tw_54 ⟨Nat.le_of_ble_eq_true rfl, Nat.le_of_ble_eq_true rfl⟩ dX10_kindOf_36 (fun H a5 hH hS => ?_)
    rw [hk_zr_l] at hH
    obtain ⟨G5, hG5⟩ : ∃ g, g = hk_add G (.inl (12, i)) a5 (.inl 2) (fun j => defaultValue (tyX1 j)) := ⟨_, rfl⟩
    rw [← hG5] at hH
    refine lv_dup hx hb dX10_kindOf_39 rfl ?_
    refine hk_cIN (G := G5) (As := []) (rest := [.ref a5]) hx hb hml hl.1 ht hown hK hH hS (c_i1 l D G5 (hk_zo τ (12, i)) σ a5) ymI_X1_init (List.mem_filter.mpr ⟨tw_382, rfl⟩) ⟨rfl, rfl⟩ ⟨Nat.le_of_ble_eq_true rfl, Nat.le_of_ble_eq_true rfl⟩ rfl rfl (Nat.le_of_ble_eq_true rfl) dX10_kindOf_40 ⟨Nat.le_of_ble_eq_true rfl, Nat.le_of_ble_eq_true rfl⟩ (hk_ev (fun H locs hH hS => ?_))
    exact hk_aret hx hb hr hlocks (Or.inl ⟨_, rfl⟩) (Or.inr ⟨_, rfl⟩) hH hS ⟨a5, _, rfl, (by rw [hG5, show hk_kc 2 = 2 from by decide]), rfl⟩ dX10_kindOf_43
set_option maxHeartbeats 4000000 in
set_option maxRecDepth 100000 in
theorem c_grow1 (l : Launch) (D : hk_D) (G : hk_G) (τ σ : hk_v) (J : Nat) (a : Nat) (ha : G.1 (.inl (1, J)) = a) (hk : G.2.1 (.inl (1, J)) = some (.inl 0)) (hel : G.2.2 (.inl (1, J)) 1 = .ref D.2.2) (hn0 : G.2.1 (.inl (2, J)) = none) : Met l yJx4a65c_grow_92f84 (hk_ws yJx4a65c_grow_92f84 cJx4a65c_grow_92f84 4 (some (FieldType.array (FieldType.object "java/lang/Object")))) ({ frames := 1, cells := 1, slots := 10, locals := 14 }) (hk_P D G (hk_cm τ σ) [.ref a, .int (nI (0 + 1))]) (hk_Q D (fun v' G' iv' => ∃ a1 : Nat, some (.ref a1) = v' ∧ G' = (hk_rf (hk_add G (.inl (2, J)) a1 (.inr (.inr 10)) (fun _ => .null)) (.inl (1, J)) 1 (.ref a1)) ∧ iv' = (hk_cm τ σ))) 1 10 (hk_A D) := by
  refine hk_met (by decide +kernel) (Nat.le_of_ble_eq_true rfl) (fun p e s m below meth c hx hb hr hml hlocks ht hown hin hK hH hS ls hl => ?_)
  have hl : lv_has ls 4 [(0, .ref a), (1, .int (nI (0 + 1)))] := hl
  refine lv_aload_n hx hb dJx4a65c_grow_92f84_0 rfl (lv_at hl 0 rfl) ?_
  refine hk_getr_a (G := G) (L := (.inl (1, J))) (v := .ref D.2.2) (by simp [hk_add, hk_rf, ha, hk, hel, hn0]) hx hb ht hown hK hH kc_0 (by simp [hk_add, hk_rf, ha, hk, hel, hn0]) 1 (by decide) rfl tw_77 rfl (by simp [hk_add, hk_rf, ha, hk, hel, hn0]) dJx4a65c_grow_92f84_1 ?_
  refine va_tlen (v := nI 0) hx hb hK.2.2.2.2 hS rfl dJx4a65c_grow_92f84_4 ?_
  refine lv_istore_n (lv' := [(2, .int (nI 0)), (0, .ref a), (1, .int (nI (0 + 1)))]) hx hb dJx4a65c_grow_92f84_5 rfl hl (by decide) rfl (fun ls hl => ?_)
  refine lv_iload_n hx hb dJx4a65c_grow_92f84_6 rfl (lv_at hl 0 rfl) ?_
  refine lv_if_gt (tgt := 20) hx hb dJx4a65c_grow_92f84_7 (by decide) (fun c_1 => ?_) (fun c_1 => ?_)
  · exact absurd c_1 (by decide)
  refine lv_aload_n hx hb dJx4a65c_grow_92f84_10 rfl (lv_at hl 1 rfl) ?_
  refine hk_getr_a (G := G) (L := (.inl (1, J))) (v := .ref D.2.2) (by simp [hk_add, hk_rf, ha, hk, hel, hn0]) hx hb ht hown hK hH kc_0 (by simp [hk_add, hk_rf, ha, hk, hel, hn0]) 1 (by decide) rfl tw_77 rfl (by simp [hk_add, hk_rf, ha, hk, hel, hn0]) dJx4a65c_grow_92f84_11 ?_
  refine va_gets hx hb hK.2.2.2.1 hS hown (ht _ tw_75) (fun x h => h) dJx4a65c_grow_92f84_14 ?_
  refine lv_acmp_eq (rx := some D.2.2) (ry := some D.2.2) (tgt := 45) hx hb dJx4a65c_grow_92f84_17 (by decide) (fun _ => ?_) (fun h => absurd rfl h)
  refine lv_aload_n hx hb dJx4a65c_grow_92f84_45 rfl (lv_at hl 1 rfl) ?_
  refine lv_bipush (v := 10) hx hb dJx4a65c_grow_92f84_46 (by decide) ?_
  refine lv_iload_n hx hb dJx4a65c_grow_92f84_48 rfl (lv_at hl 2 rfl) ?_
  refine va_mmax hx hb (hml.trans hl.1.symm) hown (ht _ tw_298) (ht _ tw_260) (ht _ tw_45) (ht _ tw_261) (Nat.le_of_ble_eq_true rfl) (Nat.le_of_ble_eq_true rfl) (Nat.zero_le _) (Nat.zero_le _) dJx4a65c_grow_92f84_49 ?_
  refine hk_newq (G := G) (L := (.inl (2, J))) (n := 10) hx hb ht hown hK hH hS (by simp [hk_add, hk_rf, ha, hk, hel, hn0]) tw_299 (by decide) (by omega) ⟨Nat.le_of_ble_eq_true rfl, Nat.le_of_ble_eq_true rfl⟩ dJx4a65c_grow_92f84_52 (fun H a1 hH hS => ?_)
  obtain ⟨G1, hG1⟩ : ∃ g, g = hk_add G (.inl (2, J)) a1 (.inr (.inr 10)) (fun _ => .null) := ⟨_, rfl⟩
  rw [← hG1] at hH
  refine lv_dup_x1 hx hb dJx4a65c_grow_92f84_55 rfl rfl ?_
  refine hk_putr_a (G := G1) (L := (.inl (1, J))) (v := .ref a1) (by simp [hG1, hk_add, hk_rf, ha, hk, hel, hn0]) hx hb ht hown hK hH hS kc_0 (by simp [hG1, hk_add, hk_rf, ha, hk, hel, hn0]) 1 (by decide) rfl tw_77 rfl (Or.inl rfl) rfl rfl dJx4a65c_grow_92f84_56 (fun H locs hH hS => ?_)
  obtain ⟨G2, hG2⟩ : ∃ g, g = hk_rf G1 (.inl (1, J)) 1 (.ref a1) := ⟨_, rfl⟩
  rw [← hG2] at hH
  exact hk_aret hx hb hr hlocks (Or.inr ⟨_, rfl⟩) (Or.inr ⟨_, rfl⟩) hH hS ⟨a1, rfl, (by simp only [hG2, hG1]), rfl⟩ dJx4a65c_grow_92f84_59
theorem ymV_Jx4a65c_grow_92f84 : hk_mV yJx4a65c_grow_92f84 cJx4a65c_grow_92f84 4 (some (FieldType.array (FieldType.object "java/lang/Object"))) RJx4a65c 1 := ⟨tw_255, tw_254, tw_2, tw_37, rfl, by decide, by decide, by decide +kernel⟩
set_option maxHeartbeats 4000000 in
set_option maxRecDepth 100000 in
theorem c_grow0 (l : Launch) (D : hk_D) (G : hk_G) (τ σ : hk_v) (J : Nat) (a : Nat) (ha : G.1 (.inl (1, J)) = a) (hk : G.2.1 (.inl (1, J)) = some (.inl 0)) (hel : G.2.2 (.inl (1, J)) 1 = .ref D.2.2) (hn0 : G.2.1 (.inl (2, J)) = none) (hsz : τ (1, J) 2 = nI 0) : Met l yJx4a65c_grow_d5877 (hk_ws yJx4a65c_grow_d5877 cJx4a65c_grow_d5877 1 (some (FieldType.array (FieldType.object "java/lang/Object")))) ({ frames := 2, cells := 1, slots := 10, locals := 37 }) (hk_P D G (hk_cm τ σ) [.ref a]) (hk_Q D (fun v' G' iv' => ∃ b1_0 : Nat, some (.ref b1_0) = v' ∧ G' = (hk_rf (hk_add G (.inl (2, J)) b1_0 (.inr (.inr 10)) (fun _ => .null)) (.inl (1, J)) 1 (.ref b1_0)) ∧ iv' = (hk_cm τ σ))) 1 10 (hk_A D) := by
  refine hk_met (by decide +kernel) (Nat.le_of_ble_eq_true rfl) (fun p e s m below meth c hx hb hr hml hlocks ht hown hin hK hH hS ls hl => ?_)
  have hl : lv_has ls 1 [(0, .ref a)] := hl
  refine lv_aload_n hx hb dJx4a65c_grow_d5877_0 rfl (lv_at hl 0 rfl) ?_
  refine lv_aload_n hx hb dJx4a65c_grow_d5877_1 rfl (lv_at hl 0 rfl) ?_
  refine hk_geti_a (G := G) (L := (.inl (1, J))) (v := nI 0) (by simp [hk_add, hk_rf, ha, hk, hel, hn0]) hx hb ht hown hK hH kc_0 (by simp [hk_add, hk_rf, ha, hk, hel, hn0]) 2 (by decide) rfl tw_78 rfl hsz dJx4a65c_grow_d5877_2 ?_
  refine lv_iconst (v := 1) hx hb dJx4a65c_grow_d5877_5 (by decide) ?_
  refine lv_iadd hx hb dJx4a65c_grow_d5877_6 ?_
  rw [show nI 0 + 1 = nI (0 + 1) from nI_add _ 1]
  refine hk_cV_a (G := G) (L := (.inl (1, J))) (As := [.int (nI (0 + 1))]) (rest := []) (by simp [hk_add, hk_rf, ha, hk, hel, hn0]) hx hb hml hl.1 ht hown hK hH hS (c_grow1 l D G τ σ J a (by simp [hk_add, hk_rf, ha, hk, hel, hn0]) (by simp [hk_add, hk_rf, ha, hk, hel, hn0]) (by simp [hk_add, hk_rf, ha, hk, hel, hn0]) (by simp [hk_add, hk_rf, ha, hk, hel, hn0])) ymV_Jx4a65c_grow_92f84 kc_0 (by simp [hk_add, hk_rf, ha, hk, hel, hn0]) tw_252 ⟨rfl, rfl⟩ ⟨Nat.le_of_ble_eq_true rfl, Nat.le_of_ble_eq_true rfl⟩ rfl rfl (Nat.le_of_ble_eq_true rfl) dJx4a65c_grow_d5877_7 ⟨Nat.le_of_ble_eq_true rfl, Nat.le_of_ble_eq_true rfl⟩ (fun v G1 iv H locs hP hH hS => ?_)
  obtain ⟨b1_0, rfl, hG1, rfl⟩ := hP
  exact hk_aret hx hb hr hlocks (Or.inr ⟨_, rfl⟩) (Or.inr ⟨_, rfl⟩) hH hS ⟨b1_0, rfl, (by simp only [hG1]), rfl⟩ dJx4a65c_grow_d5877_10
theorem ymV_Jx4a65c_grow_d5877 : hk_mV yJx4a65c_grow_d5877 cJx4a65c_grow_d5877 1 (some (FieldType.array (FieldType.object "java/lang/Object"))) RJx4a65c 0 := ⟨tw_251, tw_250, tw_1, tw_37, rfl, by decide, by decide, by decide +kernel⟩
set_option maxHeartbeats 4000000 in
set_option maxRecDepth 100000 in
theorem c_add3z (l : Launch) (D : hk_D) (G : hk_G) (τ σ : hk_v) (J : Nat) (a : Nat) (b : Nat) (Le : hk_L) (ci : Nat) (r : vw_C) (ha : G.1 (.inl (1, J)) = a) (hk : G.2.1 (.inl (1, J)) = some (.inl 0)) (hel : G.2.2 (.inl (1, J)) 1 = .ref D.2.2) (hn0 : G.2.1 (.inl (2, J)) = none) (hsz : τ (1, J) 2 = nI 0) (hb0 : G.1 Le = b) (hke : G.2.1 Le = some (.inl ci)) (hLe : ¬ Le = .inl (2, J)) (hvc : vwCl[ci]? = some r) (hca : Cond.castable r.1 "java/lang/Object" ∈ hk_nw) : Met l yJx4a65c_add_72be8 (hk_ws yJx4a65c_add_72be8 cJx4a65c_add_72be8 4 none) ({ frames := 3, cells := 1, slots := 10, locals := 57 }) (hk_P D G (hk_cm τ σ) [.ref a, .ref b, .ref D.2.2, .int (nI 0)]) (hk_Q D (fun v' G' iv' => none = v' ∧ ∃ b1_0 : Nat, G' = (hk_rf (hk_rf (hk_add G (.inl (2, J)) b1_0 (.inr (.inr 10)) (fun _ => .null)) (.inl (1, J)) 1 (.ref b1_0)) (.inl (2, J)) 0 (.ref b)) ∧ iv' = (hk_cm (hk_u τ (1, J) 2 (nI (0 + 1))) σ))) 1 10 (hk_A D) := by
  refine hk_met (by decide +kernel) (Nat.le_of_ble_eq_true rfl) (fun p e s m below meth c hx hb hr hml hlocks ht hown hin hK hH hS ls hl => ?_)
  have hl : lv_has ls 4 [(0, .ref a), (1, .ref b), (2, .ref D.2.2), (3, .int (nI 0))] := hl
  refine lv_iload_n hx hb dJx4a65c_add_72be8_0 rfl (lv_at hl 3 rfl) ?_
  refine lv_aload_n hx hb dJx4a65c_add_72be8_1 rfl (lv_at hl 2 rfl) ?_
  refine va_tlen (v := nI 0) hx hb hK.2.2.2.2 hS rfl dJx4a65c_add_72be8_2 ?_
  refine lv_icmp_ne (tgt := 11) hx hb dJx4a65c_add_72be8_3 (by decide) (fun c_1 => ?_) (fun c_1 => ?_)
  · exact absurd rfl c_1
  refine lv_aload_n hx hb dJx4a65c_add_72be8_6 rfl (lv_at hl 0 rfl) ?_
  refine hk_cV_a (G := G) (L := (.inl (1, J))) (As := []) (rest := []) (by simp [hk_add, hk_rf, ha, hk, hel, hn0, hb0, hke, hLe]) hx hb hml hl.1 ht hown hK hH hS (c_grow0 l D G τ σ J a (by simp [hk_add, hk_rf, ha, hk, hel, hn0, hb0, hke, hLe]) (by simp [hk_add, hk_rf, ha, hk, hel, hn0, hb0, hke, hLe]) (by simp [hk_add, hk_rf, ha, hk, hel, hn0, hb0, hke, hLe]) (by simp [hk_add, hk_rf, ha, hk, hel, hn0, hb0, hke, hLe]) hsz) ymV_Jx4a65c_grow_d5877 kc_0 (by simp [hk_add, hk_rf, ha, hk, hel, hn0, hb0, hke, hLe]) tw_248 ⟨rfl, rfl⟩ ⟨Nat.le_of_ble_eq_true rfl, Nat.le_of_ble_eq_true rfl⟩ rfl rfl (Nat.le_of_ble_eq_true rfl) dJx4a65c_add_72be8_7 ⟨Nat.le_of_ble_eq_true rfl, Nat.le_of_ble_eq_true rfl⟩ (fun v G1 iv H locs hP hH hS => ?_)
  obtain ⟨b1_0, rfl, hG1, rfl⟩ := hP
  refine lv_astore_n (lv' := [(2, .ref b1_0), (0, .ref a), (1, .ref b), (3, .int (nI 0))]) hx hb dJx4a65c_add_72be8_10 rfl hl (by decide) rfl (fun ls hl => ?_)
  refine lv_aload_n hx hb dJx4a65c_add_72be8_11 rfl (lv_at hl 0 rfl) ?_
  refine lv_iload_n hx hb dJx4a65c_add_72be8_12 rfl (lv_at hl 3 rfl) ?_
  refine lv_aload_n hx hb dJx4a65c_add_72be8_13 rfl (lv_at hl 2 rfl) ?_
  refine hk_qst (n := 10) (ci := ci) (G := G1) (L := (.inl (2, J))) (Le := Le) (by simp [hG1, hk_add, hk_rf, ha, hk, hel, hn0, hb0, hke, hLe]) (by simp [hG1, hk_add, hk_rf, ha, hk, hel, hn0, hb0, hke, hLe]) hx hb hK hH hS (by simp [hG1, hk_add, hk_rf, ha, hk, hel, hn0, hb0, hke, hLe]) (by simp [hG1, hk_add, hk_rf, ha, hk, hel, hn0, hb0, hke, hLe]) hvc hca (vp_in_nI (by omega) (by omega)) dJx4a65c_add_72be8_14 (fun H locs hH hS => ?_)
  rw [nI_clamp (by omega)] at hH
  obtain ⟨G2, hG2⟩ : ∃ g, g = hk_rf G1 (.inl (2, J)) 0 (.ref b) := ⟨_, rfl⟩
  rw [← hG2] at hH
  refine lv_aload_n hx hb dJx4a65c_add_72be8_15 rfl (lv_at hl 1 rfl) ?_
  refine lv_iload_n hx hb dJx4a65c_add_72be8_16 rfl (lv_at hl 3 rfl) ?_
  refine lv_iconst (v := 1) hx hb dJx4a65c_add_72be8_17 (by decide) ?_
  refine lv_iadd hx hb dJx4a65c_add_72be8_18 ?_
  rw [show nI 0 + 1 = nI (0 + 1) from nI_add _ 1]
  refine hk_puti_a (G := G2) (L := (.inl (1, J))) (by simp [hG2, hG1, hk_add, hk_rf, ha, hk, hel, hn0, hb0, hke, hLe]) hx hb ht hown hK hH hS kc_0 (by simp [hG2, hG1, hk_add, hk_rf, ha, hk, hel, hn0, hb0, hke, hLe]) 2 (by decide) rfl tw_78 rfl (Or.inl rfl) rfl dJx4a65c_add_72be8_19 (fun H locs hH hS => ?_)
  rw [hk_up_l] at hH
  exact hk_vret hx hb hr hlocks hH hS ⟨rfl, b1_0, (by simp only [hG2, hG1]), rfl⟩ dJx4a65c_add_72be8_22
set_option maxHeartbeats 4000000 in
set_option maxRecDepth 100000 in
theorem c_add3n (l : Launch) (D : hk_D) (G : hk_G) (τ σ : hk_v) (J : Nat) (a : Nat) (b : Nat) (Le : hk_L) (ci : Nat) (r : vw_C) (n : Nat) (a2 : Nat) (ha : G.1 (.inl (1, J)) = a) (hk : G.2.1 (.inl (1, J)) = some (.inl 0)) (ha2 : G.1 (.inl (2, J)) = a2) (hk2 : G.2.1 (.inl (2, J)) = some (.inr (.inr 10))) (hn1 : n < 10) (hb0 : G.1 Le = b) (hke : G.2.1 Le = some (.inl ci)) (hLe : ¬ Le = .inl (2, J)) (hvc : vwCl[ci]? = some r) (hca : Cond.castable r.1 "java/lang/Object" ∈ hk_nw) : Met l yJx4a65c_add_72be8 (hk_ws yJx4a65c_add_72be8 cJx4a65c_add_72be8 4 none) ({ frames := 0, cells := 0, slots := 0, locals := 0 }) (hk_P D G (hk_cm τ σ) [.ref a, .ref b, .ref a2, .int (nI n)]) (hk_Q D (fun v' G' iv' => none = v' ∧ G' = (hk_rf G (.inl (2, J)) n (.ref b)) ∧ iv' = (hk_cm (hk_u τ (1, J) 2 (nI (n + 1))) σ))) 0 0 (hk_A D) := by
  refine hk_met (by decide +kernel) (Nat.le_of_ble_eq_true rfl) (fun p e s m below meth c hx hb hr hml hlocks ht hown hin hK hH hS ls hl => ?_)
  have hl : lv_has ls 4 [(0, .ref a), (1, .ref b), (2, .ref a2), (3, .int (nI n))] := hl
  refine lv_iload_n hx hb dJx4a65c_add_72be8_0 rfl (lv_at hl 3 rfl) ?_
  refine lv_aload_n hx hb dJx4a65c_add_72be8_1 rfl (lv_at hl 2 rfl) ?_
  refine hk_qlen_a (G := G) (L := (.inl (2, J))) (v := nI 10) (by simp [hk_add, hk_rf, ha, hk, ha2, hk2, hb0, hke, hLe]) hx hb hK hH (by simp [hk_add, hk_rf, ha, hk, ha2, hk2, hb0, hke, hLe]) rfl dJx4a65c_add_72be8_2 ?_
  refine lv_icmp_ne (tgt := 11) hx hb dJx4a65c_add_72be8_3 (by decide) (fun c_1 => ?_) (fun c_1 => ?_)
  rotate_left
  · exfalso; have h9 := (nI_eq (by omega) (by omega)).mp c_1; omega
  refine lv_aload_n hx hb dJx4a65c_add_72be8_11 rfl (lv_at hl 2 rfl) ?_
  refine lv_iload_n hx hb dJx4a65c_add_72be8_12 rfl (lv_at hl 3 rfl) ?_
  refine lv_aload_n hx hb dJx4a65c_add_72be8_13 rfl (lv_at hl 1 rfl) ?_
  refine hk_qst (n := 10) (ci := ci) (G := G) (L := (.inl (2, J))) (Le := Le) (by simp [hk_add, hk_rf, ha, hk, ha2, hk2, hb0, hke, hLe]) (by simp [hk_add, hk_rf, ha, hk, ha2, hk2, hb0, hke, hLe]) hx hb hK hH hS (by simp [hk_add, hk_rf, ha, hk, ha2, hk2, hb0, hke, hLe]) (by simp [hk_add, hk_rf, ha, hk, ha2, hk2, hb0, hke, hLe]) hvc hca (vp_in_nI (by omega) (by omega)) dJx4a65c_add_72be8_14 (fun H locs hH hS => ?_)
  rw [nI_clamp (by omega)] at hH
  obtain ⟨G1, hG1⟩ : ∃ g, g = hk_rf G (.inl (2, J)) n (.ref b) := ⟨_, rfl⟩
  rw [← hG1] at hH
  refine lv_aload_n hx hb dJx4a65c_add_72be8_15 rfl (lv_at hl 0 rfl) ?_
  refine lv_iload_n hx hb dJx4a65c_add_72be8_16 rfl (lv_at hl 3 rfl) ?_
  refine lv_iconst (v := 1) hx hb dJx4a65c_add_72be8_17 (by decide) ?_
  refine lv_iadd hx hb dJx4a65c_add_72be8_18 ?_
  rw [show nI n + 1 = nI (n + 1) from nI_add _ 1]
  refine hk_puti_a (G := G1) (L := (.inl (1, J))) (by simp [hG1, hk_add, hk_rf, ha, hk, ha2, hk2, hb0, hke, hLe]) hx hb ht hown hK hH hS kc_0 (by simp [hG1, hk_add, hk_rf, ha, hk, ha2, hk2, hb0, hke, hLe]) 2 (by decide) rfl tw_78 rfl (Or.inl rfl) rfl dJx4a65c_add_72be8_19 (fun H locs hH hS => ?_)
  rw [hk_up_l] at hH
  exact hk_vret hx hb hr hlocks hH hS ⟨rfl, (by simp only [hG1]), rfl⟩ dJx4a65c_add_72be8_22
