set_option maxHeartbeats 4000000 in
set_option maxRecDepth 100000 in
theorem c_lsz (l : Launch) (D : hk_D) (G : hk_G) (τ σ : hk_v) (J : Nat) (a : Nat) (ha : G.1 (.inl (1, J)) = a) (hk : G.2.1 (.inl (1, J)) = some (.inl 0)) : Met l yJx4a65c_size_8abf5 (hk_ws yJx4a65c_size_8abf5 cJx4a65c_size_8abf5 1 (some FieldType.int)) ({ frames := 0, cells := 0, slots := 0, locals := 0 }) (hk_P D G (hk_cm τ σ) [.ref a]) (hk_Q D (hk_e G (some (.int (τ (1, J) 2))) (hk_cm τ σ))) 0 0 (hk_A D) := by
  refine hk_met (by decide +kernel) (Nat.le_of_ble_eq_true rfl) (fun p e s m below meth c hx hb hr hml hlocks ht hown hin hK hH hS ls hl => ?_)
  have hl : lv_has ls 1 [(0, .ref a)] := hl
  refine lv_aload_n hx hb dJx4a65c_size_8abf5_0 rfl (lv_at hl 0 rfl) ?_
  refine hk_geti_a (G := G) (L := (.inl (1, J))) (v := τ (1, J) 2) (by simp [hk_add, hk_rf, ha, hk]) hx hb ht hown hK hH kc_0 (by simp [hk_add, hk_rf, ha, hk]) 2 (by decide) rfl tw_78 rfl rfl dJx4a65c_size_8abf5_1 ?_
  exact hk_iret hx hb hr hlocks hH hS ⟨rfl, rfl, rfl⟩ dJx4a65c_size_8abf5_4
theorem ymI_X4_init : hk_mI yX4_init cX4_init 4 3 := ⟨tw_217, tw_216, tw_43, rfl, by decide, by decide, by decide +kernel⟩
theorem ymV_Jx4a65c_add_9ea2d : hk_mV yJx4a65c_add_9ea2d cJx4a65c_add_9ea2d 2 (some FieldType.boolean) RJx4a65c 1 := ⟨tw_243, tw_241, tw_242, tw_37, rfl, by decide, by decide, by decide +kernel⟩
def F_garden (Z : hk_Z) (τ : hk_v) (bu : Int32) (fr : Int32) (tt : Int32) : Int32 := (if (hk_in bu 1 5000) = 0 then (-1) else (if (hk_in fr 0 40) = 0 then (-1) else (if (hk_in tt fr 40) = 0 then (-1) else (if (τ (1, 0) 2) < 6 then (nI (Z.1 0 + 1)) - 1 else (-3)))))
def T_garden (Z : hk_Z) (τ : hk_v) (bu : Int32) (fr : Int32) (tt : Int32) : hk_v := (if (hk_in bu 1 5000) = 0 then τ else (if (hk_in fr 0 40) = 0 then τ else (if (hk_in tt fr 40) = 0 then τ else (if (τ (1, 0) 2) < 6 then (hk_u (hk_u (hk_u (hk_u (hk_u (hk_zo τ (9, Z.1 0)) (9, Z.1 0) 0 fr) (9, Z.1 0) 1 tt) (9, Z.1 0) 2 bu) (1, 0) 0 ((hk_u (hk_u (hk_u (hk_zo τ (9, Z.1 0)) (9, Z.1 0) 0 fr) (9, Z.1 0) 1 tt) (9, Z.1 0) 2 bu) (1, 0) 0 + 1)) (1, 0) 2 (nI (Z.1 0 + 1))) else τ))))
def Z_garden (Z : hk_Z) (τ : hk_v) (bu : Int32) (fr : Int32) (tt : Int32) : hk_Z := (if (hk_in bu 1 5000) = 0 then Z else (if (hk_in fr 0 40) = 0 then Z else (if (hk_in tt fr 40) = 0 then Z else (if (τ (1, 0) 2) < 6 then hk_zu Z 0 else Z))))
set_option maxHeartbeats 4000000 in
set_option maxRecDepth 100000 in
theorem c_garden (l : Launch) (D : hk_D) (G : hk_G) (Z : hk_Z) (τ σ : hk_v) (bu : Int32) (fr : Int32) (tt : Int32) (x y : Int64) (hW : hk_W D G Z x y) (hs : hk_sz Z τ) : Met l yX10_garden (hk_ws yX10_garden cX10_garden 4 (some FieldType.int)) ({ frames := 5, cells := 2, slots := 16, locals := 101 }) (hk_P D G (hk_cm τ σ) [.ref (G.1 (.inl (0, 0))), .int bu, .int fr, .int tt]) (hk_Q D (hk_w D G (Z_garden Z τ bu fr tt) x y (some (.int (F_garden Z τ bu fr tt))) (hk_cm (T_garden Z τ bu fr tt) σ))) 2 16 (hk_A D) := by
  refine hk_met (by decide +kernel) (Nat.le_of_ble_eq_true rfl) (fun p e s m below meth c hx hb hr hml hlocks ht hown hin hK hH hS ls hl => ?_)
  have hG := hW.1
  obtain ⟨n0, n1, n2, n3, n4, n5, m0, m1, m2⟩ := hW.2.2.2.2
  have hno := n0 (Z.1 0) (Nat.le_refl _)
  have hl : lv_has ls 4 [(0, .ref (G.1 (.inl (0, 0)))), (1, .int bu), (2, .int fr), (3, .int tt)] := hl
  refine lv_iload_n hx hb dX10_garden_0 rfl (lv_at hl 1 rfl) ?_
  refine lv_iconst (v := 1) hx hb dX10_garden_1 (by decide) ?_
  refine lv_sipush (v := 5000) hx hb dX10_garden_2 (by decide) ?_
  refine hk_cS (G := G) (As := [.int bu, .int 1, .int 5000]) (rest := []) hx hb hml hl.1 ht hown hK hH hS (c_within l D G τ σ bu 1 5000) ymS_X10_within tw_206 ⟨rfl, rfl⟩ ⟨Nat.le_of_ble_eq_true rfl, Nat.le_of_ble_eq_true rfl⟩ rfl rfl (Nat.le_of_ble_eq_true rfl) dX10_garden_5 ⟨Nat.le_of_ble_eq_true rfl, Nat.le_of_ble_eq_true rfl⟩ (hk_ea (fun H locs hH hS => ?_))
  refine lv_if_ne (tgt := 13) hx hb dX10_garden_8 (by decide) (fun c_1 => ?_) (fun c_1 => ?_)
  · refine lv_iload_n hx hb dX10_garden_13 rfl (lv_at hl 2 rfl) ?_
    refine lv_iconst (v := 0) hx hb dX10_garden_14 (by decide) ?_
    refine lv_bipush (v := 40) hx hb dX10_garden_15 (by decide) ?_
    refine hk_cS (G := G) (As := [.int fr, .int 0, .int 40]) (rest := []) hx hb hml hl.1 ht hown hK hH hS (c_within l D G τ σ fr 0 40) ymS_X10_within tw_206 ⟨rfl, rfl⟩ ⟨Nat.le_of_ble_eq_true rfl, Nat.le_of_ble_eq_true rfl⟩ rfl rfl (Nat.le_of_ble_eq_true rfl) dX10_garden_17 ⟨Nat.le_of_ble_eq_true rfl, Nat.le_of_ble_eq_true rfl⟩ (hk_ea (fun H locs hH hS => ?_))
    refine lv_if_eq (tgt := 33) hx hb dX10_garden_20 (by decide) (fun c_2 => ?_) (fun c_2 => ?_)
    · refine lv_iconst (v := -1) hx hb dX10_garden_33 (by decide) ?_
      refine W.widen (k := 2) (n := 16) (by show _ ≤ 2; omega) (by show _ ≤ 16; omega) ?_
      exact hk_iret hx hb hr hlocks hH hS ⟨(by simp only [F_garden, if_neg c_1, if_pos c_2]), (by simp only [T_garden, if_neg c_1, if_pos c_2]), (by simp only [Z_garden, if_neg c_1, if_pos c_2]; exact hW), rfl, rfl⟩ dX10_garden_34
    · refine lv_iload_n hx hb dX10_garden_23 rfl (lv_at hl 3 rfl) ?_
      refine lv_iload_n hx hb dX10_garden_24 rfl (lv_at hl 2 rfl) ?_
      refine lv_bipush (v := 40) hx hb dX10_garden_25 (by decide) ?_
      refine hk_cS (G := G) (As := [.int tt, .int fr, .int 40]) (rest := []) hx hb hml hl.1 ht hown hK hH hS (c_within l D G τ σ tt fr 40) ymS_X10_within tw_206 ⟨rfl, rfl⟩ ⟨Nat.le_of_ble_eq_true rfl, Nat.le_of_ble_eq_true rfl⟩ rfl rfl (Nat.le_of_ble_eq_true rfl) dX10_garden_27 ⟨Nat.le_of_ble_eq_true rfl, Nat.le_of_ble_eq_true rfl⟩ (hk_ea (fun H locs hH hS => ?_))
      refine lv_if_ne (tgt := 35) hx hb dX10_garden_30 (by decide) (fun c_3 => ?_) (fun c_3 => ?_)
      · refine lv_aload_n hx hb dX10_garden_35 rfl (lv_at hl 0 rfl) ?_
        refine hk_getr_a (G := G) (L := (.inl (0, 0))) (v := .ref (G.1 (.inl (1, 0)))) (by simp [hk_add, hk_rf, hG.k0, hG.r0_0, hG.k1_0, hno]) hx hb ht hown hK hH kc_11 (by simp [hk_add, hk_rf, hG.k0, hG.r0_0, hG.k1_0, hno]) 0 (by decide) rfl tw_168 rfl (by simp [hk_add, hk_rf, hG.k0, hG.r0_0, hG.k1_0, hno]) dX10_garden_36 ?_
        refine hk_cV_a (G := G) (L := (.inl (1, 0))) (As := []) (rest := []) (by simp [hk_add, hk_rf, hG.k0, hG.r0_0, hG.k1_0, hno]) hx hb hml hl.1 ht hown hK hH hS (c_lsz l D G τ σ 0 (G.1 (.inl (1, 0))) (by simp [hk_add, hk_rf, hG.k0, hG.r0_0, hG.k1_0, hno]) (by simp [hk_add, hk_rf, hG.k0, hG.r0_0, hG.k1_0, hno])) ymV_Jx4a65c_size_8abf5 kc_0 (by simp [hk_add, hk_rf, hG.k0, hG.r0_0, hG.k1_0, hno]) tw_209 ⟨rfl, rfl⟩ ⟨Nat.le_of_ble_eq_true rfl, Nat.le_of_ble_eq_true rfl⟩ rfl rfl (Nat.le_of_ble_eq_true rfl) dX10_garden_39 ⟨Nat.le_of_ble_eq_true rfl, Nat.le_of_ble_eq_true rfl⟩ (hk_ea (fun H locs hH hS => ?_))
        refine lv_bipush (v := 6) hx hb dX10_garden_42 (by decide) ?_
        refine lv_icmp_lt (tgt := 50) hx hb dX10_garden_44 (by decide) (fun c_4 => ?_) (fun c_4 => ?_)
        · refine lv_aload_n hx hb dX10_garden_50 rfl (lv_at hl 0 rfl) ?_
          refine hk_getr_a (G := G) (L := (.inl (0, 0))) (v := .ref (G.1 (.inl (1, 0)))) (by simp [hk_add, hk_rf, hG.k0, hG.r0_0, hG.k1_0, hno]) hx hb ht hown hK hH kc_11 (by simp [hk_add, hk_rf, hG.k0, hG.r0_0, hG.k1_0, hno]) 0 (by decide) rfl tw_168 rfl (by simp [hk_add, hk_rf, hG.k0, hG.r0_0, hG.k1_0, hno]) dX10_garden_51 ?_
          refine hk_new (G := G) (L := (.inl (9, Z.1 0))) hx hb ht hown hK hH hS kc_5 (by simp [hk_add, hk_rf, hG.k0, hG.r0_0, hG.k1_0, hno]) (by decide) tw_213 tw_214 tw_43 ⟨Nat.le_of_ble_eq_true rfl, Nat.le_of_ble_eq_true rfl⟩ dX10_garden_54 (fun H a1 hH hS => ?_)
          rw [hk_zr_l] at hH
          obtain ⟨G1, hG1⟩ : ∃ g, g = hk_add G (.inl (9, Z.1 0)) a1 (.inl 5) (fun j => defaultValue (tyX4 j)) := ⟨_, rfl⟩
          rw [← hG1] at hH
          refine lv_dup hx hb dX10_garden_57 rfl ?_
          refine lv_iload_n hx hb dX10_garden_58 rfl (lv_at hl 1 rfl) ?_
          refine lv_iload_n hx hb dX10_garden_59 rfl (lv_at hl 2 rfl) ?_
          refine lv_iload_n hx hb dX10_garden_60 rfl (lv_at hl 3 rfl) ?_
          refine hk_cI (G := G1) (As := [.int bu, .int fr, .int tt]) (rest := [.ref a1, .ref (G.1 (.inl (1, 0)))]) hx hb hml hl.1 ht hown hK hH hS (c_i4 l D G1 (hk_zo τ (9, Z.1 0)) σ (Z.1 0) a1 bu fr tt (by simp [hG1, hk_add, hk_rf, hG.k0, hG.r0_0, hG.k1_0, hno]) (by simp [hG1, hk_add, hk_rf, hG.k0, hG.r0_0, hG.k1_0, hno])) ymI_X4_init tw_215 ⟨rfl, rfl⟩ ⟨Nat.le_of_ble_eq_true rfl, Nat.le_of_ble_eq_true rfl⟩ rfl rfl (Nat.le_of_ble_eq_true rfl) dX10_garden_61 ⟨Nat.le_of_ble_eq_true rfl, Nat.le_of_ble_eq_true rfl⟩ (hk_ev (fun H locs hH hS => ?_))
          refine hk_cV_a (G := G1) (L := (.inl (1, 0))) (As := [.ref a1]) (rest := []) (by simp [hG1, hk_add, hk_rf, hG.k0, hG.r0_0, hG.k1_0, hno]) hx hb hml hl.1 ht hown hK hH hS (c_ladd l D G1 (hk_u (hk_u (hk_u (hk_zo τ (9, Z.1 0)) (9, Z.1 0) 0 fr) (9, Z.1 0) 1 tt) (9, Z.1 0) 2 bu) σ 0 (G.1 (.inl (1, 0))) a1 (.inl (9, Z.1 0)) 5 (RX4, TX4, 6) (Z.1 0) (by simp [hG1, hk_add, hk_rf, hG.k0, hG.r0_0, hG.k1_0, hno]) (by simp [hG1, hk_add, hk_rf, hG.k0, hG.r0_0, hG.k1_0, hno]) (fun q => by simpa [hG1, hk_add, hk_rf] using hG.e1_0 q) (fun q => by simpa [hG1, hk_add, hk_rf] using m0 q) (fun q => by simpa [hG1, hk_add, hk_rf] using hG.a1_0 q) (fun q => by simpa [hG1, hk_add, hk_rf] using hG.k2_0 q) (by simpa [hk_u_ap, hk_zo_ap] using hs.1.1) (by have := hs.2; omega) (by simp [hG1, hk_add, hk_rf, hG.k0, hG.r0_0, hG.k1_0, hno]) (by simp [hG1, hk_add, hk_rf, hG.k0, hG.r0_0, hG.k1_0, hno]) (by simp) kc_5.1 (List.mem_filter.mpr ⟨tw_969, rfl⟩)) ymV_Jx4a65c_add_9ea2d kc_0 (by simp [hG1, hk_add, hk_rf, hG.k0, hG.r0_0, hG.k1_0, hno]) tw_240 ⟨rfl, rfl⟩ ⟨Nat.le_of_ble_eq_true rfl, Nat.le_of_ble_eq_true rfl⟩ rfl rfl (Nat.le_of_ble_eq_true rfl) dX10_garden_64 ⟨Nat.le_of_ble_eq_true rfl, Nat.le_of_ble_eq_true rfl⟩ (fun v G3 iv H locs hP hH hS => ?_)
          obtain ⟨rfl, rfl, hgr⟩ := hP
          have f0 : G3.1 (.inl (0, 0)) = G.1 (.inl (0, 0)) := by rw [(hgr.2.2.2.2.1 _ (by simp)).1]; simp [hG1, hk_add, hk_rf, hG.k0, hG.r0_0, hG.k1_0, hno]
          have f1 : G3.2.1 (.inl (0, 0)) = some (.inl 11) := by rw [(hgr.2.2.2.2.1 _ (by simp)).2]; simp [hG1, hk_add, hk_rf, hG.k0, hG.r0_0, hG.k1_0, hno]
          have f2 : G3.2.2 (.inl (0, 0)) 0 = .ref (G.1 (.inl (1, 0))) := by rw [hgr.2.2.2.2.2.2 _ _ (by simp) (by simp)]; simp [hG1, hk_add, hk_rf, hG.k0, hG.r0_0, hG.k1_0, hno]
          have f3 : G3.1 (.inl (1, 0)) = G.1 (.inl (1, 0)) := by rw [(hgr.2.2.2.2.1 _ (by simp)).1]; simp [hG1, hk_add, hk_rf, hG.k0, hG.r0_0, hG.k1_0, hno]
          have f4 : G3.2.1 (.inl (1, 0)) = some (.inl 0) := by rw [(hgr.2.2.2.2.1 _ (by simp)).2]; simp [hG1, hk_add, hk_rf, hG.k0, hG.r0_0, hG.k1_0, hno]
          have f5 : G3.1 (.inr (0, 0)) = G.1 (.inr (0, 0)) := by rw [(hgr.2.2.2.2.1 _ (by simp)).1]; simp [hG1, hk_add, hk_rf, hG.k0, hG.r0_0, hG.k1_0, hno]
          refine lv_pop hx hb dX10_garden_67 rfl ?_
          refine lv_aload_n hx hb dX10_garden_68 rfl (lv_at hl 0 rfl) ?_
          refine hk_getr_a (G := G3) (L := (.inl (0, 0))) (v := .ref (G.1 (.inl (1, 0)))) (by simp [f0, f1, f2, f3, f4, hk_add, hk_rf, hG.k0, hG.r0_0, hG.k1_0, hno]) hx hb ht hown hK hH kc_11 (by simp [f0, f1, f2, f3, f4, hk_add, hk_rf, hG.k0, hG.r0_0, hG.k1_0, hno]) 0 (by decide) rfl tw_168 rfl (by simp [f0, f1, f2, f3, f4, hk_add, hk_rf, hG.k0, hG.r0_0, hG.k1_0, hno]) dX10_garden_69 ?_
          refine hk_cV_a (G := G3) (L := (.inl (1, 0))) (As := []) (rest := []) (by simp [f0, f1, f2, f3, f4, hk_add, hk_rf, hG.k0, hG.r0_0, hG.k1_0, hno]) hx hb hml hl.1 ht hown hK hH hS (c_lsz l D G3 (hk_u (hk_u (hk_u (hk_u (hk_u (hk_zo τ (9, Z.1 0)) (9, Z.1 0) 0 fr) (9, Z.1 0) 1 tt) (9, Z.1 0) 2 bu) (1, 0) 0 ((hk_u (hk_u (hk_u (hk_zo τ (9, Z.1 0)) (9, Z.1 0) 0 fr) (9, Z.1 0) 1 tt) (9, Z.1 0) 2 bu) (1, 0) 0 + 1)) (1, 0) 2 (nI (Z.1 0 + 1))) σ 0 (G.1 (.inl (1, 0))) (by simp [f0, f1, f2, f3, f4, hk_add, hk_rf, hG.k0, hG.r0_0, hG.k1_0, hno]) (by simp [f0, f1, f2, f3, f4, hk_add, hk_rf, hG.k0, hG.r0_0, hG.k1_0, hno])) ymV_Jx4a65c_size_8abf5 kc_0 (by simp [f0, f1, f2, f3, f4, hk_add, hk_rf, hG.k0, hG.r0_0, hG.k1_0, hno]) tw_209 ⟨rfl, rfl⟩ ⟨Nat.le_of_ble_eq_true rfl, Nat.le_of_ble_eq_true rfl⟩ rfl rfl (Nat.le_of_ble_eq_true rfl) dX10_garden_72 ⟨Nat.le_of_ble_eq_true rfl, Nat.le_of_ble_eq_true rfl⟩ (hk_ea (fun H locs hH hS => ?_))
          rw [show (hk_u (hk_u (hk_u (hk_u (hk_u (hk_zo τ (9, Z.1 0)) (9, Z.1 0) 0 fr) (9, Z.1 0) 1 tt) (9, Z.1 0) 2 bu) (1, 0) 0 ((hk_u (hk_u (hk_u (hk_zo τ (9, Z.1 0)) (9, Z.1 0) 0 fr) (9, Z.1 0) 1 tt) (9, Z.1 0) 2 bu) (1, 0) 0 + 1)) (1, 0) 2 (nI (Z.1 0 + 1))) (1, 0) 2 = nI (Z.1 0 + 1) from by simp [hk_u_ap]]
          refine lv_iconst (v := 1) hx hb dX10_garden_75 (by decide) ?_
          refine lv_isub hx hb dX10_garden_76 ?_
          refine W.widen (k := 2) (n := 16) (by show _ ≤ 2; omega) (by show _ ≤ 16; omega) ?_
          exact hk_iret hx hb hr hlocks hH hS ⟨(by simp only [F_garden, if_neg c_1, if_neg c_2, if_neg c_3, if_pos c_4]), (by simp only [T_garden, if_neg c_1, if_neg c_2, if_neg c_3, if_pos c_4]), (by simp only [Z_garden, if_neg c_1, if_neg c_2, if_neg c_3, if_pos c_4]; exact hW.more0 rfl (fun L h9 => by simp [hG1, hk_add, hk_rf, h9]) (by simp [hG1, hk_add, hk_rf]) (by simp [hG1, hk_add, hk_rf]) hgr), f0, f5⟩ dX10_garden_77
        · refine lv_bipush (v := -3) hx hb dX10_garden_47 (by decide) ?_
          refine W.widen (k := 2) (n := 16) (by show _ ≤ 2; omega) (by show _ ≤ 16; omega) ?_
          exact hk_iret hx hb hr hlocks hH hS ⟨(by simp only [F_garden, if_neg c_1, if_neg c_2, if_neg c_3, if_neg c_4]), (by simp only [T_garden, if_neg c_1, if_neg c_2, if_neg c_3, if_neg c_4]), (by simp only [Z_garden, if_neg c_1, if_neg c_2, if_neg c_3, if_neg c_4]; exact hW), rfl, rfl⟩ dX10_garden_49
      · refine lv_iconst (v := -1) hx hb dX10_garden_33 (by decide) ?_
        refine W.widen (k := 2) (n := 16) (by show _ ≤ 2; omega) (by show _ ≤ 16; omega) ?_
        exact hk_iret hx hb hr hlocks hH hS ⟨(by simp only [F_garden, if_neg c_1, if_neg c_2, if_pos c_3]), (by simp only [T_garden, if_neg c_1, if_neg c_2, if_pos c_3]), (by simp only [Z_garden, if_neg c_1, if_neg c_2, if_pos c_3]; exact hW), rfl, rfl⟩ dX10_garden_34
  · refine lv_iconst (v := -1) hx hb dX10_garden_11 (by decide) ?_
    refine W.widen (k := 2) (n := 16) (by show _ ≤ 2; omega) (by show _ ≤ 16; omega) ?_
    exact hk_iret hx hb hr hlocks hH hS ⟨(by simp only [F_garden, if_pos c_1]), (by simp only [T_garden, if_pos c_1]), (by simp only [Z_garden, if_pos c_1]; exact hW), rfl, rfl⟩ dX10_garden_12
theorem ymI_X3_init : hk_mI yX3_init cX3_init 3 2 := ⟨tw_308, tw_307, tw_48, rfl, by decide, by decide, by decide +kernel⟩
def F_gang (Z : hk_Z) (τ : hk_v) (rt : Int32) (ms : Int32) : Int32 := (if (hk_in rt 1 30) = 0 then (-1) else (if (hk_in ms 80 120) = 0 then (-1) else (if (τ (1, 1) 2) < 6 then (nI (Z.1 1 + 1)) - 1 else (-3))))
def T_gang (Z : hk_Z) (τ : hk_v) (rt : Int32) (ms : Int32) : hk_v := (if (hk_in rt 1 30) = 0 then τ else (if (hk_in ms 80 120) = 0 then τ else (if (τ (1, 1) 2) < 6 then (hk_u (hk_u (hk_u (hk_u (hk_u (hk_zo τ (10, Z.1 1)) (10, Z.1 1) 0 rt) (10, Z.1 1) 1 ms) (10, Z.1 1) 2 (-9)) (1, 1) 0 ((hk_u (hk_u (hk_u (hk_zo τ (10, Z.1 1)) (10, Z.1 1) 0 rt) (10, Z.1 1) 1 ms) (10, Z.1 1) 2 (-9)) (1, 1) 0 + 1)) (1, 1) 2 (nI (Z.1 1 + 1))) else τ)))
def Z_gang (Z : hk_Z) (τ : hk_v) (rt : Int32) (ms : Int32) : hk_Z := (if (hk_in rt 1 30) = 0 then Z else (if (hk_in ms 80 120) = 0 then Z else (if (τ (1, 1) 2) < 6 then hk_zu Z 1 else Z)))
set_option maxHeartbeats 4000000 in
set_option maxRecDepth 100000 in
theorem c_gang (l : Launch) (D : hk_D) (G : hk_G) (Z : hk_Z) (τ σ : hk_v) (rt : Int32) (ms : Int32) (x y : Int64) (hW : hk_W D G Z x y) (hs : hk_sz Z τ) : Met l yX10_gang (hk_ws yX10_gang cX10_gang 3 (some FieldType.int)) ({ frames := 5, cells := 2, slots := 16, locals := 101 }) (hk_P D G (hk_cm τ σ) [.ref (G.1 (.inl (0, 0))), .int rt, .int ms]) (hk_Q D (hk_w D G (Z_gang Z τ rt ms) x y (some (.int (F_gang Z τ rt ms))) (hk_cm (T_gang Z τ rt ms) σ))) 2 16 (hk_A D) := by
  refine hk_met (by decide +kernel) (Nat.le_of_ble_eq_true rfl) (fun p e s m below meth c hx hb hr hml hlocks ht hown hin hK hH hS ls hl => ?_)
  have hG := hW.1
  obtain ⟨n0, n1, n2, n3, n4, n5, m0, m1, m2⟩ := hW.2.2.2.2
  have hno := n1 (Z.1 1) (Nat.le_refl _)
  have hl : lv_has ls 3 [(0, .ref (G.1 (.inl (0, 0)))), (1, .int rt), (2, .int ms)] := hl
  refine lv_iload_n hx hb dX10_gang_0 rfl (lv_at hl 1 rfl) ?_
  refine lv_iconst (v := 1) hx hb dX10_gang_1 (by decide) ?_
  refine lv_bipush (v := 30) hx hb dX10_gang_2 (by decide) ?_
  refine hk_cS (G := G) (As := [.int rt, .int 1, .int 30]) (rest := []) hx hb hml hl.1 ht hown hK hH hS (c_within l D G τ σ rt 1 30) ymS_X10_within tw_206 ⟨rfl, rfl⟩ ⟨Nat.le_of_ble_eq_true rfl, Nat.le_of_ble_eq_true rfl⟩ rfl rfl (Nat.le_of_ble_eq_true rfl) dX10_gang_4 ⟨Nat.le_of_ble_eq_true rfl, Nat.le_of_ble_eq_true rfl⟩ (hk_ea (fun H locs hH hS => ?_))
  refine lv_if_ne (tgt := 12) hx hb dX10_gang_7 (by decide) (fun c_1 => ?_) (fun c_1 => ?_)
  · refine lv_iload_n hx hb dX10_gang_12 rfl (lv_at hl 2 rfl) ?_
    refine lv_bipush (v := 80) hx hb dX10_gang_13 (by decide) ?_
    refine lv_bipush (v := 120) hx hb dX10_gang_15 (by decide) ?_
    refine hk_cS (G := G) (As := [.int ms, .int 80, .int 120]) (rest := []) hx hb hml hl.1 ht hown hK hH hS (c_within l D G τ σ ms 80 120) ymS_X10_within tw_206 ⟨rfl, rfl⟩ ⟨Nat.le_of_ble_eq_true rfl, Nat.le_of_ble_eq_true rfl⟩ rfl rfl (Nat.le_of_ble_eq_true rfl) dX10_gang_17 ⟨Nat.le_of_ble_eq_true rfl, Nat.le_of_ble_eq_true rfl⟩ (hk_ea (fun H locs hH hS => ?_))
    refine lv_if_ne (tgt := 25) hx hb dX10_gang_20 (by decide) (fun c_2 => ?_) (fun c_2 => ?_)
    · refine lv_aload_n hx hb dX10_gang_25 rfl (lv_at hl 0 rfl) ?_
      refine hk_getr_a (G := G) (L := (.inl (0, 0))) (v := .ref (G.1 (.inl (1, 1)))) (by simp [hk_add, hk_rf, hG.k0, hG.r0_1, hG.k1_1, hno]) hx hb ht hown hK hH kc_11 (by simp [hk_add, hk_rf, hG.k0, hG.r0_1, hG.k1_1, hno]) 1 (by decide) rfl tw_169 rfl (by simp [hk_add, hk_rf, hG.k0, hG.r0_1, hG.k1_1, hno]) dX10_gang_26 ?_
      refine hk_cV_a (G := G) (L := (.inl (1, 1))) (As := []) (rest := []) (by simp [hk_add, hk_rf, hG.k0, hG.r0_1, hG.k1_1, hno]) hx hb hml hl.1 ht hown hK hH hS (c_lsz l D G τ σ 1 (G.1 (.inl (1, 1))) (by simp [hk_add, hk_rf, hG.k0, hG.r0_1, hG.k1_1, hno]) (by simp [hk_add, hk_rf, hG.k0, hG.r0_1, hG.k1_1, hno])) ymV_Jx4a65c_size_8abf5 kc_0 (by simp [hk_add, hk_rf, hG.k0, hG.r0_1, hG.k1_1, hno]) tw_209 ⟨rfl, rfl⟩ ⟨Nat.le_of_ble_eq_true rfl, Nat.le_of_ble_eq_true rfl⟩ rfl rfl (Nat.le_of_ble_eq_true rfl) dX10_gang_29 ⟨Nat.le_of_ble_eq_true rfl, Nat.le_of_ble_eq_true rfl⟩ (hk_ea (fun H locs hH hS => ?_))
      refine lv_bipush (v := 6) hx hb dX10_gang_32 (by decide) ?_
      refine lv_icmp_lt (tgt := 40) hx hb dX10_gang_34 (by decide) (fun c_3 => ?_) (fun c_3 => ?_)
      · refine lv_aload_n hx hb dX10_gang_40 rfl (lv_at hl 0 rfl) ?_
        refine hk_getr_a (G := G) (L := (.inl (0, 0))) (v := .ref (G.1 (.inl (1, 1)))) (by simp [hk_add, hk_rf, hG.k0, hG.r0_1, hG.k1_1, hno]) hx hb ht hown hK hH kc_11 (by simp [hk_add, hk_rf, hG.k0, hG.r0_1, hG.k1_1, hno]) 1 (by decide) rfl tw_169 rfl (by simp [hk_add, hk_rf, hG.k0, hG.r0_1, hG.k1_1, hno]) dX10_gang_41 ?_
        refine hk_new (G := G) (L := (.inl (10, Z.1 1))) hx hb ht hown hK hH hS kc_4 (by simp [hk_add, hk_rf, hG.k0, hG.r0_1, hG.k1_1, hno]) (by decide) tw_304 tw_305 tw_48 ⟨Nat.le_of_ble_eq_true rfl, Nat.le_of_ble_eq_true rfl⟩ dX10_gang_44 (fun H a1 hH hS => ?_)
        rw [hk_zr_l] at hH
        obtain ⟨G1, hG1⟩ : ∃ g, g = hk_add G (.inl (10, Z.1 1)) a1 (.inl 4) (fun j => defaultValue (tyX3 j)) := ⟨_, rfl⟩
        rw [← hG1] at hH
        refine lv_dup hx hb dX10_gang_47 rfl ?_
        refine lv_iload_n hx hb dX10_gang_48 rfl (lv_at hl 1 rfl) ?_
        refine lv_iload_n hx hb dX10_gang_49 rfl (lv_at hl 2 rfl) ?_
        refine hk_cI (G := G1) (As := [.int rt, .int ms]) (rest := [.ref a1, .ref (G.1 (.inl (1, 1)))]) hx hb hml hl.1 ht hown hK hH hS (c_i3 l D G1 (hk_zo τ (10, Z.1 1)) σ (Z.1 1) a1 rt ms (by simp [hG1, hk_add, hk_rf, hG.k0, hG.r0_1, hG.k1_1, hno]) (by simp [hG1, hk_add, hk_rf, hG.k0, hG.r0_1, hG.k1_1, hno])) ymI_X3_init tw_306 ⟨rfl, rfl⟩ ⟨Nat.le_of_ble_eq_true rfl, Nat.le_of_ble_eq_true rfl⟩ rfl rfl (Nat.le_of_ble_eq_true rfl) dX10_gang_50 ⟨Nat.le_of_ble_eq_true rfl, Nat.le_of_ble_eq_true rfl⟩ (hk_ev (fun H locs hH hS => ?_))
        refine hk_cV_a (G := G1) (L := (.inl (1, 1))) (As := [.ref a1]) (rest := []) (by simp [hG1, hk_add, hk_rf, hG.k0, hG.r0_1, hG.k1_1, hno]) hx hb hml hl.1 ht hown hK hH hS (c_ladd l D G1 (hk_u (hk_u (hk_u (hk_zo τ (10, Z.1 1)) (10, Z.1 1) 0 rt) (10, Z.1 1) 1 ms) (10, Z.1 1) 2 (-9)) σ 1 (G.1 (.inl (1, 1))) a1 (.inl (10, Z.1 1)) 4 (RX3, TX3, 6) (Z.1 1) (by simp [hG1, hk_add, hk_rf, hG.k0, hG.r0_1, hG.k1_1, hno]) (by simp [hG1, hk_add, hk_rf, hG.k0, hG.r0_1, hG.k1_1, hno]) (fun q => by simpa [hG1, hk_add, hk_rf] using hG.e1_1 q) (fun q => by simpa [hG1, hk_add, hk_rf] using m1 q) (fun q => by simpa [hG1, hk_add, hk_rf] using hG.a1_1 q) (fun q => by simpa [hG1, hk_add, hk_rf] using hG.k2_1 q) (by simpa [hk_u_ap, hk_zo_ap] using hs.1.2.1) (by have := hs.2; omega) (by simp [hG1, hk_add, hk_rf, hG.k0, hG.r0_1, hG.k1_1, hno]) (by simp [hG1, hk_add, hk_rf, hG.k0, hG.r0_1, hG.k1_1, hno]) (by simp) kc_4.1 (List.mem_filter.mpr ⟨tw_970, rfl⟩)) ymV_Jx4a65c_add_9ea2d kc_0 (by simp [hG1, hk_add, hk_rf, hG.k0, hG.r0_1, hG.k1_1, hno]) tw_240 ⟨rfl, rfl⟩ ⟨Nat.le_of_ble_eq_true rfl, Nat.le_of_ble_eq_true rfl⟩ rfl rfl (Nat.le_of_ble_eq_true rfl) dX10_gang_53 ⟨Nat.le_of_ble_eq_true rfl, Nat.le_of_ble_eq_true rfl⟩ (fun v G3 iv H locs hP hH hS => ?_)
        obtain ⟨rfl, rfl, hgr⟩ := hP
        have f0 : G3.1 (.inl (0, 0)) = G.1 (.inl (0, 0)) := by rw [(hgr.2.2.2.2.1 _ (by simp)).1]; simp [hG1, hk_add, hk_rf, hG.k0, hG.r0_1, hG.k1_1, hno]
        have f1 : G3.2.1 (.inl (0, 0)) = some (.inl 11) := by rw [(hgr.2.2.2.2.1 _ (by simp)).2]; simp [hG1, hk_add, hk_rf, hG.k0, hG.r0_1, hG.k1_1, hno]
        have f2 : G3.2.2 (.inl (0, 0)) 1 = .ref (G.1 (.inl (1, 1))) := by rw [hgr.2.2.2.2.2.2 _ _ (by simp) (by simp)]; simp [hG1, hk_add, hk_rf, hG.k0, hG.r0_1, hG.k1_1, hno]
        have f3 : G3.1 (.inl (1, 1)) = G.1 (.inl (1, 1)) := by rw [(hgr.2.2.2.2.1 _ (by simp)).1]; simp [hG1, hk_add, hk_rf, hG.k0, hG.r0_1, hG.k1_1, hno]
        have f4 : G3.2.1 (.inl (1, 1)) = some (.inl 0) := by rw [(hgr.2.2.2.2.1 _ (by simp)).2]; simp [hG1, hk_add, hk_rf, hG.k0, hG.r0_1, hG.k1_1, hno]
        have f5 : G3.1 (.inr (0, 0)) = G.1 (.inr (0, 0)) := by rw [(hgr.2.2.2.2.1 _ (by simp)).1]; simp [hG1, hk_add, hk_rf, hG.k0, hG.r0_1, hG.k1_1, hno]
        refine lv_pop hx hb dX10_gang_56 rfl ?_
        refine lv_aload_n hx hb dX10_gang_57 rfl (lv_at hl 0 rfl) ?_
        refine hk_getr_a (G := G3) (L := (.inl (0, 0))) (v := .ref (G.1 (.inl (1, 1)))) (by simp [f0, f1, f2, f3, f4, hk_add, hk_rf, hG.k0, hG.r0_1, hG.k1_1, hno]) hx hb ht hown hK hH kc_11 (by simp [f0, f1, f2, f3, f4, hk_add, hk_rf, hG.k0, hG.r0_1, hG.k1_1, hno]) 1 (by decide) rfl tw_169 rfl (by simp [f0, f1, f2, f3, f4, hk_add, hk_rf, hG.k0, hG.r0_1, hG.k1_1, hno]) dX10_gang_58 ?_
        refine hk_cV_a (G := G3) (L := (.inl (1, 1))) (As := []) (rest := []) (by simp [f0, f1, f2, f3, f4, hk_add, hk_rf, hG.k0, hG.r0_1, hG.k1_1, hno]) hx hb hml hl.1 ht hown hK hH hS (c_lsz l D G3 (hk_u (hk_u (hk_u (hk_u (hk_u (hk_zo τ (10, Z.1 1)) (10, Z.1 1) 0 rt) (10, Z.1 1) 1 ms) (10, Z.1 1) 2 (-9)) (1, 1) 0 ((hk_u (hk_u (hk_u (hk_zo τ (10, Z.1 1)) (10, Z.1 1) 0 rt) (10, Z.1 1) 1 ms) (10, Z.1 1) 2 (-9)) (1, 1) 0 + 1)) (1, 1) 2 (nI (Z.1 1 + 1))) σ 1 (G.1 (.inl (1, 1))) (by simp [f0, f1, f2, f3, f4, hk_add, hk_rf, hG.k0, hG.r0_1, hG.k1_1, hno]) (by simp [f0, f1, f2, f3, f4, hk_add, hk_rf, hG.k0, hG.r0_1, hG.k1_1, hno])) ymV_Jx4a65c_size_8abf5 kc_0 (by simp [f0, f1, f2, f3, f4, hk_add, hk_rf, hG.k0, hG.r0_1, hG.k1_1, hno]) tw_209 ⟨rfl, rfl⟩ ⟨Nat.le_of_ble_eq_true rfl, Nat.le_of_ble_eq_true rfl⟩ rfl rfl (Nat.le_of_ble_eq_true rfl) dX10_gang_61 ⟨Nat.le_of_ble_eq_true rfl, Nat.le_of_ble_eq_true rfl⟩ (hk_ea (fun H locs hH hS => ?_))
        rw [show (hk_u (hk_u (hk_u (hk_u (hk_u (hk_zo τ (10, Z.1 1)) (10, Z.1 1) 0 rt) (10, Z.1 1) 1 ms) (10, Z.1 1) 2 (-9)) (1, 1) 0 ((hk_u (hk_u (hk_u (hk_zo τ (10, Z.1 1)) (10, Z.1 1) 0 rt) (10, Z.1 1) 1 ms) (10, Z.1 1) 2 (-9)) (1, 1) 0 + 1)) (1, 1) 2 (nI (Z.1 1 + 1))) (1, 1) 2 = nI (Z.1 1 + 1) from by simp [hk_u_ap]]
        refine lv_iconst (v := 1) hx hb dX10_gang_64 (by decide) ?_
        refine lv_isub hx hb dX10_gang_65 ?_
        refine W.widen (k := 2) (n := 16) (by show _ ≤ 2; omega) (by show _ ≤ 16; omega) ?_
        exact hk_iret hx hb hr hlocks hH hS ⟨(by simp only [F_gang, if_neg c_1, if_neg c_2, if_pos c_3]), (by simp only [T_gang, if_neg c_1, if_neg c_2, if_pos c_3]), (by simp only [Z_gang, if_neg c_1, if_neg c_2, if_pos c_3]; exact hW.more1 rfl (fun L h9 => by simp [hG1, hk_add, hk_rf, h9]) (by simp [hG1, hk_add, hk_rf]) (by simp [hG1, hk_add, hk_rf]) hgr), f0, f5⟩ dX10_gang_66
      · refine lv_bipush (v := -3) hx hb dX10_gang_37 (by decide) ?_
        refine W.widen (k := 2) (n := 16) (by show _ ≤ 2; omega) (by show _ ≤ 16; omega) ?_
        exact hk_iret hx hb hr hlocks hH hS ⟨(by simp only [F_gang, if_neg c_1, if_neg c_2, if_neg c_3]), (by simp only [T_gang, if_neg c_1, if_neg c_2, if_neg c_3]), (by simp only [Z_gang, if_neg c_1, if_neg c_2, if_neg c_3]; exact hW), rfl, rfl⟩ dX10_gang_39
    · refine lv_iconst (v := -1) hx hb dX10_gang_23 (by decide) ?_
      refine W.widen (k := 2) (n := 16) (by show _ ≤ 2; omega) (by show _ ≤ 16; omega) ?_
      exact hk_iret hx hb hr hlocks hH hS ⟨(by simp only [F_gang, if_neg c_1, if_pos c_2]), (by simp only [T_gang, if_neg c_1, if_pos c_2]), (by simp only [Z_gang, if_neg c_1, if_pos c_2]; exact hW), rfl, rfl⟩ dX10_gang_24
  · refine lv_iconst (v := -1) hx hb dX10_gang_10 (by decide) ?_
    refine W.widen (k := 2) (n := 16) (by show _ ≤ 2; omega) (by show _ ≤ 16; omega) ?_
    exact hk_iret hx hb hr hlocks hH hS ⟨(by simp only [F_gang, if_pos c_1]), (by simp only [T_gang, if_pos c_1]), (by simp only [Z_gang, if_pos c_1]; exact hW), rfl, rfl⟩ dX10_gang_11
