theorem hk_kc_or (kd : Int32) : hk_kc kd = 9 ∨ hk_kc kd = 3 ∨ hk_kc kd = 2 := by
  unfold hk_kc
  split
  · exact Or.inr (Or.inl rfl)
  · split
    · exact Or.inr (Or.inr rfl)
    · exact Or.inl rfl
theorem hk_in_02 {kd : Int32} (h : ¬ hk_in kd 0 2 = 0) : kd = 0 ∨ kd = 1 ∨ kd = 2 := by
  obtain ⟨h1, h2⟩ := hk_in_ix (x := kd) (n := 2) rfl (by omega) h
  rw [h2]
  have : kd.toNatClampNeg = 0 ∨ kd.toNatClampNeg = 1 ∨ kd.toNatClampNeg = 2 := by omega
  rcases this with q | q | q
  · exact Or.inl (by rw [q]; rfl)
  · exact Or.inr (Or.inl (by rw [q]; rfl))
  · exact Or.inr (Or.inr (by rw [q]; rfl))
theorem hk_in_1n {x : Int32} {n : Nat} {b : Int32} (hb : b = nI n) (hn : n < 2 ^ 31) (h : ¬ hk_in x 1 b = 0) : x = nI x.toNatClampNeg ∧ 1 ≤ x.toNatClampNeg ∧ x.toNatClampNeg ≤ n := by
  obtain ⟨h1, h2⟩ := hk_in_ne h
  subst hb
  have h0 : ¬ x < 0 := fun q => h1 (by rw [Int32.lt_iff_toInt_lt] at *; have e1 : (1 : Int32).toInt = 1 := by decide
                                       have e0 : (0 : Int32).toInt = 0 := by decide
                                       omega)
  obtain ⟨j, hj, rfl⟩ := nI_of h0
  rw [nI_clamp hj]
  refine ⟨rfl, ?_, ?_⟩
  · rcases Nat.eq_zero_or_pos j with q | q
    · subst q; exact absurd (show nI 0 < nI 1 from nI_lt (by omega) (by omega)) h1
    · exact q
  · rcases Nat.lt_or_ge n j with q | q
    · exact absurd (nI_lt q hj) h2
    · exact q
theorem ymS_X10_kindOf : hk_mS yX10_kindOf cX10_kindOf 1 (some (FieldType.object "HopYard$Plain")) 1 := ⟨tw_369, tw_368, tw_34, by decide, by decide, by decide +kernel⟩
theorem ymI_X6_init : hk_mI yX6_init cX6_init 3 2 := ⟨tw_393, tw_392, tw_51, rfl, by decide, by decide, by decide +kernel⟩
def F_kiln (Z : hk_Z) (τ : hk_v) (kd : Int32) (rm : Int32) : Int32 := (if (hk_in kd 0 2) = 0 then (-1) else (if (hk_in rm 1 200) = 0 then (-1) else (if (τ (1, 2) 2) < 4 then (nI (Z.1 2 + 1)) - 1 else (-3))))
def T_kiln (Z : hk_Z) (τ : hk_v) (kd : Int32) (rm : Int32) : hk_v := (if (hk_in kd 0 2) = 0 then τ else (if (hk_in rm 1 200) = 0 then τ else (if (τ (1, 2) 2) < 4 then (hk_u (hk_u (hk_u (hk_zo (hk_zo (hk_u (hk_zo (hk_zo τ (11, Z.1 2)) (12, Z.1 2)) (11, Z.1 2) 1 rm) (13, Z.1 2)) (14, Z.1 2)) (11, Z.1 2) 7 50) (1, 2) 0 ((hk_u (hk_zo (hk_zo (hk_u (hk_zo (hk_zo τ (11, Z.1 2)) (12, Z.1 2)) (11, Z.1 2) 1 rm) (13, Z.1 2)) (14, Z.1 2)) (11, Z.1 2) 7 50) (1, 2) 0 + 1)) (1, 2) 2 (nI (Z.1 2 + 1))) else τ)))
def Z_kiln (Z : hk_Z) (τ : hk_v) (kd : Int32) (rm : Int32) : hk_Z := (if (hk_in kd 0 2) = 0 then Z else (if (hk_in rm 1 200) = 0 then Z else (if (τ (1, 2) 2) < 4 then hk_zk Z (hk_kc kd) rm.toNatClampNeg else Z)))
set_option maxHeartbeats 4000000 in
set_option maxRecDepth 100000 in
theorem c_kiln (l : Launch) (D : hk_D) (G : hk_G) (Z : hk_Z) (τ σ : hk_v) (kd : Int32) (rm : Int32) (x y : Int64) (hW : hk_W D G Z x y) (hs : hk_sz Z τ) : Met l yX10_kiln (hk_ws yX10_kiln cX10_kiln 3 (some FieldType.int)) ({ frames := 5, cells := 5, slots := 418, locals := 101 }) (hk_P D G (hk_cm τ σ) [.ref (G.1 (.inl (0, 0))), .int kd, .int rm]) (hk_Q D (hk_w D G (Z_kiln Z τ kd rm) x y (some (.int (F_kiln Z τ kd rm))) (hk_cm (T_kiln Z τ kd rm) σ))) 5 418 (hk_A D) := by
  refine hk_met (by decide +kernel) (Nat.le_of_ble_eq_true rfl) (fun p e s m below meth c hx hb hr hml hlocks ht hown hin hK hH hS ls hl => ?_)
  have hG := hW.1
  obtain ⟨n0, n1, n2, n3, n4, n5, m0, m1, m2⟩ := hW.2.2.2.2
  have ho1 := n2 (Z.1 2) (Nat.le_refl _)
  have ho2 := n3 (Z.1 2) (Nat.le_refl _)
  have ho3 := n4 (Z.1 2) (Nat.le_refl _)
  have ho4 := n5 (Z.1 2) (Nat.le_refl _)
  have hl : lv_has ls 3 [(0, .ref (G.1 (.inl (0, 0)))), (1, .int kd), (2, .int rm)] := hl
  refine lv_iload_n hx hb dX10_kiln_0 rfl (lv_at hl 1 rfl) ?_
  refine lv_iconst (v := 0) hx hb dX10_kiln_1 (by decide) ?_
  refine lv_iconst (v := 2) hx hb dX10_kiln_2 (by decide) ?_
  refine hk_cS (G := G) (As := [.int kd, .int 0, .int 2]) (rest := []) hx hb hml hl.1 ht hown hK hH hS (c_within l D G τ σ kd 0 2) ymS_X10_within tw_206 ⟨rfl, rfl⟩ ⟨Nat.le_of_ble_eq_true rfl, Nat.le_of_ble_eq_true rfl⟩ rfl rfl (Nat.le_of_ble_eq_true rfl) dX10_kiln_3 ⟨Nat.le_of_ble_eq_true rfl, Nat.le_of_ble_eq_true rfl⟩ (hk_ea (fun H locs hH hS => ?_))
  refine lv_if_eq (tgt := 20) hx hb dX10_kiln_6 (by decide) (fun c_1 => ?_) (fun c_1 => ?_)
  · refine lv_iconst (v := -1) hx hb dX10_kiln_20 (by decide) ?_
    refine W.widen (k := 5) (n := 418) (by show _ ≤ 5; omega) (by show _ ≤ 418; omega) ?_
    exact hk_iret hx hb hr hlocks hH hS ⟨(by simp only [F_kiln, if_pos c_1]), (by simp only [T_kiln, if_pos c_1]), (by simp only [Z_kiln, if_pos c_1]; exact hW), rfl, rfl⟩ dX10_kiln_21
  · refine lv_iload_n hx hb dX10_kiln_9 rfl (lv_at hl 2 rfl) ?_
    refine lv_iconst (v := 1) hx hb dX10_kiln_10 (by decide) ?_
    refine lv_sipush (v := 200) hx hb dX10_kiln_11 (by decide) ?_
    refine hk_cS (G := G) (As := [.int rm, .int 1, .int 200]) (rest := []) hx hb hml hl.1 ht hown hK hH hS (c_within l D G τ σ rm 1 200) ymS_X10_within tw_206 ⟨rfl, rfl⟩ ⟨Nat.le_of_ble_eq_true rfl, Nat.le_of_ble_eq_true rfl⟩ rfl rfl (Nat.le_of_ble_eq_true rfl) dX10_kiln_14 ⟨Nat.le_of_ble_eq_true rfl, Nat.le_of_ble_eq_true rfl⟩ (hk_ea (fun H locs hH hS => ?_))
    refine lv_if_ne (tgt := 22) hx hb dX10_kiln_17 (by decide) (fun c_2 => ?_) (fun c_2 => ?_)
    · refine lv_aload_n hx hb dX10_kiln_22 rfl (lv_at hl 0 rfl) ?_
      refine hk_getr_a (G := G) (L := (.inl (0, 0))) (v := .ref (G.1 (.inl (1, 2)))) (by simp [hk_add, hk_rf, hG.k0, hG.r0_2, hG.k1_2, ho1, ho2, ho3, ho4]) hx hb ht hown hK hH kc_11 (by simp [hk_add, hk_rf, hG.k0, hG.r0_2, hG.k1_2, ho1, ho2, ho3, ho4]) 2 (by decide) rfl tw_170 rfl (by simp [hk_add, hk_rf, hG.k0, hG.r0_2, hG.k1_2, ho1, ho2, ho3, ho4]) dX10_kiln_23 ?_
      refine hk_cV_a (G := G) (L := (.inl (1, 2))) (As := []) (rest := []) (by simp [hk_add, hk_rf, hG.k0, hG.r0_2, hG.k1_2, ho1, ho2, ho3, ho4]) hx hb hml hl.1 ht hown hK hH hS (c_lsz l D G τ σ 2 (G.1 (.inl (1, 2))) (by simp [hk_add, hk_rf, hG.k0, hG.r0_2, hG.k1_2, ho1, ho2, ho3, ho4]) (by simp [hk_add, hk_rf, hG.k0, hG.r0_2, hG.k1_2, ho1, ho2, ho3, ho4])) ymV_Jx4a65c_size_8abf5 kc_0 (by simp [hk_add, hk_rf, hG.k0, hG.r0_2, hG.k1_2, ho1, ho2, ho3, ho4]) tw_209 ⟨rfl, rfl⟩ ⟨Nat.le_of_ble_eq_true rfl, Nat.le_of_ble_eq_true rfl⟩ rfl rfl (Nat.le_of_ble_eq_true rfl) dX10_kiln_26 ⟨Nat.le_of_ble_eq_true rfl, Nat.le_of_ble_eq_true rfl⟩ (hk_ea (fun H locs hH hS => ?_))
      refine lv_iconst (v := 4) hx hb dX10_kiln_29 (by decide) ?_
      refine lv_icmp_lt (tgt := 36) hx hb dX10_kiln_30 (by decide) (fun c_3 => ?_) (fun c_3 => ?_)
      · refine lv_aload_n hx hb dX10_kiln_36 rfl (lv_at hl 0 rfl) ?_
        refine hk_getr_a (G := G) (L := (.inl (0, 0))) (v := .ref (G.1 (.inl (1, 2)))) (by simp [hk_add, hk_rf, hG.k0, hG.r0_2, hG.k1_2, ho1, ho2, ho3, ho4]) hx hb ht hown hK hH kc_11 (by simp [hk_add, hk_rf, hG.k0, hG.r0_2, hG.k1_2, ho1, ho2, ho3, ho4]) 2 (by decide) rfl tw_170 rfl (by simp [hk_add, hk_rf, hG.k0, hG.r0_2, hG.k1_2, ho1, ho2, ho3, ho4]) dX10_kiln_37 ?_
        refine hk_new (G := G) (L := (.inl (11, Z.1 2))) hx hb ht hown hK hH hS kc_7 (by simp [hk_add, hk_rf, hG.k0, hG.r0_2, hG.k1_2, ho1, ho2, ho3, ho4]) (by decide) tw_365 tw_366 tw_51 ⟨Nat.le_of_ble_eq_true rfl, Nat.le_of_ble_eq_true rfl⟩ dX10_kiln_40 (fun H a1 hH hS => ?_)
        rw [hk_zr_l] at hH
        obtain ⟨G1, hG1⟩ : ∃ g, g = hk_add G (.inl (11, Z.1 2)) a1 (.inl 7) (fun j => defaultValue (tyX6 j)) := ⟨_, rfl⟩
        rw [← hG1] at hH
        refine lv_dup hx hb dX10_kiln_43 rfl ?_
        refine lv_iload_n hx hb dX10_kiln_44 rfl (lv_at hl 1 rfl) ?_
        refine hk_cS (G := G1) (As := [.int kd]) (rest := [.ref a1, .ref a1, .ref (G.1 (.inl (1, 2)))]) hx hb hml hl.1 ht hown hK hH hS (c_kindOf l D G1 (hk_zo τ (11, Z.1 2)) σ (Z.1 2) kd (hk_in_02 c_1) (by simp [hG1, hk_add, hk_rf, hG.k0, hG.r0_2, hG.k1_2, ho1, ho2, ho3, ho4])) ymS_X10_kindOf tw_367 ⟨rfl, rfl⟩ ⟨Nat.le_of_ble_eq_true rfl, Nat.le_of_ble_eq_true rfl⟩ rfl rfl (Nat.le_of_ble_eq_true rfl) dX10_kiln_45 ⟨Nat.le_of_ble_eq_true rfl, Nat.le_of_ble_eq_true rfl⟩ (fun v G2 iv H locs hP hH hS => ?_)
        obtain ⟨b2, r2, rfl, hG2, rfl⟩ := hP
        refine lv_iload_n hx hb dX10_kiln_48 rfl (lv_at hl 2 rfl) ?_
        refine hk_cI (G := G2) (As := [.ref b2, .int rm]) (rest := [.ref a1, .ref (G.1 (.inl (1, 2)))]) hx hb hml hl.1 ht hown hK hH hS (c_i6 l D G2 (hk_zo (hk_zo τ (11, Z.1 2)) (12, Z.1 2)) σ (Z.1 2) a1 b2 rm rm.toNatClampNeg (by simp [hG2, hG1, hk_add, hk_rf, hG.k0, hG.r0_2, hG.k1_2, ho1, ho2, ho3, ho4]) (by simp [hG2, hG1, hk_add, hk_rf, hG.k0, hG.r0_2, hG.k1_2, ho1, ho2, ho3, ho4]) (by simp [hG2, hG1, hk_add, hk_rf, hG.k0, hG.r0_2, hG.k1_2, ho1, ho2, ho3, ho4]) (by simp [hG2, hG1, hk_add, hk_rf, hG.k0, hG.r0_2, hG.k1_2, ho1, ho2, ho3, ho4]) (hk_in_1n (n := 200) rfl (by omega) c_2).1 (hk_in_1n (n := 200) rfl (by omega) c_2).2.2) ymI_X6_init tw_391 ⟨rfl, rfl⟩ ⟨Nat.le_of_ble_eq_true rfl, Nat.le_of_ble_eq_true rfl⟩ rfl rfl (Nat.le_of_ble_eq_true rfl) dX10_kiln_49 ⟨Nat.le_of_ble_eq_true rfl, Nat.le_of_ble_eq_true rfl⟩ (fun v G3 iv H locs hP hH hS => ?_)
        obtain ⟨rfl, b3_0, b3_1, hG3, rfl⟩ := hP
        refine hk_cV_a (G := G3) (L := (.inl (1, 2))) (As := [.ref a1]) (rest := []) (by simp [hG3, hG2, hG1, hk_add, hk_rf, hG.k0, hG.r0_2, hG.k1_2, ho1, ho2, ho3, ho4]) hx hb hml hl.1 ht hown hK hH hS (c_ladd l D G3 (hk_u (hk_zo (hk_zo (hk_u (hk_zo (hk_zo τ (11, Z.1 2)) (12, Z.1 2)) (11, Z.1 2) 1 rm) (13, Z.1 2)) (14, Z.1 2)) (11, Z.1 2) 7 50) σ 2 (G.1 (.inl (1, 2))) a1 (.inl (11, Z.1 2)) 7 (RX6, TX6, 8) (Z.1 2) (by simp [hG3, hG2, hG1, hk_add, hk_rf, hG.k0, hG.r0_2, hG.k1_2, ho1, ho2, ho3, ho4]) (by simp [hG3, hG2, hG1, hk_add, hk_rf, hG.k0, hG.r0_2, hG.k1_2, ho1, ho2, ho3, ho4]) (fun q => by simpa [hG3, hG2, hG1, hk_add, hk_rf] using hG.e1_2 q) (fun q => by simpa [hG3, hG2, hG1, hk_add, hk_rf] using m2 q) (fun q => by simpa [hG3, hG2, hG1, hk_add, hk_rf] using hG.a1_2 q) (fun q => by simpa [hG3, hG2, hG1, hk_add, hk_rf] using hG.k2_2 q) (by simpa [hk_u_ap, hk_zo_ap] using hs.1.2.2) (by have := hs.2; omega) (by simp [hG3, hG2, hG1, hk_add, hk_rf, hG.k0, hG.r0_2, hG.k1_2, ho1, ho2, ho3, ho4]) (by simp [hG3, hG2, hG1, hk_add, hk_rf, hG.k0, hG.r0_2, hG.k1_2, ho1, ho2, ho3, ho4]) (by simp) kc_7.1 (List.mem_filter.mpr ⟨tw_971, rfl⟩)) ymV_Jx4a65c_add_9ea2d kc_0 (by simp [hG3, hG2, hG1, hk_add, hk_rf, hG.k0, hG.r0_2, hG.k1_2, ho1, ho2, ho3, ho4]) tw_240 ⟨rfl, rfl⟩ ⟨Nat.le_of_ble_eq_true rfl, Nat.le_of_ble_eq_true rfl⟩ rfl rfl (Nat.le_of_ble_eq_true rfl) dX10_kiln_52 ⟨Nat.le_of_ble_eq_true rfl, Nat.le_of_ble_eq_true rfl⟩ (fun v G4 iv H locs hP hH hS => ?_)
        obtain ⟨rfl, rfl, hgr⟩ := hP
        have f0 : G4.1 (.inl (0, 0)) = G.1 (.inl (0, 0)) := by rw [(hgr.2.2.2.2.1 _ (by simp)).1]; simp [hG3, hG2, hG1, hk_add, hk_rf, hG.k0, hG.r0_2, hG.k1_2, ho1, ho2, ho3, ho4]
        have f1 : G4.2.1 (.inl (0, 0)) = some (.inl 11) := by rw [(hgr.2.2.2.2.1 _ (by simp)).2]; simp [hG3, hG2, hG1, hk_add, hk_rf, hG.k0, hG.r0_2, hG.k1_2, ho1, ho2, ho3, ho4]
        have f2 : G4.2.2 (.inl (0, 0)) 2 = .ref (G.1 (.inl (1, 2))) := by rw [hgr.2.2.2.2.2.2 _ _ (by simp) (by simp)]; simp [hG3, hG2, hG1, hk_add, hk_rf, hG.k0, hG.r0_2, hG.k1_2, ho1, ho2, ho3, ho4]
        have f3 : G4.1 (.inl (1, 2)) = G.1 (.inl (1, 2)) := by rw [(hgr.2.2.2.2.1 _ (by simp)).1]; simp [hG3, hG2, hG1, hk_add, hk_rf, hG.k0, hG.r0_2, hG.k1_2, ho1, ho2, ho3, ho4]
        have f4 : G4.2.1 (.inl (1, 2)) = some (.inl 0) := by rw [(hgr.2.2.2.2.1 _ (by simp)).2]; simp [hG3, hG2, hG1, hk_add, hk_rf, hG.k0, hG.r0_2, hG.k1_2, ho1, ho2, ho3, ho4]
        have f5 : G4.1 (.inr (0, 0)) = G.1 (.inr (0, 0)) := by rw [(hgr.2.2.2.2.1 _ (by simp)).1]; simp [hG3, hG2, hG1, hk_add, hk_rf, hG.k0, hG.r0_2, hG.k1_2, ho1, ho2, ho3, ho4]
        refine lv_pop hx hb dX10_kiln_55 rfl ?_
        refine lv_aload_n hx hb dX10_kiln_56 rfl (lv_at hl 0 rfl) ?_
        refine hk_getr_a (G := G4) (L := (.inl (0, 0))) (v := .ref (G.1 (.inl (1, 2)))) (by simp [f0, f1, f2, f3, f4, hk_add, hk_rf, hG.k0, hG.r0_2, hG.k1_2, ho1, ho2, ho3, ho4]) hx hb ht hown hK hH kc_11 (by simp [f0, f1, f2, f3, f4, hk_add, hk_rf, hG.k0, hG.r0_2, hG.k1_2, ho1, ho2, ho3, ho4]) 2 (by decide) rfl tw_170 rfl (by simp [f0, f1, f2, f3, f4, hk_add, hk_rf, hG.k0, hG.r0_2, hG.k1_2, ho1, ho2, ho3, ho4]) dX10_kiln_57 ?_
        refine hk_cV_a (G := G4) (L := (.inl (1, 2))) (As := []) (rest := []) (by simp [f0, f1, f2, f3, f4, hk_add, hk_rf, hG.k0, hG.r0_2, hG.k1_2, ho1, ho2, ho3, ho4]) hx hb hml hl.1 ht hown hK hH hS (c_lsz l D G4 (hk_u (hk_u (hk_u (hk_zo (hk_zo (hk_u (hk_zo (hk_zo τ (11, Z.1 2)) (12, Z.1 2)) (11, Z.1 2) 1 rm) (13, Z.1 2)) (14, Z.1 2)) (11, Z.1 2) 7 50) (1, 2) 0 ((hk_u (hk_zo (hk_zo (hk_u (hk_zo (hk_zo τ (11, Z.1 2)) (12, Z.1 2)) (11, Z.1 2) 1 rm) (13, Z.1 2)) (14, Z.1 2)) (11, Z.1 2) 7 50) (1, 2) 0 + 1)) (1, 2) 2 (nI (Z.1 2 + 1))) σ 2 (G.1 (.inl (1, 2))) (by simp [f0, f1, f2, f3, f4, hk_add, hk_rf, hG.k0, hG.r0_2, hG.k1_2, ho1, ho2, ho3, ho4]) (by simp [f0, f1, f2, f3, f4, hk_add, hk_rf, hG.k0, hG.r0_2, hG.k1_2, ho1, ho2, ho3, ho4])) ymV_Jx4a65c_size_8abf5 kc_0 (by simp [f0, f1, f2, f3, f4, hk_add, hk_rf, hG.k0, hG.r0_2, hG.k1_2, ho1, ho2, ho3, ho4]) tw_209 ⟨rfl, rfl⟩ ⟨Nat.le_of_ble_eq_true rfl, Nat.le_of_ble_eq_true rfl⟩ rfl rfl (Nat.le_of_ble_eq_true rfl) dX10_kiln_60 ⟨Nat.le_of_ble_eq_true rfl, Nat.le_of_ble_eq_true rfl⟩ (hk_ea (fun H locs hH hS => ?_))
        rw [show (hk_u (hk_u (hk_u (hk_zo (hk_zo (hk_u (hk_zo (hk_zo τ (11, Z.1 2)) (12, Z.1 2)) (11, Z.1 2) 1 rm) (13, Z.1 2)) (14, Z.1 2)) (11, Z.1 2) 7 50) (1, 2) 0 ((hk_u (hk_zo (hk_zo (hk_u (hk_zo (hk_zo τ (11, Z.1 2)) (12, Z.1 2)) (11, Z.1 2) 1 rm) (13, Z.1 2)) (14, Z.1 2)) (11, Z.1 2) 7 50) (1, 2) 0 + 1)) (1, 2) 2 (nI (Z.1 2 + 1))) (1, 2) 2 = nI (Z.1 2 + 1) from by simp [hk_u_ap]]
        refine lv_iconst (v := 1) hx hb dX10_kiln_63 (by decide) ?_
        refine lv_isub hx hb dX10_kiln_64 ?_
        refine W.widen (k := 5) (n := 418) (by show _ ≤ 5; omega) (by show _ ≤ 418; omega) ?_
        exact hk_iret hx hb hr hlocks hH hS ⟨(by simp only [F_kiln, if_neg c_1, if_neg c_2, if_pos c_3]), (by simp only [T_kiln, if_neg c_1, if_neg c_2, if_pos c_3]), (by simp only [Z_kiln, if_neg c_1, if_neg c_2, if_pos c_3]; exact hW.more2 (hk_kc_or kd) rfl (fun L h11 h12 h13 h14 => by simp [hG3, hG2, hG1, hk_add, hk_rf, h11, h12, h13, h14]) (by simp [hG3, hG2, hG1, hk_add, hk_rf]) (by simp [hG3, hG2, hG1, hk_add, hk_rf]) (by simp [hG3, hG2, hG1, hk_add, hk_rf]) (by simp [hG3, hG2, hG1, hk_add, hk_rf]) (by simp [hG3, hG2, hG1, hk_add, hk_rf]) (by simp [hG3, hG2, hG1, hk_add, hk_rf]) (by simp [hG3, hG2, hG1, hk_add, hk_rf]) (by simp [hG3, hG2, hG1, hk_add, hk_rf]) hgr), f0, f5⟩ dX10_kiln_65
      · refine lv_bipush (v := -3) hx hb dX10_kiln_33 (by decide) ?_
        refine W.widen (k := 5) (n := 418) (by show _ ≤ 5; omega) (by show _ ≤ 418; omega) ?_
        exact hk_iret hx hb hr hlocks hH hS ⟨(by simp only [F_kiln, if_neg c_1, if_neg c_2, if_neg c_3]), (by simp only [T_kiln, if_neg c_1, if_neg c_2, if_neg c_3]), (by simp only [Z_kiln, if_neg c_1, if_neg c_2, if_neg c_3]; exact hW), rfl, rfl⟩ dX10_kiln_35
    · refine lv_iconst (v := -1) hx hb dX10_kiln_20 (by decide) ?_
      refine W.widen (k := 5) (n := 418) (by show _ ≤ 5; omega) (by show _ ≤ 418; omega) ?_
      exact hk_iret hx hb hr hlocks hH hS ⟨(by simp only [F_kiln, if_neg c_1, if_pos c_2]), (by simp only [T_kiln, if_neg c_1, if_pos c_2]), (by simp only [Z_kiln, if_neg c_1, if_pos c_2]; exact hW), rfl, rfl⟩ dX10_kiln_21
