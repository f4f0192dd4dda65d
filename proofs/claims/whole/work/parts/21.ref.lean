def hk_mz (Z : hk_Z) (σ : hk_v) : Prop := (σ (0, 0) 2 = nI (Z.1 0) ∧ σ (0, 0) 9 = nI (Z.1 1) ∧ σ (0, 0) 17 = nI (Z.1 2)) ∧ Z.1 0 ≤ 6 ∧ Z.1 1 ≤ 6 ∧ Z.1 2 ≤ 4
theorem hk_mz.of {Z : hk_Z} {σ σ' : hk_v} (h : hk_mz Z σ) (e : ∀ k, σ' (0, 0) k = σ (0, 0) k) : hk_mz Z σ' := ⟨⟨by rw [e]; exact h.1.1, by rw [e]; exact h.1.2.1, by rw [e]; exact h.1.2.2⟩, h.2⟩
def hk_mn (σ : hk_v) (f : Nat) : Prop := σ (0, 0) f = nI (σ (0, 0) f).toNatClampNeg ∧ (σ (0, 0) f).toNatClampNeg ≤ 20
theorem hk_cin {x y : Int32} {n N : Nat} (hy : y = nI n) (hn : n ≤ N) (hN : N < 2 ^ 31) (hc : ¬ y = nI N) : vp_in y N := by
  subst hy
  rcases Nat.lt_or_ge n N with h | h
  · exact vp_in_nI h hN
  · exact absurd (congrArg nI (by omega)) hc
theorem hk_min {x y : Int32} {n N : Nat} (hy : y = nI n) (hn : n ≤ 6) (hN : n ≤ N) (h6 : N ≤ 6) (h : ¬ hk_in x 0 (y - 1) = 0) : vp_in x N := by
  obtain ⟨h1, h2⟩ := hk_in_sz hy hn h
  rw [h2]; exact vp_in_nI (by omega) (by omega)
theorem ymS_X11_isIn : hk_mS yX11_isIn cX11_isIn 3 (some FieldType.boolean) 3 := ⟨tw_810, tw_809, tw_42, by decide, by decide, by decide +kernel⟩
set_option maxHeartbeats 4000000 in
set_option maxRecDepth 100000 in
theorem c_m_isGarden (l : Launch) (D : hk_D) (G : hk_G) (Z : hk_Z) (τ σ : hk_v) (x : Int32) (hM : hk_M G)  : Met l yX11_isGarden (hk_ws yX11_isGarden cX11_isGarden 2 (some FieldType.boolean)) ({ frames := 1, cells := 0, slots := 0, locals := 22 }) (hk_P D G (hk_cm τ σ) [.ref (G.1 (.inr (0, 0))), .int x]) (hk_Q D (hk_e G (some (.int (hk_in x 0 (σ (0, 0) 2 - 1)))) (hk_cm τ σ))) 0 0 (hk_A D) := by
  refine hk_met (by decide +kernel) (Nat.le_of_ble_eq_true rfl) (fun p e s m below meth c hx hb hr hml hlocks ht hown hin hK hH hS ls hl => ?_)
  have hl : lv_has ls 2 [(0, .ref (G.1 (.inr (0, 0)))), (1, .int x)] := hl
  refine lv_iload_n hx hb dX11_isGarden_0 rfl (lv_at hl 1 rfl) ?_
  refine lv_iconst (v := 0) hx hb dX11_isGarden_1 (by decide) ?_
  refine lv_aload_n hx hb dX11_isGarden_2 rfl (lv_at hl 0 rfl) ?_
  refine hk_geti (L := (.inr (0, 0))) (v := σ (0, 0) 2) hx hb ht hown hK hH kc_12 hM.k0 2 (by decide) rfl tw_694 rfl rfl dX11_isGarden_3 ?_
  refine lv_iconst (v := 1) hx hb dX11_isGarden_6 (by decide) ?_
  refine lv_isub hx hb dX11_isGarden_7 ?_
  refine hk_cS (As := [.int x, .int 0, .int ((σ (0, 0) 2) - 1)]) (rest := []) hx hb hml hl.1 ht hown hK hH hS (c_isIn l D G τ σ x 0 ((σ (0, 0) 2) - 1)) ymS_X11_isIn tw_808 ⟨rfl, rfl⟩ ⟨Nat.le_of_ble_eq_true rfl, Nat.le_of_ble_eq_true rfl⟩ rfl rfl (Nat.le_of_ble_eq_true rfl) dX11_isGarden_8 ⟨Nat.le_of_ble_eq_true rfl, Nat.le_of_ble_eq_true rfl⟩ (hk_ea (fun H locs hH hS => ?_))
  exact hk_zret hx hb hr hlocks (hk_in_01 _ _ _) hH hS ⟨rfl, rfl, rfl⟩ dX11_isGarden_11
set_option maxHeartbeats 4000000 in
set_option maxRecDepth 100000 in
theorem c_m_isGang (l : Launch) (D : hk_D) (G : hk_G) (Z : hk_Z) (τ σ : hk_v) (x : Int32) (hM : hk_M G)  : Met l yX11_isGang (hk_ws yX11_isGang cX11_isGang 2 (some FieldType.boolean)) ({ frames := 1, cells := 0, slots := 0, locals := 22 }) (hk_P D G (hk_cm τ σ) [.ref (G.1 (.inr (0, 0))), .int x]) (hk_Q D (hk_e G (some (.int (hk_in x 0 (σ (0, 0) 9 - 1)))) (hk_cm τ σ))) 0 0 (hk_A D) := by
  refine hk_met (by decide +kernel) (Nat.le_of_ble_eq_true rfl) (fun p e s m below meth c hx hb hr hml hlocks ht hown hin hK hH hS ls hl => ?_)
  have hl : lv_has ls 2 [(0, .ref (G.1 (.inr (0, 0)))), (1, .int x)] := hl
  refine lv_iload_n hx hb dX11_isGang_0 rfl (lv_at hl 1 rfl) ?_
  refine lv_iconst (v := 0) hx hb dX11_isGang_1 (by decide) ?_
  refine lv_aload_n hx hb dX11_isGang_2 rfl (lv_at hl 0 rfl) ?_
  refine hk_geti (L := (.inr (0, 0))) (v := σ (0, 0) 9) hx hb ht hown hK hH kc_12 hM.k0 9 (by decide) rfl tw_701 rfl rfl dX11_isGang_3 ?_
  refine lv_iconst (v := 1) hx hb dX11_isGang_6 (by decide) ?_
  refine lv_isub hx hb dX11_isGang_7 ?_
  refine hk_cS (As := [.int x, .int 0, .int ((σ (0, 0) 9) - 1)]) (rest := []) hx hb hml hl.1 ht hown hK hH hS (c_isIn l D G τ σ x 0 ((σ (0, 0) 9) - 1)) ymS_X11_isIn tw_808 ⟨rfl, rfl⟩ ⟨Nat.le_of_ble_eq_true rfl, Nat.le_of_ble_eq_true rfl⟩ rfl rfl (Nat.le_of_ble_eq_true rfl) dX11_isGang_8 ⟨Nat.le_of_ble_eq_true rfl, Nat.le_of_ble_eq_true rfl⟩ (hk_ea (fun H locs hH hS => ?_))
  exact hk_zret hx hb hr hlocks (hk_in_01 _ _ _) hH hS ⟨rfl, rfl, rfl⟩ dX11_isGang_11
set_option maxHeartbeats 4000000 in
set_option maxRecDepth 100000 in
theorem c_m_isKiln (l : Launch) (D : hk_D) (G : hk_G) (Z : hk_Z) (τ σ : hk_v) (x : Int32) (hM : hk_M G)  : Met l yX11_isKiln (hk_ws yX11_isKiln cX11_isKiln 2 (some FieldType.boolean)) ({ frames := 1, cells := 0, slots := 0, locals := 22 }) (hk_P D G (hk_cm τ σ) [.ref (G.1 (.inr (0, 0))), .int x]) (hk_Q D (hk_e G (some (.int (hk_in x 0 (σ (0, 0) 17 - 1)))) (hk_cm τ σ))) 0 0 (hk_A D) := by
  refine hk_met (by decide +kernel) (Nat.le_of_ble_eq_true rfl) (fun p e s m below meth c hx hb hr hml hlocks ht hown hin hK hH hS ls hl => ?_)
  have hl : lv_has ls 2 [(0, .ref (G.1 (.inr (0, 0)))), (1, .int x)] := hl
  refine lv_iload_n hx hb dX11_isKiln_0 rfl (lv_at hl 1 rfl) ?_
  refine lv_iconst (v := 0) hx hb dX11_isKiln_1 (by decide) ?_
  refine lv_aload_n hx hb dX11_isKiln_2 rfl (lv_at hl 0 rfl) ?_
  refine hk_geti (L := (.inr (0, 0))) (v := σ (0, 0) 17) hx hb ht hown hK hH kc_12 hM.k0 17 (by decide) rfl tw_709 rfl rfl dX11_isKiln_3 ?_
  refine lv_iconst (v := 1) hx hb dX11_isKiln_6 (by decide) ?_
  refine lv_isub hx hb dX11_isKiln_7 ?_
  refine hk_cS (As := [.int x, .int 0, .int ((σ (0, 0) 17) - 1)]) (rest := []) hx hb hml hl.1 ht hown hK hH hS (c_isIn l D G τ σ x 0 ((σ (0, 0) 17) - 1)) ymS_X11_isIn tw_808 ⟨rfl, rfl⟩ ⟨Nat.le_of_ble_eq_true rfl, Nat.le_of_ble_eq_true rfl⟩ rfl rfl (Nat.le_of_ble_eq_true rfl) dX11_isKiln_8 ⟨Nat.le_of_ble_eq_true rfl, Nat.le_of_ble_eq_true rfl⟩ (hk_ea (fun H locs hH hS => ?_))
  exact hk_zret hx hb hr hlocks (hk_in_01 _ _ _) hH hS ⟨rfl, rfl, rfl⟩ dX11_isKiln_11
def F_m_garden (σ : hk_v) (b : Int32) (f : Int32) (t : Int32) : Int32 := (if (hk_in b 1 5000) = 0 then (-1) else (if (hk_in f 0 40) = 0 then (-1) else (if (hk_in t f 40) = 0 then (-1) else (if (σ (0, 0) 2) = 6 then (-3) else ((σ (0, 0) 2) + 1) - 1))))
def T_m_garden (σ : hk_v) (b : Int32) (f : Int32) (t : Int32) : hk_v := (if (hk_in b 1 5000) = 0 then σ else (if (hk_in f 0 40) = 0 then σ else (if (hk_in t f 40) = 0 then σ else (if (σ (0, 0) 2) = 6 then σ else (hk_u (hk_u (hk_u (hk_u σ (1, 3) ((σ (0, 0) 2).toNatClampNeg) b) (1, 4) ((σ (0, 0) 2).toNatClampNeg) f) (1, 5) ((σ (0, 0) 2).toNatClampNeg) t) (0, 0) 2 ((σ (0, 0) 2) + 1))))))
set_option maxHeartbeats 4000000 in
set_option maxRecDepth 100000 in
theorem c_m_garden (l : Launch) (D : hk_D) (G : hk_G) (Z : hk_Z) (τ σ : hk_v) (b : Int32) (f : Int32) (t : Int32) (hM : hk_M G) (hms : hk_mz Z σ) : Met l yX11_garden (hk_ws yX11_garden cX11_garden 4 (some FieldType.int)) ({ frames := 1, cells := 0, slots := 0, locals := 22 }) (hk_P D G (hk_cm τ σ) [.ref (G.1 (.inr (0, 0))), .int b, .int f, .int t]) (hk_Q D (hk_e G (some (.int (F_m_garden σ b f t))) (hk_cm τ (T_m_garden σ b f t)))) 0 0 (hk_A D) := by
  refine hk_met (by decide +kernel) (Nat.le_of_ble_eq_true rfl) (fun p e s m below meth c hx hb hr hml hlocks ht hown hin hK hH hS ls hl => ?_)
  have hl : lv_has ls 4 [(0, .ref (G.1 (.inr (0, 0)))), (1, .int b), (2, .int f), (3, .int t)] := hl
  refine lv_iload_n hx hb dX11_garden_0 rfl (lv_at hl 1 rfl) ?_
  refine lv_iconst (v := 1) hx hb dX11_garden_1 (by decide) ?_
  refine lv_sipush (v := 5000) hx hb dX11_garden_2 (by decide) ?_
  refine hk_cS (As := [.int b, .int 1, .int 5000]) (rest := []) hx hb hml hl.1 ht hown hK hH hS (c_isIn l D G τ σ b 1 5000) ymS_X11_isIn tw_808 ⟨rfl, rfl⟩ ⟨Nat.le_of_ble_eq_true rfl, Nat.le_of_ble_eq_true rfl⟩ rfl rfl (Nat.le_of_ble_eq_true rfl) dX11_garden_5 ⟨Nat.le_of_ble_eq_true rfl, Nat.le_of_ble_eq_true rfl⟩ (hk_ea (fun H locs hH hS => ?_))
  refine lv_if_eq (tgt := 31) hx hb dX11_garden_8 (by decide) (fun c_1 => ?_) (fun c_1 => ?_)
  · refine lv_iconst (v := -1) hx hb dX11_garden_31 (by decide) ?_
    exact hk_iret hx hb hr hlocks hH hS ⟨(by simp only [F_m_garden, if_pos c_1]), rfl, (by simp only [T_m_garden, if_pos c_1])⟩ dX11_garden_32
  · refine lv_iload_n hx hb dX11_garden_11 rfl (lv_at hl 2 rfl) ?_
    refine lv_iconst (v := 0) hx hb dX11_garden_12 (by decide) ?_
    refine lv_bipush (v := 40) hx hb dX11_garden_13 (by decide) ?_
    refine hk_cS (As := [.int f, .int 0, .int 40]) (rest := []) hx hb hml hl.1 ht hown hK hH hS (c_isIn l D G τ σ f 0 40) ymS_X11_isIn tw_808 ⟨rfl, rfl⟩ ⟨Nat.le_of_ble_eq_true rfl, Nat.le_of_ble_eq_true rfl⟩ rfl rfl (Nat.le_of_ble_eq_true rfl) dX11_garden_15 ⟨Nat.le_of_ble_eq_true rfl, Nat.le_of_ble_eq_true rfl⟩ (hk_ea (fun H locs hH hS => ?_))
    refine lv_if_eq (tgt := 31) hx hb dX11_garden_18 (by decide) (fun c_2 => ?_) (fun c_2 => ?_)
    · refine lv_iconst (v := -1) hx hb dX11_garden_31 (by decide) ?_
      exact hk_iret hx hb hr hlocks hH hS ⟨(by simp only [F_m_garden, if_neg c_1, if_pos c_2]), rfl, (by simp only [T_m_garden, if_neg c_1, if_pos c_2])⟩ dX11_garden_32
    · refine lv_iload_n hx hb dX11_garden_21 rfl (lv_at hl 3 rfl) ?_
      refine lv_iload_n hx hb dX11_garden_22 rfl (lv_at hl 2 rfl) ?_
      refine lv_bipush (v := 40) hx hb dX11_garden_23 (by decide) ?_
      refine hk_cS (As := [.int t, .int f, .int 40]) (rest := []) hx hb hml hl.1 ht hown hK hH hS (c_isIn l D G τ σ t f 40) ymS_X11_isIn tw_808 ⟨rfl, rfl⟩ ⟨Nat.le_of_ble_eq_true rfl, Nat.le_of_ble_eq_true rfl⟩ rfl rfl (Nat.le_of_ble_eq_true rfl) dX11_garden_25 ⟨Nat.le_of_ble_eq_true rfl, Nat.le_of_ble_eq_true rfl⟩ (hk_ea (fun H locs hH hS => ?_))
      refine lv_if_ne (tgt := 33) hx hb dX11_garden_28 (by decide) (fun c_3 => ?_) (fun c_3 => ?_)
      · refine lv_aload_n hx hb dX11_garden_33 rfl (lv_at hl 0 rfl) ?_
        refine hk_geti (L := (.inr (0, 0))) (v := σ (0, 0) 2) hx hb ht hown hK hH kc_12 hM.k0 2 (by decide) rfl tw_694 rfl rfl dX11_garden_34 ?_
        refine lv_bipush (v := 6) hx hb dX11_garden_37 (by decide) ?_
        refine lv_icmp_ne (tgt := 45) hx hb dX11_garden_39 (by decide) (fun c_4 => ?_) (fun c_4 => ?_)
        · refine lv_aload_n hx hb dX11_garden_45 rfl (lv_at hl 0 rfl) ?_
          refine hk_getr (L := (.inr (0, 0))) (v := .ref (G.1 (.inr (1, 3)))) hx hb ht hown hK hH kc_12 hM.k0 3 (by decide) rfl tw_695 rfl hM.r3 dX11_garden_46 ?_
          refine lv_aload_n hx hb dX11_garden_49 rfl (lv_at hl 0 rfl) ?_
          refine hk_geti (L := (.inr (0, 0))) (v := σ (0, 0) 2) hx hb ht hown hK hH kc_12 hM.k0 2 (by decide) rfl tw_694 rfl rfl dX11_garden_50 ?_
          refine lv_iload_n hx hb dX11_garden_53 rfl (lv_at hl 1 rfl) ?_
          refine hk_ist (L := (.inr (1, 3))) hx hb hK hH hS hM.k3 (hk_cin (x := 0) (n := Z.1 0) hms.1.1 (by have := hms.2; omega) (by omega) (by assumption)) dX11_garden_54 (fun H locs hH hS => ?_)
          rw [hk_up_r] at hH
          refine lv_aload_n hx hb dX11_garden_55 rfl (lv_at hl 0 rfl) ?_
          refine hk_getr (L := (.inr (0, 0))) (v := .ref (G.1 (.inr (1, 4)))) hx hb ht hown hK hH kc_12 hM.k0 4 (by decide) rfl tw_696 rfl hM.r4 dX11_garden_56 ?_
          refine lv_aload_n hx hb dX11_garden_59 rfl (lv_at hl 0 rfl) ?_
          refine hk_geti (L := (.inr (0, 0))) (v := σ (0, 0) 2) hx hb ht hown hK hH kc_12 hM.k0 2 (by decide) rfl tw_694 rfl (by simp [hk_cm, hk_u_ap]) dX11_garden_60 ?_
          refine lv_iload_n hx hb dX11_garden_63 rfl (lv_at hl 2 rfl) ?_
          refine hk_ist (L := (.inr (1, 4))) hx hb hK hH hS hM.k4 (hk_cin (x := 0) (n := Z.1 0) hms.1.1 (by have := hms.2; omega) (by omega) (by assumption)) dX11_garden_64 (fun H locs hH hS => ?_)
          rw [hk_up_r] at hH
          refine lv_aload_n hx hb dX11_garden_65 rfl (lv_at hl 0 rfl) ?_
          refine hk_getr (L := (.inr (0, 0))) (v := .ref (G.1 (.inr (1, 5)))) hx hb ht hown hK hH kc_12 hM.k0 5 (by decide) rfl tw_697 rfl hM.r5 dX11_garden_66 ?_
          refine lv_aload_n hx hb dX11_garden_69 rfl (lv_at hl 0 rfl) ?_
          refine hk_geti (L := (.inr (0, 0))) (v := σ (0, 0) 2) hx hb ht hown hK hH kc_12 hM.k0 2 (by decide) rfl tw_694 rfl (by simp [hk_cm, hk_u_ap]) dX11_garden_70 ?_
          refine lv_iload_n hx hb dX11_garden_73 rfl (lv_at hl 3 rfl) ?_
          refine hk_ist (L := (.inr (1, 5))) hx hb hK hH hS hM.k5 (hk_cin (x := 0) (n := Z.1 0) hms.1.1 (by have := hms.2; omega) (by omega) (by assumption)) dX11_garden_74 (fun H locs hH hS => ?_)
          rw [hk_up_r] at hH
          refine lv_aload_n hx hb dX11_garden_75 rfl (lv_at hl 0 rfl) ?_
          refine lv_dup hx hb dX11_garden_76 rfl ?_
          refine hk_geti (L := (.inr (0, 0))) (v := σ (0, 0) 2) hx hb ht hown hK hH kc_12 hM.k0 2 (by decide) rfl tw_694 rfl (by simp [hk_cm, hk_u_ap]) dX11_garden_77 ?_
          refine lv_iconst (v := 1) hx hb dX11_garden_80 (by decide) ?_
          refine lv_iadd hx hb dX11_garden_81 ?_
          refine hk_puti (L := (.inr (0, 0))) hx hb ht hown hK hH hS kc_12 hM.k0 2 (by decide) rfl tw_694 rfl (Or.inl rfl) rfl dX11_garden_82 (fun H locs hH hS => ?_)
          rw [hk_up_r] at hH
          refine lv_aload_n hx hb dX11_garden_85 rfl (lv_at hl 0 rfl) ?_
          refine hk_geti (L := (.inr (0, 0))) (v := (σ (0, 0) 2) + 1) hx hb ht hown hK hH kc_12 hM.k0 2 (by decide) rfl tw_694 rfl (by simp [hk_cm, hk_u_ap]) dX11_garden_86 ?_
          refine lv_iconst (v := 1) hx hb dX11_garden_89 (by decide) ?_
          refine lv_isub hx hb dX11_garden_90 ?_
          exact hk_iret hx hb hr hlocks hH hS ⟨(by simp only [F_m_garden, if_neg c_1, if_neg c_2, if_neg c_3, if_neg c_4]), rfl, (by simp only [T_m_garden, if_neg c_1, if_neg c_2, if_neg c_3, if_neg c_4])⟩ dX11_garden_91
        · refine lv_bipush (v := -3) hx hb dX11_garden_42 (by decide) ?_
          exact hk_iret hx hb hr hlocks hH hS ⟨(by simp only [F_m_garden, if_neg c_1, if_neg c_2, if_neg c_3, if_pos c_4]), rfl, (by simp only [T_m_garden, if_neg c_1, if_neg c_2, if_neg c_3, if_pos c_4])⟩ dX11_garden_44
      · refine lv_iconst (v := -1) hx hb dX11_garden_31 (by decide) ?_
        exact hk_iret hx hb hr hlocks hH hS ⟨(by simp only [F_m_garden, if_neg c_1, if_neg c_2, if_pos c_3]), rfl, (by simp only [T_m_garden, if_neg c_1, if_neg c_2, if_pos c_3])⟩ dX11_garden_32
def F_m_gang (σ : hk_v) (r : Int32) (me : Int32) : Int32 := (if (hk_in r 1 30) = 0 then (-1) else (if (hk_in me 80 120) = 0 then (-1) else (if (σ (0, 0) 9) = 6 then (-3) else ((σ (0, 0) 9) + 1) - 1)))
def T_m_gang (σ : hk_v) (r : Int32) (me : Int32) : hk_v := (if (hk_in r 1 30) = 0 then σ else (if (hk_in me 80 120) = 0 then σ else (if (σ (0, 0) 9) = 6 then σ else (hk_u (hk_u (hk_u σ (1, 10) ((σ (0, 0) 9).toNatClampNeg) r) (1, 11) ((σ (0, 0) 9).toNatClampNeg) me) (0, 0) 9 ((σ (0, 0) 9) + 1)))))
set_option maxHeartbeats 4000000 in
set_option maxRecDepth 100000 in
theorem c_m_gang (l : Launch) (D : hk_D) (G : hk_G) (Z : hk_Z) (τ σ : hk_v) (r : Int32) (me : Int32) (hM : hk_M G) (hms : hk_mz Z σ) : Met l yX11_gang (hk_ws yX11_gang cX11_gang 3 (some FieldType.int)) ({ frames := 1, cells := 0, slots := 0, locals := 22 }) (hk_P D G (hk_cm τ σ) [.ref (G.1 (.inr (0, 0))), .int r, .int me]) (hk_Q D (hk_e G (some (.int (F_m_gang σ r me))) (hk_cm τ (T_m_gang σ r me)))) 0 0 (hk_A D) := by
  refine hk_met (by decide +kernel) (Nat.le_of_ble_eq_true rfl) (fun p e s m below meth c hx hb hr hml hlocks ht hown hin hK hH hS ls hl => ?_)
  have hl : lv_has ls 3 [(0, .ref (G.1 (.inr (0, 0)))), (1, .int r), (2, .int me)] := hl
  refine lv_iload_n hx hb dX11_gang_0 rfl (lv_at hl 1 rfl) ?_
  refine lv_iconst (v := 1) hx hb dX11_gang_1 (by decide) ?_
  refine lv_bipush (v := 30) hx hb dX11_gang_2 (by decide) ?_
  refine hk_cS (As := [.int r, .int 1, .int 30]) (rest := []) hx hb hml hl.1 ht hown hK hH hS (c_isIn l D G τ σ r 1 30) ymS_X11_isIn tw_808 ⟨rfl, rfl⟩ ⟨Nat.le_of_ble_eq_true rfl, Nat.le_of_ble_eq_true rfl⟩ rfl rfl (Nat.le_of_ble_eq_true rfl) dX11_gang_4 ⟨Nat.le_of_ble_eq_true rfl, Nat.le_of_ble_eq_true rfl⟩ (hk_ea (fun H locs hH hS => ?_))
  refine lv_if_eq (tgt := 21) hx hb dX11_gang_7 (by decide) (fun c_1 => ?_) (fun c_1 => ?_)
  · refine lv_iconst (v := -1) hx hb dX11_gang_21 (by decide) ?_
    exact hk_iret hx hb hr hlocks hH hS ⟨(by simp only [F_m_gang, if_pos c_1]), rfl, (by simp only [T_m_gang, if_pos c_1])⟩ dX11_gang_22
  · refine lv_iload_n hx hb dX11_gang_10 rfl (lv_at hl 2 rfl) ?_
    refine lv_bipush (v := 80) hx hb dX11_gang_11 (by decide) ?_
    refine lv_bipush (v := 120) hx hb dX11_gang_13 (by decide) ?_
    refine hk_cS (As := [.int me, .int 80, .int 120]) (rest := []) hx hb hml hl.1 ht hown hK hH hS (c_isIn l D G τ σ me 80 120) ymS_X11_isIn tw_808 ⟨rfl, rfl⟩ ⟨Nat.le_of_ble_eq_true rfl, Nat.le_of_ble_eq_true rfl⟩ rfl rfl (Nat.le_of_ble_eq_true rfl) dX11_gang_15 ⟨Nat.le_of_ble_eq_true rfl, Nat.le_of_ble_eq_true rfl⟩ (hk_ea (fun H locs hH hS => ?_))
    refine lv_if_ne (tgt := 23) hx hb dX11_gang_18 (by decide) (fun c_2 => ?_) (fun c_2 => ?_)
    · refine lv_aload_n hx hb dX11_gang_23 rfl (lv_at hl 0 rfl) ?_
      refine hk_geti (L := (.inr (0, 0))) (v := σ (0, 0) 9) hx hb ht hown hK hH kc_12 hM.k0 9 (by decide) rfl tw_701 rfl rfl dX11_gang_24 ?_
      refine lv_bipush (v := 6) hx hb dX11_gang_27 (by decide) ?_
      refine lv_icmp_ne (tgt := 35) hx hb dX11_gang_29 (by decide) (fun c_3 => ?_) (fun c_3 => ?_)
      · refine lv_aload_n hx hb dX11_gang_35 rfl (lv_at hl 0 rfl) ?_
        refine hk_getr (L := (.inr (0, 0))) (v := .ref (G.1 (.inr (1, 10)))) hx hb ht hown hK hH kc_12 hM.k0 10 (by decide) rfl tw_702 rfl hM.r10 dX11_gang_36 ?_
        refine lv_aload_n hx hb dX11_gang_39 rfl (lv_at hl 0 rfl) ?_
        refine hk_geti (L := (.inr (0, 0))) (v := σ (0, 0) 9) hx hb ht hown hK hH kc_12 hM.k0 9 (by decide) rfl tw_701 rfl rfl dX11_gang_40 ?_
        refine lv_iload_n hx hb dX11_gang_43 rfl (lv_at hl 1 rfl) ?_
        refine hk_ist (L := (.inr (1, 10))) hx hb hK hH hS hM.k10 (hk_cin (x := 0) (n := Z.1 1) hms.1.2.1 (by have := hms.2; omega) (by omega) (by assumption)) dX11_gang_44 (fun H locs hH hS => ?_)
        rw [hk_up_r] at hH
        refine lv_aload_n hx hb dX11_gang_45 rfl (lv_at hl 0 rfl) ?_
        refine hk_getr (L := (.inr (0, 0))) (v := .ref (G.1 (.inr (1, 11)))) hx hb ht hown hK hH kc_12 hM.k0 11 (by decide) rfl tw_703 rfl hM.r11 dX11_gang_46 ?_
        refine lv_aload_n hx hb dX11_gang_49 rfl (lv_at hl 0 rfl) ?_
        refine hk_geti (L := (.inr (0, 0))) (v := σ (0, 0) 9) hx hb ht hown hK hH kc_12 hM.k0 9 (by decide) rfl tw_701 rfl (by simp [hk_cm, hk_u_ap]) dX11_gang_50 ?_
        refine lv_iload_n hx hb dX11_gang_53 rfl (lv_at hl 2 rfl) ?_
        refine hk_ist (L := (.inr (1, 11))) hx hb hK hH hS hM.k11 (hk_cin (x := 0) (n := Z.1 1) hms.1.2.1 (by have := hms.2; omega) (by omega) (by assumption)) dX11_gang_54 (fun H locs hH hS => ?_)
        rw [hk_up_r] at hH
        refine lv_aload_n hx hb dX11_gang_55 rfl (lv_at hl 0 rfl) ?_
        refine lv_dup hx hb dX11_gang_56 rfl ?_
        refine hk_geti (L := (.inr (0, 0))) (v := σ (0, 0) 9) hx hb ht hown hK hH kc_12 hM.k0 9 (by decide) rfl tw_701 rfl (by simp [hk_cm, hk_u_ap]) dX11_gang_57 ?_
        refine lv_iconst (v := 1) hx hb dX11_gang_60 (by decide) ?_
        refine lv_iadd hx hb dX11_gang_61 ?_
        refine hk_puti (L := (.inr (0, 0))) hx hb ht hown hK hH hS kc_12 hM.k0 9 (by decide) rfl tw_701 rfl (Or.inl rfl) rfl dX11_gang_62 (fun H locs hH hS => ?_)
        rw [hk_up_r] at hH
        refine lv_aload_n hx hb dX11_gang_65 rfl (lv_at hl 0 rfl) ?_
        refine hk_geti (L := (.inr (0, 0))) (v := (σ (0, 0) 9) + 1) hx hb ht hown hK hH kc_12 hM.k0 9 (by decide) rfl tw_701 rfl (by simp [hk_cm, hk_u_ap]) dX11_gang_66 ?_
        refine lv_iconst (v := 1) hx hb dX11_gang_69 (by decide) ?_
        refine lv_isub hx hb dX11_gang_70 ?_
        exact hk_iret hx hb hr hlocks hH hS ⟨(by simp only [F_m_gang, if_neg c_1, if_neg c_2, if_neg c_3]), rfl, (by simp only [T_m_gang, if_neg c_1, if_neg c_2, if_neg c_3])⟩ dX11_gang_71
      · refine lv_bipush (v := -3) hx hb dX11_gang_32 (by decide) ?_
        exact hk_iret hx hb hr hlocks hH hS ⟨(by simp only [F_m_gang, if_neg c_1, if_neg c_2, if_pos c_3]), rfl, (by simp only [T_m_gang, if_neg c_1, if_neg c_2, if_pos c_3])⟩ dX11_gang_34
    · refine lv_iconst (v := -1) hx hb dX11_gang_21 (by decide) ?_
      exact hk_iret hx hb hr hlocks hH hS ⟨(by simp only [F_m_gang, if_neg c_1, if_pos c_2]), rfl, (by simp only [T_m_gang, if_neg c_1, if_pos c_2])⟩ dX11_gang_22
def F_m_kiln (σ : hk_v) (kd : Int32) (ro : Int32) : Int32 := (if (hk_in kd 0 2) = 0 then (-1) else (if (hk_in ro 1 200) = 0 then (-1) else (if (σ (0, 0) 17) = 4 then (-3) else ((σ (0, 0) 17) + 1) - 1)))
def T_m_kiln (σ : hk_v) (kd : Int32) (ro : Int32) : hk_v := (if (hk_in kd 0 2) = 0 then σ else (if (hk_in ro 1 200) = 0 then σ else (if (σ (0, 0) 17) = 4 then σ else (hk_u (hk_u (hk_u (hk_u σ (1, 18) ((σ (0, 0) 17).toNatClampNeg) kd) (1, 19) ((σ (0, 0) 17).toNatClampNeg) ro) (1, 20) ((σ (0, 0) 17).toNatClampNeg) 50) (0, 0) 17 ((σ (0, 0) 17) + 1)))))
set_option maxHeartbeats 4000000 in
set_option maxRecDepth 100000 in
theorem c_m_kiln (l : Launch) (D : hk_D) (G : hk_G) (Z : hk_Z) (τ σ : hk_v) (kd : Int32) (ro : Int32) (hM : hk_M G) (hms : hk_mz Z σ) : Met l yX11_kiln (hk_ws yX11_kiln cX11_kiln 3 (some FieldType.int)) ({ frames := 1, cells := 0, slots := 0, locals := 22 }) (hk_P D G (hk_cm τ σ) [.ref (G.1 (.inr (0, 0))), .int kd, .int ro]) (hk_Q D (hk_e G (some (.int (F_m_kiln σ kd ro))) (hk_cm τ (T_m_kiln σ kd ro)))) 0 0 (hk_A D) := by
  refine hk_met (by decide +kernel) (Nat.le_of_ble_eq_true rfl) (fun p e s m below meth c hx hb hr hml hlocks ht hown hin hK hH hS ls hl => ?_)
  have hl : lv_has ls 3 [(0, .ref (G.1 (.inr (0, 0)))), (1, .int kd), (2, .int ro)] := hl
  refine lv_iload_n hx hb dX11_kiln_0 rfl (lv_at hl 1 rfl) ?_
  refine lv_iconst (v := 0) hx hb dX11_kiln_1 (by decide) ?_
  refine lv_iconst (v := 2) hx hb dX11_kiln_2 (by decide) ?_
  refine hk_cS (As := [.int kd, .int 0, .int 2]) (rest := []) hx hb hml hl.1 ht hown hK hH hS (c_isIn l D G τ σ kd 0 2) ymS_X11_isIn tw_808 ⟨rfl, rfl⟩ ⟨Nat.le_of_ble_eq_true rfl, Nat.le_of_ble_eq_true rfl⟩ rfl rfl (Nat.le_of_ble_eq_true rfl) dX11_kiln_3 ⟨Nat.le_of_ble_eq_true rfl, Nat.le_of_ble_eq_true rfl⟩ (hk_ea (fun H locs hH hS => ?_))
  refine lv_if_eq (tgt := 20) hx hb dX11_kiln_6 (by decide) (fun c_1 => ?_) (fun c_1 => ?_)
  · refine lv_iconst (v := -1) hx hb dX11_kiln_20 (by decide) ?_
    exact hk_iret hx hb hr hlocks hH hS ⟨(by simp only [F_m_kiln, if_pos c_1]), rfl, (by simp only [T_m_kiln, if_pos c_1])⟩ dX11_kiln_21
  · refine lv_iload_n hx hb dX11_kiln_9 rfl (lv_at hl 2 rfl) ?_
    refine lv_iconst (v := 1) hx hb dX11_kiln_10 (by decide) ?_
    refine lv_sipush (v := 200) hx hb dX11_kiln_11 (by decide) ?_
    refine hk_cS (As := [.int ro, .int 1, .int 200]) (rest := []) hx hb hml hl.1 ht hown hK hH hS (c_isIn l D G τ σ ro 1 200) ymS_X11_isIn tw_808 ⟨rfl, rfl⟩ ⟨Nat.le_of_ble_eq_true rfl, Nat.le_of_ble_eq_true rfl⟩ rfl rfl (Nat.le_of_ble_eq_true rfl) dX11_kiln_14 ⟨Nat.le_of_ble_eq_true rfl, Nat.le_of_ble_eq_true rfl⟩ (hk_ea (fun H locs hH hS => ?_))
    refine lv_if_ne (tgt := 22) hx hb dX11_kiln_17 (by decide) (fun c_2 => ?_) (fun c_2 => ?_)
    · refine lv_aload_n hx hb dX11_kiln_22 rfl (lv_at hl 0 rfl) ?_
      refine hk_geti (L := (.inr (0, 0))) (v := σ (0, 0) 17) hx hb ht hown hK hH kc_12 hM.k0 17 (by decide) rfl tw_709 rfl rfl dX11_kiln_23 ?_
      refine lv_iconst (v := 4) hx hb dX11_kiln_26 (by decide) ?_
      refine lv_icmp_ne (tgt := 33) hx hb dX11_kiln_27 (by decide) (fun c_3 => ?_) (fun c_3 => ?_)
      · refine lv_aload_n hx hb dX11_kiln_33 rfl (lv_at hl 0 rfl) ?_
        refine hk_getr (L := (.inr (0, 0))) (v := .ref (G.1 (.inr (1, 18)))) hx hb ht hown hK hH kc_12 hM.k0 18 (by decide) rfl tw_710 rfl hM.r18 dX11_kiln_34 ?_
        refine lv_aload_n hx hb dX11_kiln_37 rfl (lv_at hl 0 rfl) ?_
        refine hk_geti (L := (.inr (0, 0))) (v := σ (0, 0) 17) hx hb ht hown hK hH kc_12 hM.k0 17 (by decide) rfl tw_709 rfl rfl dX11_kiln_38 ?_
        refine lv_iload_n hx hb dX11_kiln_41 rfl (lv_at hl 1 rfl) ?_
        refine hk_ist (L := (.inr (1, 18))) hx hb hK hH hS hM.k18 (hk_cin (x := 0) (n := Z.1 2) hms.1.2.2 (by have := hms.2; omega) (by omega) (by assumption)) dX11_kiln_42 (fun H locs hH hS => ?_)
        rw [hk_up_r] at hH
        refine lv_aload_n hx hb dX11_kiln_43 rfl (lv_at hl 0 rfl) ?_
        refine hk_getr (L := (.inr (0, 0))) (v := .ref (G.1 (.inr (1, 19)))) hx hb ht hown hK hH kc_12 hM.k0 19 (by decide) rfl tw_711 rfl hM.r19 dX11_kiln_44 ?_
        refine lv_aload_n hx hb dX11_kiln_47 rfl (lv_at hl 0 rfl) ?_
        refine hk_geti (L := (.inr (0, 0))) (v := σ (0, 0) 17) hx hb ht hown hK hH kc_12 hM.k0 17 (by decide) rfl tw_709 rfl (by simp [hk_cm, hk_u_ap]) dX11_kiln_48 ?_
        refine lv_iload_n hx hb dX11_kiln_51 rfl (lv_at hl 2 rfl) ?_
        refine hk_ist (L := (.inr (1, 19))) hx hb hK hH hS hM.k19 (hk_cin (x := 0) (n := Z.1 2) hms.1.2.2 (by have := hms.2; omega) (by omega) (by assumption)) dX11_kiln_52 (fun H locs hH hS => ?_)
        rw [hk_up_r] at hH
        refine lv_aload_n hx hb dX11_kiln_53 rfl (lv_at hl 0 rfl) ?_
        refine hk_getr (L := (.inr (0, 0))) (v := .ref (G.1 (.inr (1, 20)))) hx hb ht hown hK hH kc_12 hM.k0 20 (by decide) rfl tw_712 rfl hM.r20 dX11_kiln_54 ?_
        refine lv_aload_n hx hb dX11_kiln_57 rfl (lv_at hl 0 rfl) ?_
        refine hk_geti (L := (.inr (0, 0))) (v := σ (0, 0) 17) hx hb ht hown hK hH kc_12 hM.k0 17 (by decide) rfl tw_709 rfl (by simp [hk_cm, hk_u_ap]) dX11_kiln_58 ?_
        refine lv_bipush (v := 50) hx hb dX11_kiln_61 (by decide) ?_
        refine hk_ist (L := (.inr (1, 20))) hx hb hK hH hS hM.k20 (hk_cin (x := 0) (n := Z.1 2) hms.1.2.2 (by have := hms.2; omega) (by omega) (by assumption)) dX11_kiln_63 (fun H locs hH hS => ?_)
        rw [hk_up_r] at hH
        refine lv_aload_n hx hb dX11_kiln_64 rfl (lv_at hl 0 rfl) ?_
        refine lv_dup hx hb dX11_kiln_65 rfl ?_
        refine hk_geti (L := (.inr (0, 0))) (v := σ (0, 0) 17) hx hb ht hown hK hH kc_12 hM.k0 17 (by decide) rfl tw_709 rfl (by simp [hk_cm, hk_u_ap]) dX11_kiln_66 ?_
        refine lv_iconst (v := 1) hx hb dX11_kiln_69 (by decide) ?_
        refine lv_iadd hx hb dX11_kiln_70 ?_
        refine hk_puti (L := (.inr (0, 0))) hx hb ht hown hK hH hS kc_12 hM.k0 17 (by decide) rfl tw_709 rfl (Or.inl rfl) rfl dX11_kiln_71 (fun H locs hH hS => ?_)
        rw [hk_up_r] at hH
        refine lv_aload_n hx hb dX11_kiln_74 rfl (lv_at hl 0 rfl) ?_
        refine hk_geti (L := (.inr (0, 0))) (v := (σ (0, 0) 17) + 1) hx hb ht hown hK hH kc_12 hM.k0 17 (by decide) rfl tw_709 rfl (by simp [hk_cm, hk_u_ap]) dX11_kiln_75 ?_
        refine lv_iconst (v := 1) hx hb dX11_kiln_78 (by decide) ?_
        refine lv_isub hx hb dX11_kiln_79 ?_
        exact hk_iret hx hb hr hlocks hH hS ⟨(by simp only [F_m_kiln, if_neg c_1, if_neg c_2, if_neg c_3]), rfl, (by simp only [T_m_kiln, if_neg c_1, if_neg c_2, if_neg c_3])⟩ dX11_kiln_80
      · refine lv_bipush (v := -3) hx hb dX11_kiln_30 (by decide) ?_
        exact hk_iret hx hb hr hlocks hH hS ⟨(by simp only [F_m_kiln, if_neg c_1, if_neg c_2, if_pos c_3]), rfl, (by simp only [T_m_kiln, if_neg c_1, if_neg c_2, if_pos c_3])⟩ dX11_kiln_32
    · refine lv_iconst (v := -1) hx hb dX11_kiln_20 (by decide) ?_
      exact hk_iret hx hb hr hlocks hH hS ⟨(by simp only [F_m_kiln, if_neg c_1, if_pos c_2]), rfl, (by simp only [T_m_kiln, if_neg c_1, if_pos c_2])⟩ dX11_kiln_21
theorem ymV_X11_isGang : hk_mV yX11_isGang cX11_isGang 2 (some FieldType.boolean) RX11 1 := ⟨tw_822, tw_821, tw_17, tw_42, rfl, by decide, by decide, by decide +kernel⟩
theorem ymV_X11_isGarden : hk_mV yX11_isGarden cX11_isGarden 2 (some FieldType.boolean) RX11 1 := ⟨tw_826, tw_825, tw_18, tw_42, rfl, by decide, by decide, by decide +kernel⟩
def F_m_sends (σ : hk_v) (g : Int32) (dd : Int32) : Int32 := (if (hk_in g 0 (σ (0, 0) 9 - 1)) = 0 then (-2) else (if dd = (-9) then σ (1, 12) g.toNatClampNeg else (if (hk_in dd 0 (σ (0, 0) 2 - 1)) = 0 then (-2) else σ (1, 12) g.toNatClampNeg)))
def T_m_sends (σ : hk_v) (g : Int32) (dd : Int32) : hk_v := (if (hk_in g 0 (σ (0, 0) 9 - 1)) = 0 then σ else (if dd = (-9) then (hk_u σ (1, 12) g.toNatClampNeg dd) else (if (hk_in dd 0 (σ (0, 0) 2 - 1)) = 0 then σ else (hk_u σ (1, 12) g.toNatClampNeg dd))))
set_option maxHeartbeats 4000000 in
set_option maxRecDepth 100000 in
theorem c_m_sends (l : Launch) (D : hk_D) (G : hk_G) (Z : hk_Z) (τ σ : hk_v) (g : Int32) (dd : Int32) (hM : hk_M G) (hms : hk_mz Z σ) : Met l yX11_sends (hk_ws yX11_sends cX11_sends 4 (some FieldType.int)) ({ frames := 2, cells := 0, slots := 0, locals := 43 }) (hk_P D G (hk_cm τ σ) [.ref (G.1 (.inr (0, 0))), .int g, .int dd]) (hk_Q D (hk_e G (some (.int (F_m_sends σ g dd))) (hk_cm τ (T_m_sends σ g dd)))) 0 0 (hk_A D) := by
  refine hk_met (by decide +kernel) (Nat.le_of_ble_eq_true rfl) (fun p e s m below meth c hx hb hr hml hlocks ht hown hin hK hH hS ls hl => ?_)
  have hl : lv_has ls 4 [(0, .ref (G.1 (.inr (0, 0)))), (1, .int g), (2, .int dd)] := hl
  refine lv_aload_n hx hb dX11_sends_0 rfl (lv_at hl 0 rfl) ?_
  refine lv_iload_n hx hb dX11_sends_1 rfl (lv_at hl 1 rfl) ?_
  refine hk_cV (L := (.inr (0, 0))) (As := [.int g]) (rest := []) hx hb hml hl.1 ht hown hK hH hS (c_m_isGang l D G Z τ σ g hM) ymV_X11_isGang kc_12 hM.k0 tw_819 ⟨rfl, rfl⟩ ⟨Nat.le_of_ble_eq_true rfl, Nat.le_of_ble_eq_true rfl⟩ rfl rfl (Nat.le_of_ble_eq_true rfl) dX11_sends_2 ⟨Nat.le_of_ble_eq_true rfl, Nat.le_of_ble_eq_true rfl⟩ (hk_ea (fun H locs hH hS => ?_))
  refine lv_if_eq (tgt := 22) hx hb dX11_sends_5 (by decide) (fun c_1 => ?_) (fun c_1 => ?_)
  · refine lv_bipush (v := -2) hx hb dX11_sends_22 (by decide) ?_
    exact hk_iret hx hb hr hlocks hH hS ⟨(by simp only [F_m_sends, if_pos c_1]), rfl, (by simp only [T_m_sends, if_pos c_1])⟩ dX11_sends_24
  · refine lv_iload_n hx hb dX11_sends_8 rfl (lv_at hl 2 rfl) ?_
    refine lv_bipush (v := -9) hx hb dX11_sends_9 (by decide) ?_
    refine lv_icmp_eq (tgt := 25) hx hb dX11_sends_11 (by decide) (fun c_2 => ?_) (fun c_2 => ?_)
    · refine lv_aload_n hx hb dX11_sends_25 rfl (lv_at hl 0 rfl) ?_
      refine hk_getr (L := (.inr (0, 0))) (v := .ref (G.1 (.inr (1, 12)))) hx hb ht hown hK hH kc_12 hM.k0 12 (by decide) rfl tw_704 rfl hM.r12 dX11_sends_26 ?_
      refine lv_iload_n hx hb dX11_sends_29 rfl (lv_at hl 1 rfl) ?_
      refine hk_ild (L := (.inr (1, 12))) (v := σ (1, 12) g.toNatClampNeg) hx hb hK hH hM.k12 (hk_min (n := Z.1 1) hms.1.2.1 (by have := hms.2; omega) (by have := hms.2; omega) (by omega) (by assumption)) rfl dX11_sends_30 ?_
      refine lv_istore_n (lv' := [(3, .int (σ (1, 12) g.toNatClampNeg)), (0, .ref (G.1 (.inr (0, 0)))), (1, .int g), (2, .int dd)]) hx hb dX11_sends_31 rfl hl (by decide) rfl (fun ls hl => ?_)
      refine lv_aload_n hx hb dX11_sends_32 rfl (lv_at hl 1 rfl) ?_
      refine hk_getr (L := (.inr (0, 0))) (v := .ref (G.1 (.inr (1, 12)))) hx hb ht hown hK hH kc_12 hM.k0 12 (by decide) rfl tw_704 rfl hM.r12 dX11_sends_33 ?_
      refine lv_iload_n hx hb dX11_sends_36 rfl (lv_at hl 2 rfl) ?_
      refine lv_iload_n hx hb dX11_sends_37 rfl (lv_at hl 3 rfl) ?_
      refine hk_ist (L := (.inr (1, 12))) hx hb hK hH hS hM.k12 (hk_min (n := Z.1 1) hms.1.2.1 (by have := hms.2; omega) (by have := hms.2; omega) (by omega) (by assumption)) dX11_sends_38 (fun H locs hH hS => ?_)
      rw [hk_up_r] at hH
      refine lv_iload_n hx hb dX11_sends_39 rfl (lv_at hl 0 rfl) ?_
      exact hk_iret hx hb hr hlocks hH hS ⟨(by simp only [F_m_sends, if_neg c_1, if_pos c_2]), rfl, (by simp only [T_m_sends, if_neg c_1, if_pos c_2])⟩ dX11_sends_40
    · refine lv_aload_n hx hb dX11_sends_14 rfl (lv_at hl 0 rfl) ?_
      refine lv_iload_n hx hb dX11_sends_15 rfl (lv_at hl 2 rfl) ?_
      refine hk_cV (L := (.inr (0, 0))) (As := [.int dd]) (rest := []) hx hb hml hl.1 ht hown hK hH hS (c_m_isGarden l D G Z τ σ dd hM) ymV_X11_isGarden kc_12 hM.k0 tw_823 ⟨rfl, rfl⟩ ⟨Nat.le_of_ble_eq_true rfl, Nat.le_of_ble_eq_true rfl⟩ rfl rfl (Nat.le_of_ble_eq_true rfl) dX11_sends_16 ⟨Nat.le_of_ble_eq_true rfl, Nat.le_of_ble_eq_true rfl⟩ (hk_ea (fun H locs hH hS => ?_))
      refine lv_if_ne (tgt := 25) hx hb dX11_sends_19 (by decide) (fun c_3 => ?_) (fun c_3 => ?_)
      · refine lv_aload_n hx hb dX11_sends_25 rfl (lv_at hl 0 rfl) ?_
        refine hk_getr (L := (.inr (0, 0))) (v := .ref (G.1 (.inr (1, 12)))) hx hb ht hown hK hH kc_12 hM.k0 12 (by decide) rfl tw_704 rfl hM.r12 dX11_sends_26 ?_
        refine lv_iload_n hx hb dX11_sends_29 rfl (lv_at hl 1 rfl) ?_
        refine hk_ild (L := (.inr (1, 12))) (v := σ (1, 12) g.toNatClampNeg) hx hb hK hH hM.k12 (hk_min (n := Z.1 1) hms.1.2.1 (by have := hms.2; omega) (by have := hms.2; omega) (by omega) (by assumption)) rfl dX11_sends_30 ?_
        refine lv_istore_n (lv' := [(3, .int (σ (1, 12) g.toNatClampNeg)), (0, .ref (G.1 (.inr (0, 0)))), (1, .int g), (2, .int dd)]) hx hb dX11_sends_31 rfl hl (by decide) rfl (fun ls hl => ?_)
        refine lv_aload_n hx hb dX11_sends_32 rfl (lv_at hl 1 rfl) ?_
        refine hk_getr (L := (.inr (0, 0))) (v := .ref (G.1 (.inr (1, 12)))) hx hb ht hown hK hH kc_12 hM.k0 12 (by decide) rfl tw_704 rfl hM.r12 dX11_sends_33 ?_
        refine lv_iload_n hx hb dX11_sends_36 rfl (lv_at hl 2 rfl) ?_
        refine lv_iload_n hx hb dX11_sends_37 rfl (lv_at hl 3 rfl) ?_
        refine hk_ist (L := (.inr (1, 12))) hx hb hK hH hS hM.k12 (hk_min (n := Z.1 1) hms.1.2.1 (by have := hms.2; omega) (by have := hms.2; omega) (by omega) (by assumption)) dX11_sends_38 (fun H locs hH hS => ?_)
        rw [hk_up_r] at hH
        refine lv_iload_n hx hb dX11_sends_39 rfl (lv_at hl 0 rfl) ?_
        exact hk_iret hx hb hr hlocks hH hS ⟨(by simp only [F_m_sends, if_neg c_1, if_neg c_2, if_neg c_3]), rfl, (by simp only [T_m_sends, if_neg c_1, if_neg c_2, if_neg c_3])⟩ dX11_sends_40
      · refine lv_bipush (v := -2) hx hb dX11_sends_22 (by decide) ?_
        exact hk_iret hx hb hr hlocks hH hS ⟨(by simp only [F_m_sends, if_neg c_1, if_neg c_2, if_pos c_3]), rfl, (by simp only [T_m_sends, if_neg c_1, if_neg c_2, if_pos c_3])⟩ dX11_sends_24
theorem ymV_X11_isKiln : hk_mV yX11_isKiln cX11_isKiln 2 (some FieldType.boolean) RX11 1 := ⟨tw_838, tw_837, tw_19, tw_42, rfl, by decide, by decide, by decide +kernel⟩
def F_m_read (σ : hk_v) (k : Int32) (x : Int32) : Int32 := (if (hk_in k 0 (σ (0, 0) 17 - 1)) = 0 then (-1) else (if x = (-9) then σ (1, 20) k.toNatClampNeg else (if (hk_in x 0 100) = 0 then (-1) else σ (1, 20) k.toNatClampNeg)))
def T_m_read (σ : hk_v) (k : Int32) (x : Int32) : hk_v := (if (hk_in k 0 (σ (0, 0) 17 - 1)) = 0 then σ else (if x = (-9) then (hk_u σ (1, 20) k.toNatClampNeg (σ (1, 20) k.toNatClampNeg)) else (if (hk_in x 0 100) = 0 then σ else (hk_u σ (1, 20) k.toNatClampNeg x))))
set_option maxHeartbeats 4000000 in
set_option maxRecDepth 100000 in
theorem c_m_read (l : Launch) (D : hk_D) (G : hk_G) (Z : hk_Z) (τ σ : hk_v) (k : Int32) (x : Int32) (hM : hk_M G) (hms : hk_mz Z σ) : Met l yX11_read (hk_ws yX11_read cX11_read 4 (some FieldType.int)) ({ frames := 2, cells := 0, slots := 0, locals := 43 }) (hk_P D G (hk_cm τ σ) [.ref (G.1 (.inr (0, 0))), .int k, .int x]) (hk_Q D (hk_e G (some (.int (F_m_read σ k x))) (hk_cm τ (T_m_read σ k x)))) 0 0 (hk_A D) := by
  refine hk_met (by decide +kernel) (Nat.le_of_ble_eq_true rfl) (fun p e s m below meth c hx hb hr hml hlocks ht hown hin hK hH hS ls hl => ?_)
  have hl : lv_has ls 4 [(0, .ref (G.1 (.inr (0, 0)))), (1, .int k), (2, .int x)] := hl
  refine lv_aload_n hx hb dX11_read_0 rfl (lv_at hl 0 rfl) ?_
  refine lv_iload_n hx hb dX11_read_1 rfl (lv_at hl 1 rfl) ?_
  refine hk_cV (L := (.inr (0, 0))) (As := [.int k]) (rest := []) hx hb hml hl.1 ht hown hK hH hS (c_m_isKiln l D G Z τ σ k hM) ymV_X11_isKiln kc_12 hM.k0 tw_835 ⟨rfl, rfl⟩ ⟨Nat.le_of_ble_eq_true rfl, Nat.le_of_ble_eq_true rfl⟩ rfl rfl (Nat.le_of_ble_eq_true rfl) dX11_read_2 ⟨Nat.le_of_ble_eq_true rfl, Nat.le_of_ble_eq_true rfl⟩ (hk_ea (fun H locs hH hS => ?_))
  refine lv_if_eq (tgt := 24) hx hb dX11_read_5 (by decide) (fun c_1 => ?_) (fun c_1 => ?_)
  · refine lv_iconst (v := -1) hx hb dX11_read_24 (by decide) ?_
    exact hk_iret hx hb hr hlocks hH hS ⟨(by simp only [F_m_read, if_pos c_1]), rfl, (by simp only [T_m_read, if_pos c_1])⟩ dX11_read_25
  · refine lv_iload_n hx hb dX11_read_8 rfl (lv_at hl 2 rfl) ?_
    refine lv_bipush (v := -9) hx hb dX11_read_9 (by decide) ?_
    refine lv_icmp_eq (tgt := 26) hx hb dX11_read_11 (by decide) (fun c_2 => ?_) (fun c_2 => ?_)
    · refine lv_aload_n hx hb dX11_read_26 rfl (lv_at hl 0 rfl) ?_
      refine hk_getr (L := (.inr (0, 0))) (v := .ref (G.1 (.inr (1, 20)))) hx hb ht hown hK hH kc_12 hM.k0 20 (by decide) rfl tw_712 rfl hM.r20 dX11_read_27 ?_
      refine lv_iload_n hx hb dX11_read_30 rfl (lv_at hl 1 rfl) ?_
      refine hk_ild (L := (.inr (1, 20))) (v := σ (1, 20) k.toNatClampNeg) hx hb hK hH hM.k20 (hk_min (n := Z.1 2) hms.1.2.2 (by have := hms.2; omega) (by have := hms.2; omega) (by omega) (by assumption)) rfl dX11_read_31 ?_
      refine lv_istore_n (lv' := [(3, .int (σ (1, 20) k.toNatClampNeg)), (0, .ref (G.1 (.inr (0, 0)))), (1, .int k), (2, .int x)]) hx hb dX11_read_32 rfl hl (by decide) rfl (fun ls hl => ?_)
      refine lv_aload_n hx hb dX11_read_33 rfl (lv_at hl 1 rfl) ?_
      refine hk_getr (L := (.inr (0, 0))) (v := .ref (G.1 (.inr (1, 20)))) hx hb ht hown hK hH kc_12 hM.k0 20 (by decide) rfl tw_712 rfl hM.r20 dX11_read_34 ?_
      refine lv_iload_n hx hb dX11_read_37 rfl (lv_at hl 2 rfl) ?_
      refine lv_iload_n hx hb dX11_read_38 rfl (lv_at hl 3 rfl) ?_
      refine lv_bipush (v := -9) hx hb dX11_read_39 (by decide) ?_
      refine lv_icmp_ne (tgt := 48) hx hb dX11_read_41 (by decide) (fun c_3 => ?_) (fun c_3 => ?_)
      · exfalso; first | exact absurd c_3 c_2 | exact absurd c_2 c_3
      refine lv_iload_n hx hb dX11_read_44 rfl (lv_at hl 0 rfl) ?_
      refine lv_goto (tgt := 49) hx hb dX11_read_45 (by decide) ?_
      refine hk_ist (L := (.inr (1, 20))) hx hb hK hH hS hM.k20 (hk_min (n := Z.1 2) hms.1.2.2 (by have := hms.2; omega) (by have := hms.2; omega) (by omega) (by assumption)) dX11_read_49 (fun H locs hH hS => ?_)
      rw [hk_up_r] at hH
      refine lv_iload_n hx hb dX11_read_50 rfl (lv_at hl 0 rfl) ?_
      exact hk_iret hx hb hr hlocks hH hS ⟨(by simp only [F_m_read, if_neg c_1, if_pos c_2]), rfl, (by simp only [T_m_read, if_neg c_1, if_pos c_2])⟩ dX11_read_51
    · refine lv_iload_n hx hb dX11_read_14 rfl (lv_at hl 2 rfl) ?_
      refine lv_iconst (v := 0) hx hb dX11_read_15 (by decide) ?_
      refine lv_bipush (v := 100) hx hb dX11_read_16 (by decide) ?_
      refine hk_cS (As := [.int x, .int 0, .int 100]) (rest := []) hx hb hml hl.1 ht hown hK hH hS (c_isIn l D G τ σ x 0 100) ymS_X11_isIn tw_808 ⟨rfl, rfl⟩ ⟨Nat.le_of_ble_eq_true rfl, Nat.le_of_ble_eq_true rfl⟩ rfl rfl (Nat.le_of_ble_eq_true rfl) dX11_read_18 ⟨Nat.le_of_ble_eq_true rfl, Nat.le_of_ble_eq_true rfl⟩ (hk_ea (fun H locs hH hS => ?_))
      refine lv_if_ne (tgt := 26) hx hb dX11_read_21 (by decide) (fun c_4 => ?_) (fun c_4 => ?_)
      · refine lv_aload_n hx hb dX11_read_26 rfl (lv_at hl 0 rfl) ?_
        refine hk_getr (L := (.inr (0, 0))) (v := .ref (G.1 (.inr (1, 20)))) hx hb ht hown hK hH kc_12 hM.k0 20 (by decide) rfl tw_712 rfl hM.r20 dX11_read_27 ?_
        refine lv_iload_n hx hb dX11_read_30 rfl (lv_at hl 1 rfl) ?_
        refine hk_ild (L := (.inr (1, 20))) (v := σ (1, 20) k.toNatClampNeg) hx hb hK hH hM.k20 (hk_min (n := Z.1 2) hms.1.2.2 (by have := hms.2; omega) (by have := hms.2; omega) (by omega) (by assumption)) rfl dX11_read_31 ?_
        refine lv_istore_n (lv' := [(3, .int (σ (1, 20) k.toNatClampNeg)), (0, .ref (G.1 (.inr (0, 0)))), (1, .int k), (2, .int x)]) hx hb dX11_read_32 rfl hl (by decide) rfl (fun ls hl => ?_)
        refine lv_aload_n hx hb dX11_read_33 rfl (lv_at hl 1 rfl) ?_
        refine hk_getr (L := (.inr (0, 0))) (v := .ref (G.1 (.inr (1, 20)))) hx hb ht hown hK hH kc_12 hM.k0 20 (by decide) rfl tw_712 rfl hM.r20 dX11_read_34 ?_
        refine lv_iload_n hx hb dX11_read_37 rfl (lv_at hl 2 rfl) ?_
        refine lv_iload_n hx hb dX11_read_38 rfl (lv_at hl 3 rfl) ?_
        refine lv_bipush (v := -9) hx hb dX11_read_39 (by decide) ?_
        refine lv_icmp_ne (tgt := 48) hx hb dX11_read_41 (by decide) (fun c_5 => ?_) (fun c_5 => ?_)
        rotate_left
        · exfalso; first | exact absurd c_5 c_2 | exact absurd c_2 c_5
        refine lv_iload_n hx hb dX11_read_48 rfl (lv_at hl 3 rfl) ?_
        refine hk_ist (L := (.inr (1, 20))) hx hb hK hH hS hM.k20 (hk_min (n := Z.1 2) hms.1.2.2 (by have := hms.2; omega) (by have := hms.2; omega) (by omega) (by assumption)) dX11_read_49 (fun H locs hH hS => ?_)
        rw [hk_up_r] at hH
        refine lv_iload_n hx hb dX11_read_50 rfl (lv_at hl 0 rfl) ?_
        exact hk_iret hx hb hr hlocks hH hS ⟨(by simp only [F_m_read, if_neg c_1, if_neg c_2, if_neg c_4]), rfl, (by simp only [T_m_read, if_neg c_1, if_neg c_2, if_neg c_4])⟩ dX11_read_51
      · refine lv_iconst (v := -1) hx hb dX11_read_24 (by decide) ?_
        exact hk_iret hx hb hr hlocks hH hS ⟨(by simp only [F_m_read, if_neg c_1, if_neg c_2, if_pos c_4]), rfl, (by simp only [T_m_read, if_neg c_1, if_neg c_2, if_pos c_4])⟩ dX11_read_25
def F_m_dryingBy (kd : Int32) (x : Int32) : Int32 := (if kd ≤ 0 then (if 2 ≤ kd then (if ((x / 5) + 0) ≤ 20 then 2 * ((x / 5) + 0) else 40) else (x / 5) + 0) else (if x < 40 then (if 2 ≤ kd then (if ((x / 5) + 0) ≤ 20 then 2 * ((x / 5) + 0) else 40) else (x / 5) + 0) else (if 2 ≤ kd then (if ((x / 5) + 3) ≤ 20 then 2 * ((x / 5) + 3) else 40) else (x / 5) + 3)))
set_option maxHeartbeats 4000000 in
set_option maxRecDepth 100000 in
theorem c_m_dryingBy (l : Launch) (D : hk_D) (G : hk_G) (τ σ : hk_v) (kd : Int32) (x : Int32)   : Met l yX11_dryingBy (hk_ws yX11_dryingBy cX11_dryingBy 3 (some FieldType.int)) ({ frames := 0, cells := 0, slots := 0, locals := 0 }) (hk_P D G (hk_cm τ σ) [.int kd, .int x]) (hk_Q D (hk_e G (some (.int (F_m_dryingBy kd x))) (hk_cm τ σ))) 0 0 (hk_A D) := by
  refine hk_met (by decide +kernel) (Nat.le_of_ble_eq_true rfl) (fun p e s m below meth c hx hb hr hml hlocks ht hown hin hK hH hS ls hl => ?_)
  have hl : lv_has ls 3 [(0, .int kd), (1, .int x)] := hl
  refine lv_iload_n hx hb dX11_dryingBy_0 rfl (lv_at hl 1 rfl) ?_
  refine lv_iconst (v := 5) hx hb dX11_dryingBy_1 (by decide) ?_
  refine lv_idiv hx hb dX11_dryingBy_2 (by decide) ?_
  refine lv_iload_n hx hb dX11_dryingBy_3 rfl (lv_at hl 0 rfl) ?_
  refine lv_if_le (tgt := 17) hx hb dX11_dryingBy_4 (by decide) (fun c_1 => ?_) (fun c_1 => ?_)
  · refine lv_iconst (v := 0) hx hb dX11_dryingBy_17 (by decide) ?_
    refine lv_iadd hx hb dX11_dryingBy_18 ?_
    refine lv_istore_n (lv' := [(2, .int ((x / 5) + 0)), (0, .int kd), (1, .int x)]) hx hb dX11_dryingBy_19 rfl hl (by decide) rfl (fun ls hl => ?_)
    refine lv_iload_n hx hb dX11_dryingBy_20 rfl (lv_at hl 1 rfl) ?_
    refine lv_iconst (v := 2) hx hb dX11_dryingBy_21 (by decide) ?_
    refine lv_icmp_ge (tgt := 29) hx hb dX11_dryingBy_22 (by decide) (fun c_2 => ?_) (fun c_2 => ?_)
    · refine lv_iload_n hx hb dX11_dryingBy_29 rfl (lv_at hl 0 rfl) ?_
      refine lv_bipush (v := 20) hx hb dX11_dryingBy_30 (by decide) ?_
      refine lv_icmp_le (tgt := 40) hx hb dX11_dryingBy_32 (by decide) (fun c_3 => ?_) (fun c_3 => ?_)
      · refine lv_iconst (v := 2) hx hb dX11_dryingBy_40 (by decide) ?_
        refine lv_iload_n hx hb dX11_dryingBy_41 rfl (lv_at hl 0 rfl) ?_
        refine lv_imul hx hb dX11_dryingBy_42 ?_
        exact hk_iret hx hb hr hlocks hH hS ⟨(by simp only [F_m_dryingBy, if_pos c_1, if_pos c_2, if_pos c_3]), rfl, rfl⟩ dX11_dryingBy_43
      · refine lv_bipush (v := 40) hx hb dX11_dryingBy_35 (by decide) ?_
        refine lv_goto (tgt := 43) hx hb dX11_dryingBy_37 (by decide) ?_
        exact hk_iret hx hb hr hlocks hH hS ⟨(by simp only [F_m_dryingBy, if_pos c_1, if_pos c_2, if_neg c_3]), rfl, rfl⟩ dX11_dryingBy_43
    · refine lv_iload_n hx hb dX11_dryingBy_25 rfl (lv_at hl 0 rfl) ?_
      refine lv_goto (tgt := 43) hx hb dX11_dryingBy_26 (by decide) ?_
      exact hk_iret hx hb hr hlocks hH hS ⟨(by simp only [F_m_dryingBy, if_pos c_1, if_neg c_2]), rfl, rfl⟩ dX11_dryingBy_43
  · refine lv_iload_n hx hb dX11_dryingBy_7 rfl (lv_at hl 1 rfl) ?_
    refine lv_bipush (v := 40) hx hb dX11_dryingBy_8 (by decide) ?_
    refine lv_icmp_lt (tgt := 17) hx hb dX11_dryingBy_10 (by decide) (fun c_4 => ?_) (fun c_4 => ?_)
    · refine lv_iconst (v := 0) hx hb dX11_dryingBy_17 (by decide) ?_
      refine lv_iadd hx hb dX11_dryingBy_18 ?_
      refine lv_istore_n (lv' := [(2, .int ((x / 5) + 0)), (0, .int kd), (1, .int x)]) hx hb dX11_dryingBy_19 rfl hl (by decide) rfl (fun ls hl => ?_)
      refine lv_iload_n hx hb dX11_dryingBy_20 rfl (lv_at hl 1 rfl) ?_
      refine lv_iconst (v := 2) hx hb dX11_dryingBy_21 (by decide) ?_
      refine lv_icmp_ge (tgt := 29) hx hb dX11_dryingBy_22 (by decide) (fun c_5 => ?_) (fun c_5 => ?_)
      · refine lv_iload_n hx hb dX11_dryingBy_29 rfl (lv_at hl 0 rfl) ?_
        refine lv_bipush (v := 20) hx hb dX11_dryingBy_30 (by decide) ?_
        refine lv_icmp_le (tgt := 40) hx hb dX11_dryingBy_32 (by decide) (fun c_6 => ?_) (fun c_6 => ?_)
        · refine lv_iconst (v := 2) hx hb dX11_dryingBy_40 (by decide) ?_
          refine lv_iload_n hx hb dX11_dryingBy_41 rfl (lv_at hl 0 rfl) ?_
          refine lv_imul hx hb dX11_dryingBy_42 ?_
          exact hk_iret hx hb hr hlocks hH hS ⟨(by simp only [F_m_dryingBy, if_neg c_1, if_pos c_4, if_pos c_5, if_pos c_6]), rfl, rfl⟩ dX11_dryingBy_43
        · refine lv_bipush (v := 40) hx hb dX11_dryingBy_35 (by decide) ?_
          refine lv_goto (tgt := 43) hx hb dX11_dryingBy_37 (by decide) ?_
          exact hk_iret hx hb hr hlocks hH hS ⟨(by simp only [F_m_dryingBy, if_neg c_1, if_pos c_4, if_pos c_5, if_neg c_6]), rfl, rfl⟩ dX11_dryingBy_43
      · refine lv_iload_n hx hb dX11_dryingBy_25 rfl (lv_at hl 0 rfl) ?_
        refine lv_goto (tgt := 43) hx hb dX11_dryingBy_26 (by decide) ?_
        exact hk_iret hx hb hr hlocks hH hS ⟨(by simp only [F_m_dryingBy, if_neg c_1, if_pos c_4, if_neg c_5]), rfl, rfl⟩ dX11_dryingBy_43
    · refine lv_iconst (v := 3) hx hb dX11_dryingBy_13 (by decide) ?_
      refine lv_goto (tgt := 18) hx hb dX11_dryingBy_14 (by decide) ?_
      refine lv_iadd hx hb dX11_dryingBy_18 ?_
      refine lv_istore_n (lv' := [(2, .int ((x / 5) + 3)), (0, .int kd), (1, .int x)]) hx hb dX11_dryingBy_19 rfl hl (by decide) rfl (fun ls hl => ?_)
      refine lv_iload_n hx hb dX11_dryingBy_20 rfl (lv_at hl 1 rfl) ?_
      refine lv_iconst (v := 2) hx hb dX11_dryingBy_21 (by decide) ?_
      refine lv_icmp_ge (tgt := 29) hx hb dX11_dryingBy_22 (by decide) (fun c_7 => ?_) (fun c_7 => ?_)
      · refine lv_iload_n hx hb dX11_dryingBy_29 rfl (lv_at hl 0 rfl) ?_
        refine lv_bipush (v := 20) hx hb dX11_dryingBy_30 (by decide) ?_
        refine lv_icmp_le (tgt := 40) hx hb dX11_dryingBy_32 (by decide) (fun c_8 => ?_) (fun c_8 => ?_)
        · refine lv_iconst (v := 2) hx hb dX11_dryingBy_40 (by decide) ?_
          refine lv_iload_n hx hb dX11_dryingBy_41 rfl (lv_at hl 0 rfl) ?_
          refine lv_imul hx hb dX11_dryingBy_42 ?_
          exact hk_iret hx hb hr hlocks hH hS ⟨(by simp only [F_m_dryingBy, if_neg c_1, if_neg c_4, if_pos c_7, if_pos c_8]), rfl, rfl⟩ dX11_dryingBy_43
        · refine lv_bipush (v := 40) hx hb dX11_dryingBy_35 (by decide) ?_
          refine lv_goto (tgt := 43) hx hb dX11_dryingBy_37 (by decide) ?_
          exact hk_iret hx hb hr hlocks hH hS ⟨(by simp only [F_m_dryingBy, if_neg c_1, if_neg c_4, if_pos c_7, if_neg c_8]), rfl, rfl⟩ dX11_dryingBy_43
      · refine lv_iload_n hx hb dX11_dryingBy_25 rfl (lv_at hl 0 rfl) ?_
        refine lv_goto (tgt := 43) hx hb dX11_dryingBy_26 (by decide) ?_
        exact hk_iret hx hb hr hlocks hH hS ⟨(by simp only [F_m_dryingBy, if_neg c_1, if_neg c_4, if_neg c_7]), rfl, rfl⟩ dX11_dryingBy_43
def F_m_waits (σ : hk_v) (v : Int32) : Int32 := (if (hk_in v 1 24) = 0 then (-1) else σ (0, 0) 1)
def T_m_waits (σ : hk_v) (v : Int32) : hk_v := (if (hk_in v 1 24) = 0 then σ else (hk_u σ (0, 0) 1 v))
set_option maxHeartbeats 4000000 in
set_option maxRecDepth 100000 in
theorem c_m_waits (l : Launch) (D : hk_D) (G : hk_G) (Z : hk_Z) (τ σ : hk_v) (v : Int32) (hM : hk_M G)  : Met l yX11_waits (hk_ws yX11_waits cX11_waits 3 (some FieldType.int)) ({ frames := 1, cells := 0, slots := 0, locals := 22 }) (hk_P D G (hk_cm τ σ) [.ref (G.1 (.inr (0, 0))), .int v]) (hk_Q D (hk_e G (some (.int (F_m_waits σ v))) (hk_cm τ (T_m_waits σ v)))) 0 0 (hk_A D) := by
  refine hk_met (by decide +kernel) (Nat.le_of_ble_eq_true rfl) (fun p e s m below meth c hx hb hr hml hlocks ht hown hin hK hH hS ls hl => ?_)
  have hl : lv_has ls 3 [(0, .ref (G.1 (.inr (0, 0)))), (1, .int v)] := hl
  refine lv_iload_n hx hb dX11_waits_0 rfl (lv_at hl 1 rfl) ?_
  refine lv_iconst (v := 1) hx hb dX11_waits_1 (by decide) ?_
  refine lv_bipush (v := 24) hx hb dX11_waits_2 (by decide) ?_
  refine hk_cS (As := [.int v, .int 1, .int 24]) (rest := []) hx hb hml hl.1 ht hown hK hH hS (c_isIn l D G τ σ v 1 24) ymS_X11_isIn tw_808 ⟨rfl, rfl⟩ ⟨Nat.le_of_ble_eq_true rfl, Nat.le_of_ble_eq_true rfl⟩ rfl rfl (Nat.le_of_ble_eq_true rfl) dX11_waits_4 ⟨Nat.le_of_ble_eq_true rfl, Nat.le_of_ble_eq_true rfl⟩ (hk_ea (fun H locs hH hS => ?_))
  refine lv_if_ne (tgt := 12) hx hb dX11_waits_7 (by decide) (fun c_1 => ?_) (fun c_1 => ?_)
  · refine lv_aload_n hx hb dX11_waits_12 rfl (lv_at hl 0 rfl) ?_
    refine hk_geti (L := (.inr (0, 0))) (v := σ (0, 0) 1) hx hb ht hown hK hH kc_12 hM.k0 1 (by decide) rfl tw_693 rfl rfl dX11_waits_13 ?_
    refine lv_istore_n (lv' := [(2, .int (σ (0, 0) 1)), (0, .ref (G.1 (.inr (0, 0)))), (1, .int v)]) hx hb dX11_waits_16 rfl hl (by decide) rfl (fun ls hl => ?_)
    refine lv_aload_n hx hb dX11_waits_17 rfl (lv_at hl 1 rfl) ?_
    refine lv_iload_n hx hb dX11_waits_18 rfl (lv_at hl 2 rfl) ?_
    refine hk_puti (L := (.inr (0, 0))) hx hb ht hown hK hH hS kc_12 hM.k0 1 (by decide) rfl tw_693 rfl (Or.inl rfl) rfl dX11_waits_19 (fun H locs hH hS => ?_)
    rw [hk_up_r] at hH
    refine lv_iload_n hx hb dX11_waits_22 rfl (lv_at hl 0 rfl) ?_
    exact hk_iret hx hb hr hlocks hH hS ⟨(by simp only [F_m_waits, if_neg c_1]), rfl, (by simp only [T_m_waits, if_neg c_1])⟩ dX11_waits_23
  · refine lv_iconst (v := -1) hx hb dX11_waits_10 (by decide) ?_
    exact hk_iret hx hb hr hlocks hH hS ⟨(by simp only [F_m_waits, if_pos c_1]), rfl, (by simp only [T_m_waits, if_pos c_1])⟩ dX11_waits_11
def B_m_priceAt (x : Int32) (σ : hk_v) (j : Nat) (be : Int32) : Int32 := (if x < (σ (1, 30) j) then be else (if be < 0 then nI j else (if (σ (1, 30) j) < (σ (1, 30) be.toNatClampNeg) then be else nI j)))
def F_m_priceAt (σ : hk_v) (x : Int32) : Int32 := (if 0 ≤ (hk_it (B_m_priceAt x σ) ((σ (0, 0) 29).toNatClampNeg) 0 (-1)) then σ (1, 31) ((hk_it (B_m_priceAt x σ) ((σ (0, 0) 29).toNatClampNeg) 0 (-1)).toNatClampNeg) else 2)
set_option maxHeartbeats 4000000 in
set_option maxRecDepth 100000 in
theorem c_m_priceAt (l : Launch) (D : hk_D) (G : hk_G) (Z : hk_Z) (τ σ : hk_v) (x : Int32) (hM : hk_M G) (hmn : hk_mn σ 29) : Met l yX11_priceAt (hk_ws yX11_priceAt cX11_priceAt 4 (some FieldType.int)) ({ frames := 0, cells := 0, slots := 0, locals := 0 }) (hk_P D G (hk_cm τ σ) [.ref (G.1 (.inr (0, 0))), .int x]) (hk_Q D (hk_e G (some (.int (F_m_priceAt σ x))) (hk_cm τ σ))) 0 0 (hk_A D) := by
  refine hk_met (by decide +kernel) (Nat.le_of_ble_eq_true rfl) (fun p e s m below meth c hx hb hr hml hlocks ht hown hin hK hH hS ls hl => ?_)
  have hl : lv_has ls 4 [(0, .ref (G.1 (.inr (0, 0)))), (1, .int x)] := hl
  refine lv_iconst (v := -1) hx hb dX11_priceAt_0 (by decide) ?_
  refine lv_istore_n (lv' := [(2, .int (-1)), (0, .ref (G.1 (.inr (0, 0)))), (1, .int x)]) hx hb dX11_priceAt_1 rfl hl (by decide) rfl (fun ls hl => ?_)
  refine lv_iconst (v := 0) hx hb dX11_priceAt_2 (by decide) ?_
  refine lv_istore_n (lv' := [(3, .int 0), (2, .int (-1)), (0, .ref (G.1 (.inr (0, 0)))), (1, .int x)]) hx hb dX11_priceAt_3 rfl hl (by decide) rfl (fun ls hl => ?_)
  have LP_1 : ∀ (r j : Nat) (be : Int32) (H : Heap) (locs : List Loc) (ls : Array Slot) (QQ : State → Prop), j + r = (σ (0, 0) 29).toNatClampNeg → ((be < 0 ∨ ∃ b : Nat, b < j ∧ be = nI b)) → hk_H D G (hk_cm τ σ) H → va_S (hk_A D) s.heap H locs → lv_has ls 4 [(3, .int (nI j)), (2, .int be), (0, .ref (G.1 (.inr (0, 0)))), (1, .int x)] → (∀ (H : Heap) (locs : List Loc) (ls : Array Slot), hk_H D G (hk_cm τ σ) H → va_S (hk_A D) s.heap H locs → lv_has ls 4 [(3, .int (nI ((σ (0, 0) 29).toNatClampNeg))), (2, .int (hk_it (B_m_priceAt x σ) r j be)), (0, .ref (G.1 (.inr (0, 0)))), (1, .int x)] → (((hk_it (B_m_priceAt x σ) r j be) < 0 ∨ ∃ b : Nat, b < (σ (0, 0) 29).toNatClampNeg ∧ (hk_it (B_m_priceAt x σ) r j be) = nI b)) → W p l e ({ frames := 0, cells := 0, slots := 0, locals := 0 }) s m ([.ref (G.1 (.inr (0, 0))), .int x] : List Value).toArray below meth c H locs 0 0 QQ (F0 m 53 ls [])) → W p l e ({ frames := 0, cells := 0, slots := 0, locals := 0 }) s m ([.ref (G.1 (.inr (0, 0))), .int x] : List Value).toArray below meth c H locs 0 0 QQ (F0 m 4 ls []) := by
    intro r
    induction r with
    | zero =>
      intro j be H locs ls QQ hn_m_priceAt hI_m_priceAt hH hS hl kk
      have hn20 := hmn.2
      refine lv_iload_n hx hb dX11_priceAt_4 rfl (lv_at hl 0 rfl) ?_
      refine lv_aload_n hx hb dX11_priceAt_5 rfl (lv_at hl 2 rfl) ?_
      refine hk_geti (L := (.inr (0, 0))) (v := σ (0, 0) 29) hx hb ht hown hK hH kc_12 hM.k0 29 (by decide) rfl tw_721 rfl rfl dX11_priceAt_6 ?_
      refine lv_icmp_ge (tgt := 53) hx hb dX11_priceAt_9 (by decide) (fun c_2 => ?_) (fun c_2 => ?_)
      rotate_left
      · exfalso; rw [hmn.1] at c_2; first | exact nI_ge (by omega) (by omega) c_2 | exact c_2 (nI_le (by omega) (by omega)) | exact nI_nlt (by omega) (by omega) c_2 | exact c_2 (nI_lt (by omega) (by omega))
      have hiN : j = (σ (0, 0) 29).toNatClampNeg := by omega
      rw [hiN] at hl hI_m_priceAt
      exact kk H locs ls hH hS (lv_sub hl [0, 1, 2, 3] rfl) hI_m_priceAt
    | succ r ih =>
      intro j be H locs ls QQ hn_m_priceAt hI_m_priceAt hH hS hl kk
      have hn20 := hmn.2
      refine lv_iload_n hx hb dX11_priceAt_4 rfl (lv_at hl 0 rfl) ?_
      refine lv_aload_n hx hb dX11_priceAt_5 rfl (lv_at hl 2 rfl) ?_
      refine hk_geti (L := (.inr (0, 0))) (v := σ (0, 0) 29) hx hb ht hown hK hH kc_12 hM.k0 29 (by decide) rfl tw_721 rfl rfl dX11_priceAt_6 ?_
      refine lv_icmp_ge (tgt := 53) hx hb dX11_priceAt_9 (by decide) (fun c_3 => ?_) (fun c_3 => ?_)
      · exfalso; rw [hmn.1] at c_3; first | exact nI_ge (by omega) (by omega) c_3 | exact c_3 (nI_le (by omega) (by omega)) | exact nI_nlt (by omega) (by omega) c_3 | exact c_3 (nI_lt (by omega) (by omega))
      refine lv_aload_n hx hb dX11_priceAt_12 rfl (lv_at hl 2 rfl) ?_
      refine hk_getr (L := (.inr (0, 0))) (v := .ref (G.1 (.inr (1, 30)))) hx hb ht hown hK hH kc_12 hM.k0 30 (by decide) rfl tw_722 rfl hM.r30 dX11_priceAt_13 ?_
      refine lv_iload_n hx hb dX11_priceAt_16 rfl (lv_at hl 0 rfl) ?_
      refine hk_ild (L := (.inr (1, 30))) (v := σ (1, 30) j) hx hb hK hH hM.k30 (vp_in_nI (by omega) (by omega)) (by rw [nI_clamp (by omega)]; rfl) dX11_priceAt_17 ?_
      refine lv_iload_n hx hb dX11_priceAt_18 rfl (lv_at hl 3 rfl) ?_
      refine lv_icmp_gt (tgt := 45) hx hb dX11_priceAt_19 (by decide) (fun c_4 => ?_) (fun c_4 => ?_)
      · refine lv_iload_n hx hb dX11_priceAt_45 rfl (lv_at hl 1 rfl) ?_
        refine lv_istore_n (lv' := [(2, .int be), (3, .int (nI j)), (0, .ref (G.1 (.inr (0, 0)))), (1, .int x)]) hx hb dX11_priceAt_46 rfl hl (by decide) rfl (fun ls hl => ?_)
        refine lv_iinc (v := nI (j + 1)) (lv' := [(3, .int (nI (j + 1))), (2, .int be), (0, .ref (G.1 (.inr (0, 0)))), (1, .int x)]) hx hb dX11_priceAt_47 hl (k := 1) rfl (nI_1 _) (by decide) rfl (fun ls hl => ?_)
        refine lv_goto (tgt := 4) hx hb dX11_priceAt_50 (by decide) ?_
        have EB_5 : (B_m_priceAt x σ) j be = be := by simp only [B_m_priceAt, if_pos c_4]
        have hI2 : ((be < 0 ∨ ∃ b : Nat, b < (j + 1) ∧ be = nI b)) := by
          first | exact Or.inr ⟨j, by omega, rfl⟩ | (rcases hI_m_priceAt with h9 | ⟨b, hb9, h9⟩; (exact Or.inl h9); exact Or.inr ⟨b, by omega, h9⟩)
        exact ih (j + 1) be _ _ _ QQ (by omega) hI2 hH hS (lv_sub hl [0, 1, 2, 3] rfl) (fun H locs ls hH hS hl hI_m_priceAt => kk H locs ls hH hS (by rw [hk_it_s, EB_5]; exact hl) (by first | exact hI_m_priceAt | (rw [hk_it_s, EB_5]; exact hI_m_priceAt)))
      · refine lv_iload_n hx hb dX11_priceAt_22 rfl (lv_at hl 1 rfl) ?_
        refine lv_if_lt (tgt := 41) hx hb dX11_priceAt_23 (by decide) (fun c_6 => ?_) (fun c_6 => ?_)
        · refine lv_iload_n hx hb dX11_priceAt_41 rfl (lv_at hl 0 rfl) ?_
          refine lv_goto (tgt := 46) hx hb dX11_priceAt_42 (by decide) ?_
          refine lv_istore_n (lv' := [(2, .int (nI j)), (3, .int (nI j)), (0, .ref (G.1 (.inr (0, 0)))), (1, .int x)]) hx hb dX11_priceAt_46 rfl hl (by decide) rfl (fun ls hl => ?_)
          refine lv_iinc (v := nI (j + 1)) (lv' := [(3, .int (nI (j + 1))), (2, .int (nI j)), (0, .ref (G.1 (.inr (0, 0)))), (1, .int x)]) hx hb dX11_priceAt_47 hl (k := 1) rfl (nI_1 _) (by decide) rfl (fun ls hl => ?_)
          refine lv_goto (tgt := 4) hx hb dX11_priceAt_50 (by decide) ?_
          have EB_7 : (B_m_priceAt x σ) j be = nI j := by simp only [B_m_priceAt, if_neg c_4, if_pos c_6]
          have hI2 : ((nI j < 0 ∨ ∃ b : Nat, b < (j + 1) ∧ nI j = nI b)) := by
            first | exact Or.inr ⟨j, by omega, rfl⟩ | (rcases hI_m_priceAt with h9 | ⟨b, hb9, h9⟩; (exact Or.inl h9); exact Or.inr ⟨b, by omega, h9⟩)
          exact ih (j + 1) (nI j) _ _ _ QQ (by omega) hI2 hH hS (lv_sub hl [0, 1, 2, 3] rfl) (fun H locs ls hH hS hl hI_m_priceAt => kk H locs ls hH hS (by rw [hk_it_s, EB_7]; exact hl) (by first | exact hI_m_priceAt | (rw [hk_it_s, EB_7]; exact hI_m_priceAt)))
        · refine lv_aload_n hx hb dX11_priceAt_26 rfl (lv_at hl 2 rfl) ?_
          refine hk_getr (L := (.inr (0, 0))) (v := .ref (G.1 (.inr (1, 30)))) hx hb ht hown hK hH kc_12 hM.k0 30 (by decide) rfl tw_722 rfl hM.r30 dX11_priceAt_27 ?_
          refine lv_iload_n hx hb dX11_priceAt_30 rfl (lv_at hl 0 rfl) ?_
          refine hk_ild (L := (.inr (1, 30))) (v := σ (1, 30) j) hx hb hK hH hM.k30 (vp_in_nI (by omega) (by omega)) (by rw [nI_clamp (by omega)]; rfl) dX11_priceAt_31 ?_
          refine lv_aload_n hx hb dX11_priceAt_32 rfl (lv_at hl 2 rfl) ?_
          refine hk_getr (L := (.inr (0, 0))) (v := .ref (G.1 (.inr (1, 30)))) hx hb ht hown hK hH kc_12 hM.k0 30 (by decide) rfl tw_722 rfl hM.r30 dX11_priceAt_33 ?_
          refine lv_iload_n hx hb dX11_priceAt_36 rfl (lv_at hl 1 rfl) ?_
          refine hk_ild (L := (.inr (1, 30))) (v := σ (1, 30) be.toNatClampNeg) hx hb hK hH hM.k30 (by rcases hI_m_priceAt with h9 | ⟨b, hb9, h9⟩; (exact absurd h9 (by assumption)); (rw [h9]; exact vp_in_nI (by omega) (by omega))) rfl dX11_priceAt_37 ?_
          refine lv_icmp_lt (tgt := 45) hx hb dX11_priceAt_38 (by decide) (fun c_8 => ?_) (fun c_8 => ?_)
          · refine lv_iload_n hx hb dX11_priceAt_45 rfl (lv_at hl 1 rfl) ?_
            refine lv_istore_n (lv' := [(2, .int be), (3, .int (nI j)), (0, .ref (G.1 (.inr (0, 0)))), (1, .int x)]) hx hb dX11_priceAt_46 rfl hl (by decide) rfl (fun ls hl => ?_)
            refine lv_iinc (v := nI (j + 1)) (lv' := [(3, .int (nI (j + 1))), (2, .int be), (0, .ref (G.1 (.inr (0, 0)))), (1, .int x)]) hx hb dX11_priceAt_47 hl (k := 1) rfl (nI_1 _) (by decide) rfl (fun ls hl => ?_)
            refine lv_goto (tgt := 4) hx hb dX11_priceAt_50 (by decide) ?_
            have EB_9 : (B_m_priceAt x σ) j be = be := by simp only [B_m_priceAt, if_neg c_4, if_neg c_6, if_pos c_8]
            have hI2 : ((be < 0 ∨ ∃ b : Nat, b < (j + 1) ∧ be = nI b)) := by
              first | exact Or.inr ⟨j, by omega, rfl⟩ | (rcases hI_m_priceAt with h9 | ⟨b, hb9, h9⟩; (exact Or.inl h9); exact Or.inr ⟨b, by omega, h9⟩)
            exact ih (j + 1) be _ _ _ QQ (by omega) hI2 hH hS (lv_sub hl [0, 1, 2, 3] rfl) (fun H locs ls hH hS hl hI_m_priceAt => kk H locs ls hH hS (by rw [hk_it_s, EB_9]; exact hl) (by first | exact hI_m_priceAt | (rw [hk_it_s, EB_9]; exact hI_m_priceAt)))
          · refine lv_iload_n hx hb dX11_priceAt_41 rfl (lv_at hl 0 rfl) ?_
            refine lv_goto (tgt := 46) hx hb dX11_priceAt_42 (by decide) ?_
            refine lv_istore_n (lv' := [(2, .int (nI j)), (3, .int (nI j)), (0, .ref (G.1 (.inr (0, 0)))), (1, .int x)]) hx hb dX11_priceAt_46 rfl hl (by decide) rfl (fun ls hl => ?_)
            refine lv_iinc (v := nI (j + 1)) (lv' := [(3, .int (nI (j + 1))), (2, .int (nI j)), (0, .ref (G.1 (.inr (0, 0)))), (1, .int x)]) hx hb dX11_priceAt_47 hl (k := 1) rfl (nI_1 _) (by decide) rfl (fun ls hl => ?_)
            refine lv_goto (tgt := 4) hx hb dX11_priceAt_50 (by decide) ?_
            have EB_10 : (B_m_priceAt x σ) j be = nI j := by simp only [B_m_priceAt, if_neg c_4, if_neg c_6, if_neg c_8]
            have hI2 : ((nI j < 0 ∨ ∃ b : Nat, b < (j + 1) ∧ nI j = nI b)) := by
              first | exact Or.inr ⟨j, by omega, rfl⟩ | (rcases hI_m_priceAt with h9 | ⟨b, hb9, h9⟩; (exact Or.inl h9); exact Or.inr ⟨b, by omega, h9⟩)
            exact ih (j + 1) (nI j) _ _ _ QQ (by omega) hI2 hH hS (lv_sub hl [0, 1, 2, 3] rfl) (fun H locs ls hH hS hl hI_m_priceAt => kk H locs ls hH hS (by rw [hk_it_s, EB_10]; exact hl) (by first | exact hI_m_priceAt | (rw [hk_it_s, EB_10]; exact hI_m_priceAt)))
  refine LP_1 ((σ (0, 0) 29).toNatClampNeg) 0 (-1) _ _ _ _ (by omega) (Or.inl (by decide)) hH hS (lv_sub hl [0, 1, 2, 3] rfl) (fun H locs ls hH hS hl hI_m_priceAt => ?_)
  refine lv_iload_n hx hb dX11_priceAt_53 rfl (lv_at hl 1 rfl) ?_
  refine lv_if_ge (tgt := 61) hx hb dX11_priceAt_54 (by decide) (fun c_11 => ?_) (fun c_11 => ?_)
  · refine lv_aload_n hx hb dX11_priceAt_61 rfl (lv_at hl 2 rfl) ?_
    refine hk_getr (L := (.inr (0, 0))) (v := .ref (G.1 (.inr (1, 31)))) hx hb ht hown hK hH kc_12 hM.k0 31 (by decide) rfl tw_723 rfl hM.r31 dX11_priceAt_62 ?_
    refine lv_iload_n hx hb dX11_priceAt_65 rfl (lv_at hl 1 rfl) ?_
    refine hk_ild (L := (.inr (1, 31))) (v := σ (1, 31) ((hk_it (B_m_priceAt x σ) ((σ (0, 0) 29).toNatClampNeg) 0 (-1)).toNatClampNeg)) hx hb hK hH hM.k31 (by have hn20 := hmn.2; rcases hI_m_priceAt with h9 | ⟨b, hb9, h9⟩; (exact absurd (by assumption) (Int32.not_le.mpr h9)); (rw [h9]; exact vp_in_nI (by omega) (by omega))) rfl dX11_priceAt_66 ?_
    exact hk_iret hx hb hr hlocks hH hS ⟨(by simp only [F_m_priceAt, if_pos c_11]), rfl, rfl⟩ dX11_priceAt_67
  · refine lv_iconst (v := 2) hx hb dX11_priceAt_57 (by decide) ?_
    refine lv_goto (tgt := 67) hx hb dX11_priceAt_58 (by decide) ?_
    exact hk_iret hx hb hr hlocks hH hS ⟨(by simp only [F_m_priceAt, if_neg c_11]), rfl, rfl⟩ dX11_priceAt_67
def B_m_dutyOn (x : Int32) (σ : hk_v) (j : Nat) (be : Int32) : Int32 := (if x < (σ (1, 33) j) then be else (if be < 0 then nI j else (if (σ (1, 33) j) < (σ (1, 33) be.toNatClampNeg) then be else nI j)))
def F_m_dutyOn (σ : hk_v) (x : Int32) : Int32 := (if 0 ≤ (hk_it (B_m_dutyOn x σ) ((σ (0, 0) 32).toNatClampNeg) 0 (-1)) then σ (1, 34) ((hk_it (B_m_dutyOn x σ) ((σ (0, 0) 32).toNatClampNeg) 0 (-1)).toNatClampNeg) else 0)
set_option maxHeartbeats 4000000 in
set_option maxRecDepth 100000 in
theorem c_m_dutyOn (l : Launch) (D : hk_D) (G : hk_G) (Z : hk_Z) (τ σ : hk_v) (x : Int32) (hM : hk_M G) (hmn : hk_mn σ 32) : Met l yX11_dutyOn (hk_ws yX11_dutyOn cX11_dutyOn 4 (some FieldType.int)) ({ frames := 0, cells := 0, slots := 0, locals := 0 }) (hk_P D G (hk_cm τ σ) [.ref (G.1 (.inr (0, 0))), .int x]) (hk_Q D (hk_e G (some (.int (F_m_dutyOn σ x))) (hk_cm τ σ))) 0 0 (hk_A D) := by
  refine hk_met (by decide +kernel) (Nat.le_of_ble_eq_true rfl) (fun p e s m below meth c hx hb hr hml hlocks ht hown hin hK hH hS ls hl => ?_)
  have hl : lv_has ls 4 [(0, .ref (G.1 (.inr (0, 0)))), (1, .int x)] := hl
  refine lv_iconst (v := -1) hx hb dX11_dutyOn_0 (by decide) ?_
  refine lv_istore_n (lv' := [(2, .int (-1)), (0, .ref (G.1 (.inr (0, 0)))), (1, .int x)]) hx hb dX11_dutyOn_1 rfl hl (by decide) rfl (fun ls hl => ?_)
  refine lv_iconst (v := 0) hx hb dX11_dutyOn_2 (by decide) ?_
  refine lv_istore_n (lv' := [(3, .int 0), (2, .int (-1)), (0, .ref (G.1 (.inr (0, 0)))), (1, .int x)]) hx hb dX11_dutyOn_3 rfl hl (by decide) rfl (fun ls hl => ?_)
  have LP_1 : ∀ (r j : Nat) (be : Int32) (H : Heap) (locs : List Loc) (ls : Array Slot) (QQ : State → Prop), j + r = (σ (0, 0) 32).toNatClampNeg → ((be < 0 ∨ ∃ b : Nat, b < j ∧ be = nI b)) → hk_H D G (hk_cm τ σ) H → va_S (hk_A D) s.heap H locs → lv_has ls 4 [(3, .int (nI j)), (2, .int be), (0, .ref (G.1 (.inr (0, 0)))), (1, .int x)] → (∀ (H : Heap) (locs : List Loc) (ls : Array Slot), hk_H D G (hk_cm τ σ) H → va_S (hk_A D) s.heap H locs → lv_has ls 4 [(3, .int (nI ((σ (0, 0) 32).toNatClampNeg))), (2, .int (hk_it (B_m_dutyOn x σ) r j be)), (0, .ref (G.1 (.inr (0, 0)))), (1, .int x)] → (((hk_it (B_m_dutyOn x σ) r j be) < 0 ∨ ∃ b : Nat, b < (σ (0, 0) 32).toNatClampNeg ∧ (hk_it (B_m_dutyOn x σ) r j be) = nI b)) → W p l e ({ frames := 0, cells := 0, slots := 0, locals := 0 }) s m ([.ref (G.1 (.inr (0, 0))), .int x] : List Value).toArray below meth c H locs 0 0 QQ (F0 m 53 ls [])) → W p l e ({ frames := 0, cells := 0, slots := 0, locals := 0 }) s m ([.ref (G.1 (.inr (0, 0))), .int x] : List Value).toArray below meth c H locs 0 0 QQ (F0 m 4 ls []) := by
    intro r
    induction r with
    | zero =>
      intro j be H locs ls QQ hn_m_dutyOn hI_m_dutyOn hH hS hl kk
      have hn20 := hmn.2
      refine lv_iload_n hx hb dX11_dutyOn_4 rfl (lv_at hl 0 rfl) ?_
      refine lv_aload_n hx hb dX11_dutyOn_5 rfl (lv_at hl 2 rfl) ?_
      refine hk_geti (L := (.inr (0, 0))) (v := σ (0, 0) 32) hx hb ht hown hK hH kc_12 hM.k0 32 (by decide) rfl tw_724 rfl rfl dX11_dutyOn_6 ?_
      refine lv_icmp_ge (tgt := 53) hx hb dX11_dutyOn_9 (by decide) (fun c_2 => ?_) (fun c_2 => ?_)
      rotate_left
      · exfalso; rw [hmn.1] at c_2; first | exact nI_ge (by omega) (by omega) c_2 | exact c_2 (nI_le (by omega) (by omega)) | exact nI_nlt (by omega) (by omega) c_2 | exact c_2 (nI_lt (by omega) (by omega))
      have hiN : j = (σ (0, 0) 32).toNatClampNeg := by omega
      rw [hiN] at hl hI_m_dutyOn
      exact kk H locs ls hH hS (lv_sub hl [0, 1, 2, 3] rfl) hI_m_dutyOn
    | succ r ih =>
      intro j be H locs ls QQ hn_m_dutyOn hI_m_dutyOn hH hS hl kk
      have hn20 := hmn.2
      refine lv_iload_n hx hb dX11_dutyOn_4 rfl (lv_at hl 0 rfl) ?_
      refine lv_aload_n hx hb dX11_dutyOn_5 rfl (lv_at hl 2 rfl) ?_
      refine hk_geti (L := (.inr (0, 0))) (v := σ (0, 0) 32) hx hb ht hown hK hH kc_12 hM.k0 32 (by decide) rfl tw_724 rfl rfl dX11_dutyOn_6 ?_
      refine lv_icmp_ge (tgt := 53) hx hb dX11_dutyOn_9 (by decide) (fun c_3 => ?_) (fun c_3 => ?_)
      · exfalso; rw [hmn.1] at c_3; first | exact nI_ge (by omega) (by omega) c_3 | exact c_3 (nI_le (by omega) (by omega)) | exact nI_nlt (by omega) (by omega) c_3 | exact c_3 (nI_lt (by omega) (by omega))
      refine lv_aload_n hx hb dX11_dutyOn_12 rfl (lv_at hl 2 rfl) ?_
      refine hk_getr (L := (.inr (0, 0))) (v := .ref (G.1 (.inr (1, 33)))) hx hb ht hown hK hH kc_12 hM.k0 33 (by decide) rfl tw_725 rfl hM.r33 dX11_dutyOn_13 ?_
      refine lv_iload_n hx hb dX11_dutyOn_16 rfl (lv_at hl 0 rfl) ?_
      refine hk_ild (L := (.inr (1, 33))) (v := σ (1, 33) j) hx hb hK hH hM.k33 (vp_in_nI (by omega) (by omega)) (by rw [nI_clamp (by omega)]; rfl) dX11_dutyOn_17 ?_
      refine lv_iload_n hx hb dX11_dutyOn_18 rfl (lv_at hl 3 rfl) ?_
      refine lv_icmp_gt (tgt := 45) hx hb dX11_dutyOn_19 (by decide) (fun c_4 => ?_) (fun c_4 => ?_)
      · refine lv_iload_n hx hb dX11_dutyOn_45 rfl (lv_at hl 1 rfl) ?_
        refine lv_istore_n (lv' := [(2, .int be), (3, .int (nI j)), (0, .ref (G.1 (.inr (0, 0)))), (1, .int x)]) hx hb dX11_dutyOn_46 rfl hl (by decide) rfl (fun ls hl => ?_)
        refine lv_iinc (v := nI (j + 1)) (lv' := [(3, .int (nI (j + 1))), (2, .int be), (0, .ref (G.1 (.inr (0, 0)))), (1, .int x)]) hx hb dX11_dutyOn_47 hl (k := 1) rfl (nI_1 _) (by decide) rfl (fun ls hl => ?_)
        refine lv_goto (tgt := 4) hx hb dX11_dutyOn_50 (by decide) ?_
        have EB_5 : (B_m_dutyOn x σ) j be = be := by simp only [B_m_dutyOn, if_pos c_4]
        have hI2 : ((be < 0 ∨ ∃ b : Nat, b < (j + 1) ∧ be = nI b)) := by
          first | exact Or.inr ⟨j, by omega, rfl⟩ | (rcases hI_m_dutyOn with h9 | ⟨b, hb9, h9⟩; (exact Or.inl h9); exact Or.inr ⟨b, by omega, h9⟩)
        exact ih (j + 1) be _ _ _ QQ (by omega) hI2 hH hS (lv_sub hl [0, 1, 2, 3] rfl) (fun H locs ls hH hS hl hI_m_dutyOn => kk H locs ls hH hS (by rw [hk_it_s, EB_5]; exact hl) (by first | exact hI_m_dutyOn | (rw [hk_it_s, EB_5]; exact hI_m_dutyOn)))
      · refine lv_iload_n hx hb dX11_dutyOn_22 rfl (lv_at hl 1 rfl) ?_
        refine lv_if_lt (tgt := 41) hx hb dX11_dutyOn_23 (by decide) (fun c_6 => ?_) (fun c_6 => ?_)
        · refine lv_iload_n hx hb dX11_dutyOn_41 rfl (lv_at hl 0 rfl) ?_
          refine lv_goto (tgt := 46) hx hb dX11_dutyOn_42 (by decide) ?_
          refine lv_istore_n (lv' := [(2, .int (nI j)), (3, .int (nI j)), (0, .ref (G.1 (.inr (0, 0)))), (1, .int x)]) hx hb dX11_dutyOn_46 rfl hl (by decide) rfl (fun ls hl => ?_)
          refine lv_iinc (v := nI (j + 1)) (lv' := [(3, .int (nI (j + 1))), (2, .int (nI j)), (0, .ref (G.1 (.inr (0, 0)))), (1, .int x)]) hx hb dX11_dutyOn_47 hl (k := 1) rfl (nI_1 _) (by decide) rfl (fun ls hl => ?_)
          refine lv_goto (tgt := 4) hx hb dX11_dutyOn_50 (by decide) ?_
          have EB_7 : (B_m_dutyOn x σ) j be = nI j := by simp only [B_m_dutyOn, if_neg c_4, if_pos c_6]
          have hI2 : ((nI j < 0 ∨ ∃ b : Nat, b < (j + 1) ∧ nI j = nI b)) := by
            first | exact Or.inr ⟨j, by omega, rfl⟩ | (rcases hI_m_dutyOn with h9 | ⟨b, hb9, h9⟩; (exact Or.inl h9); exact Or.inr ⟨b, by omega, h9⟩)
          exact ih (j + 1) (nI j) _ _ _ QQ (by omega) hI2 hH hS (lv_sub hl [0, 1, 2, 3] rfl) (fun H locs ls hH hS hl hI_m_dutyOn => kk H locs ls hH hS (by rw [hk_it_s, EB_7]; exact hl) (by first | exact hI_m_dutyOn | (rw [hk_it_s, EB_7]; exact hI_m_dutyOn)))
        · refine lv_aload_n hx hb dX11_dutyOn_26 rfl (lv_at hl 2 rfl) ?_
          refine hk_getr (L := (.inr (0, 0))) (v := .ref (G.1 (.inr (1, 33)))) hx hb ht hown hK hH kc_12 hM.k0 33 (by decide) rfl tw_725 rfl hM.r33 dX11_dutyOn_27 ?_
          refine lv_iload_n hx hb dX11_dutyOn_30 rfl (lv_at hl 0 rfl) ?_
          refine hk_ild (L := (.inr (1, 33))) (v := σ (1, 33) j) hx hb hK hH hM.k33 (vp_in_nI (by omega) (by omega)) (by rw [nI_clamp (by omega)]; rfl) dX11_dutyOn_31 ?_
          refine lv_aload_n hx hb dX11_dutyOn_32 rfl (lv_at hl 2 rfl) ?_
          refine hk_getr (L := (.inr (0, 0))) (v := .ref (G.1 (.inr (1, 33)))) hx hb ht hown hK hH kc_12 hM.k0 33 (by decide) rfl tw_725 rfl hM.r33 dX11_dutyOn_33 ?_
          refine lv_iload_n hx hb dX11_dutyOn_36 rfl (lv_at hl 1 rfl) ?_
          refine hk_ild (L := (.inr (1, 33))) (v := σ (1, 33) be.toNatClampNeg) hx hb hK hH hM.k33 (by rcases hI_m_dutyOn with h9 | ⟨b, hb9, h9⟩; (exact absurd h9 (by assumption)); (rw [h9]; exact vp_in_nI (by omega) (by omega))) rfl dX11_dutyOn_37 ?_
          refine lv_icmp_lt (tgt := 45) hx hb dX11_dutyOn_38 (by decide) (fun c_8 => ?_) (fun c_8 => ?_)
          · refine lv_iload_n hx hb dX11_dutyOn_45 rfl (lv_at hl 1 rfl) ?_
            refine lv_istore_n (lv' := [(2, .int be), (3, .int (nI j)), (0, .ref (G.1 (.inr (0, 0)))), (1, .int x)]) hx hb dX11_dutyOn_46 rfl hl (by decide) rfl (fun ls hl => ?_)
            refine lv_iinc (v := nI (j + 1)) (lv' := [(3, .int (nI (j + 1))), (2, .int be), (0, .ref (G.1 (.inr (0, 0)))), (1, .int x)]) hx hb dX11_dutyOn_47 hl (k := 1) rfl (nI_1 _) (by decide) rfl (fun ls hl => ?_)
            refine lv_goto (tgt := 4) hx hb dX11_dutyOn_50 (by decide) ?_
            have EB_9 : (B_m_dutyOn x σ) j be = be := by simp only [B_m_dutyOn, if_neg c_4, if_neg c_6, if_pos c_8]
            have hI2 : ((be < 0 ∨ ∃ b : Nat, b < (j + 1) ∧ be = nI b)) := by
              first | exact Or.inr ⟨j, by omega, rfl⟩ | (rcases hI_m_dutyOn with h9 | ⟨b, hb9, h9⟩; (exact Or.inl h9); exact Or.inr ⟨b, by omega, h9⟩)
            exact ih (j + 1) be _ _ _ QQ (by omega) hI2 hH hS (lv_sub hl [0, 1, 2, 3] rfl) (fun H locs ls hH hS hl hI_m_dutyOn => kk H locs ls hH hS (by rw [hk_it_s, EB_9]; exact hl) (by first | exact hI_m_dutyOn | (rw [hk_it_s, EB_9]; exact hI_m_dutyOn)))
          · refine lv_iload_n hx hb dX11_dutyOn_41 rfl (lv_at hl 0 rfl) ?_
            refine lv_goto (tgt := 46) hx hb dX11_dutyOn_42 (by decide) ?_
            refine lv_istore_n (lv' := [(2, .int (nI j)), (3, .int (nI j)), (0, .ref (G.1 (.inr (0, 0)))), (1, .int x)]) hx hb dX11_dutyOn_46 rfl hl (by decide) rfl (fun ls hl => ?_)
            refine lv_iinc (v := nI (j + 1)) (lv' := [(3, .int (nI (j + 1))), (2, .int (nI j)), (0, .ref (G.1 (.inr (0, 0)))), (1, .int x)]) hx hb dX11_dutyOn_47 hl (k := 1) rfl (nI_1 _) (by decide) rfl (fun ls hl => ?_)
            refine lv_goto (tgt := 4) hx hb dX11_dutyOn_50 (by decide) ?_
            have EB_10 : (B_m_dutyOn x σ) j be = nI j := by simp only [B_m_dutyOn, if_neg c_4, if_neg c_6, if_neg c_8]
            have hI2 : ((nI j < 0 ∨ ∃ b : Nat, b < (j + 1) ∧ nI j = nI b)) := by
              first | exact Or.inr ⟨j, by omega, rfl⟩ | (rcases hI_m_dutyOn with h9 | ⟨b, hb9, h9⟩; (exact Or.inl h9); exact Or.inr ⟨b, by omega, h9⟩)
            exact ih (j + 1) (nI j) _ _ _ QQ (by omega) hI2 hH hS (lv_sub hl [0, 1, 2, 3] rfl) (fun H locs ls hH hS hl hI_m_dutyOn => kk H locs ls hH hS (by rw [hk_it_s, EB_10]; exact hl) (by first | exact hI_m_dutyOn | (rw [hk_it_s, EB_10]; exact hI_m_dutyOn)))
  refine LP_1 ((σ (0, 0) 32).toNatClampNeg) 0 (-1) _ _ _ _ (by omega) (Or.inl (by decide)) hH hS (lv_sub hl [0, 1, 2, 3] rfl) (fun H locs ls hH hS hl hI_m_dutyOn => ?_)
  refine lv_iload_n hx hb dX11_dutyOn_53 rfl (lv_at hl 1 rfl) ?_
  refine lv_if_ge (tgt := 61) hx hb dX11_dutyOn_54 (by decide) (fun c_11 => ?_) (fun c_11 => ?_)
  · refine lv_aload_n hx hb dX11_dutyOn_61 rfl (lv_at hl 2 rfl) ?_
    refine hk_getr (L := (.inr (0, 0))) (v := .ref (G.1 (.inr (1, 34)))) hx hb ht hown hK hH kc_12 hM.k0 34 (by decide) rfl tw_726 rfl hM.r34 dX11_dutyOn_62 ?_
    refine lv_iload_n hx hb dX11_dutyOn_65 rfl (lv_at hl 1 rfl) ?_
    refine hk_ild (L := (.inr (1, 34))) (v := σ (1, 34) ((hk_it (B_m_dutyOn x σ) ((σ (0, 0) 32).toNatClampNeg) 0 (-1)).toNatClampNeg)) hx hb hK hH hM.k34 (by have hn20 := hmn.2; rcases hI_m_dutyOn with h9 | ⟨b, hb9, h9⟩; (exact absurd (by assumption) (Int32.not_le.mpr h9)); (rw [h9]; exact vp_in_nI (by omega) (by omega))) rfl dX11_dutyOn_66 ?_
    exact hk_iret hx hb hr hlocks hH hS ⟨(by simp only [F_m_dutyOn, if_pos c_11]), rfl, rfl⟩ dX11_dutyOn_67
  · refine lv_iconst (v := 0) hx hb dX11_dutyOn_57 (by decide) ?_
    refine lv_goto (tgt := 67) hx hb dX11_dutyOn_58 (by decide) ?_
    exact hk_iret hx hb hr hlocks hH hS ⟨(by simp only [F_m_dutyOn, if_neg c_11]), rfl, rfl⟩ dX11_dutyOn_67
