def F_m_isRipe (σ : hk_v) (g : Int32) (day : Int32) : Int32 := hk_in day (σ (1, 4) g.toNatClampNeg) (σ (1, 5) g.toNatClampNeg)
set_option maxHeartbeats 4000000 in
set_option maxRecDepth 100000 in
theorem c_m_isRipe (l : Launch) (D : hk_D) (G : hk_G) (Z : hk_Z) (τ σ : hk_v) (g : Int32) (day : Int32) (hM : hk_M G) (hv6 : vp_in g 6) : Met l yX11_isRipe (hk_ws yX11_isRipe cX11_isRipe 3 (some FieldType.boolean)) ({ frames := 1, cells := 0, slots := 0, locals := 22 }) (hk_P D G (hk_cm τ σ) [.ref (G.1 (.inr (0, 0))), .int g, .int day]) (hk_Q D (hk_e G (some (.int (F_m_isRipe σ g day))) (hk_cm τ σ))) 0 0 (hk_A D) := by
  refine hk_met (by decide +kernel) (Nat.le_of_ble_eq_true rfl) (fun p e s m below meth c hx hb hr hml hlocks ht hown hin hK hH hS ls hl => ?_)
  have hl : lv_has ls 3 [(0, .ref (G.1 (.inr (0, 0)))), (1, .int g), (2, .int day)] := hl
  refine lv_iload_n hx hb dX11_isRipe_0 rfl (lv_at hl 2 rfl) ?_
  refine lv_aload_n hx hb dX11_isRipe_1 rfl (lv_at hl 0 rfl) ?_
  refine hk_getr (L := (.inr (0, 0))) (v := .ref (G.1 (.inr (1, 4)))) hx hb ht hown hK hH kc_12 hM.k0 4 (by decide) rfl tw_696 rfl hM.r4 dX11_isRipe_2 ?_
  refine lv_iload_n hx hb dX11_isRipe_5 rfl (lv_at hl 1 rfl) ?_
  refine hk_ild (L := (.inr (1, 4))) (v := σ (1, 4) g.toNatClampNeg) hx hb hK hH hM.k4 hv6 rfl dX11_isRipe_6 ?_
  refine lv_aload_n hx hb dX11_isRipe_7 rfl (lv_at hl 0 rfl) ?_
  refine hk_getr (L := (.inr (0, 0))) (v := .ref (G.1 (.inr (1, 5)))) hx hb ht hown hK hH kc_12 hM.k0 5 (by decide) rfl tw_697 rfl hM.r5 dX11_isRipe_8 ?_
  refine lv_iload_n hx hb dX11_isRipe_11 rfl (lv_at hl 1 rfl) ?_
  refine hk_ild (L := (.inr (1, 5))) (v := σ (1, 5) g.toNatClampNeg) hx hb hK hH hM.k5 hv6 rfl dX11_isRipe_12 ?_
  refine hk_cS (As := [.int day, .int (σ (1, 4) g.toNatClampNeg), .int (σ (1, 5) g.toNatClampNeg)]) (rest := []) hx hb hml hl.1 ht hown hK hH hS (c_isIn l D G τ σ day (σ (1, 4) g.toNatClampNeg) (σ (1, 5) g.toNatClampNeg)) ymS_X11_isIn tw_808 ⟨rfl, rfl⟩ ⟨Nat.le_of_ble_eq_true rfl, Nat.le_of_ble_eq_true rfl⟩ rfl rfl (Nat.le_of_ble_eq_true rfl) dX11_isRipe_13 ⟨Nat.le_of_ble_eq_true rfl, Nat.le_of_ble_eq_true rfl⟩ (hk_ea (fun H locs hH hS => ?_))
  exact hk_zret hx hb hr hlocks (hk_in_01 _ _ _) hH hS ⟨(by simp only [F_m_isRipe]), rfl, rfl⟩ dX11_isRipe_16
theorem ymV_X11_isRipe : hk_mV yX11_isRipe cX11_isRipe 3 (some FieldType.boolean) RX11 2 := ⟨tw_867, tw_866, tw_22, tw_42, rfl, by decide, by decide, by decide +kernel⟩
theorem ymV_X11_priceAt : hk_mV yX11_priceAt cX11_priceAt 4 (some FieldType.int) RX11 1 := ⟨tw_871, tw_870, tw_23, tw_42, rfl, by decide, by decide, by decide +kernel⟩
def T_m_picks (σ : hk_v) (i : Nat) : hk_v := (if (σ (1, 12) i) = (-9) then σ else (if (F_m_isRipe σ (σ (1, 12) i) ((σ (0, 0) 0) / 12)) = 0 then σ else (if (σ (1, 3) ((σ (1, 12) i).toNatClampNeg)) ≤ (σ (1, 10) i) then (hk_u (hk_u (hk_u (hk_u (hk_u (hk_u σ (1, 3) ((σ (1, 12) i).toNatClampNeg) ((σ (1, 3) ((σ (1, 12) i).toNatClampNeg)) - (σ (1, 3) ((σ (1, 12) i).toNatClampNeg)))) (1, 6) ((σ (1, 12) i).toNatClampNeg) ((σ (1, 6) ((σ (1, 12) i).toNatClampNeg)) + (σ (1, 3) ((σ (1, 12) i).toNatClampNeg)))) (1, 16) (((6 * (σ (0, 0) 0)) + (σ (1, 12) i)).toNatClampNeg) ((σ (1, 16) (((6 * (σ (0, 0) 0)) + (σ (1, 12) i)).toNatClampNeg)) + (σ (1, 3) ((σ (1, 12) i).toNatClampNeg)))) (1, 13) i ((σ (1, 13) i) + (σ (1, 3) ((σ (1, 12) i).toNatClampNeg)))) (1, 14) i ((σ (1, 14) i) + (((σ (1, 3) ((σ (1, 12) i).toNatClampNeg)) * 100) / (σ (1, 11) i)))) (1, 15) i ((σ (1, 15) i) + ((((σ (1, 3) ((σ (1, 12) i).toNatClampNeg)) * 100) / (σ (1, 11) i)) * (F_m_priceAt (hk_u (hk_u (hk_u (hk_u (hk_u σ (1, 3) ((σ (1, 12) i).toNatClampNeg) ((σ (1, 3) ((σ (1, 12) i).toNatClampNeg)) - (σ (1, 3) ((σ (1, 12) i).toNatClampNeg)))) (1, 6) ((σ (1, 12) i).toNatClampNeg) ((σ (1, 6) ((σ (1, 12) i).toNatClampNeg)) + (σ (1, 3) ((σ (1, 12) i).toNatClampNeg)))) (1, 16) (((6 * (σ (0, 0) 0)) + (σ (1, 12) i)).toNatClampNeg) ((σ (1, 16) (((6 * (σ (0, 0) 0)) + (σ (1, 12) i)).toNatClampNeg)) + (σ (1, 3) ((σ (1, 12) i).toNatClampNeg)))) (1, 13) i ((σ (1, 13) i) + (σ (1, 3) ((σ (1, 12) i).toNatClampNeg)))) (1, 14) i ((σ (1, 14) i) + (((σ (1, 3) ((σ (1, 12) i).toNatClampNeg)) * 100) / (σ (1, 11) i)))) (σ (0, 0) 0))))) else (hk_u (hk_u (hk_u (hk_u (hk_u (hk_u σ (1, 3) ((σ (1, 12) i).toNatClampNeg) ((σ (1, 3) ((σ (1, 12) i).toNatClampNeg)) - (σ (1, 10) i))) (1, 6) ((σ (1, 12) i).toNatClampNeg) ((σ (1, 6) ((σ (1, 12) i).toNatClampNeg)) + (σ (1, 10) i))) (1, 16) (((6 * (σ (0, 0) 0)) + (σ (1, 12) i)).toNatClampNeg) ((σ (1, 16) (((6 * (σ (0, 0) 0)) + (σ (1, 12) i)).toNatClampNeg)) + (σ (1, 10) i))) (1, 13) i ((σ (1, 13) i) + (σ (1, 10) i))) (1, 14) i ((σ (1, 14) i) + (((σ (1, 10) i) * 100) / (σ (1, 11) i)))) (1, 15) i ((σ (1, 15) i) + ((((σ (1, 10) i) * 100) / (σ (1, 11) i)) * (F_m_priceAt (hk_u (hk_u (hk_u (hk_u (hk_u σ (1, 3) ((σ (1, 12) i).toNatClampNeg) ((σ (1, 3) ((σ (1, 12) i).toNatClampNeg)) - (σ (1, 10) i))) (1, 6) ((σ (1, 12) i).toNatClampNeg) ((σ (1, 6) ((σ (1, 12) i).toNatClampNeg)) + (σ (1, 10) i))) (1, 16) (((6 * (σ (0, 0) 0)) + (σ (1, 12) i)).toNatClampNeg) ((σ (1, 16) (((6 * (σ (0, 0) 0)) + (σ (1, 12) i)).toNatClampNeg)) + (σ (1, 10) i))) (1, 13) i ((σ (1, 13) i) + (σ (1, 10) i))) (1, 14) i ((σ (1, 14) i) + (((σ (1, 10) i) * 100) / (σ (1, 11) i)))) (σ (0, 0) 0))))))))
set_option maxHeartbeats 4000000 in
set_option maxRecDepth 100000 in
theorem c_m_picks (l : Launch) (D : hk_D) (G : hk_G) (Z : hk_Z) (τ σ : hk_v) (i : Nat) (hM : hk_M G) (hi : i < 6) (hmn : hk_mn σ 29) (hpl : ¬ σ (1, 12) i = -9 → vp_in (σ (1, 12) i) 6) (hgr : ¬ σ (1, 12) i = -9 → vp_in (6 * σ (0, 0) 0 + σ (1, 12) i) 2886) (hm : ¬ σ (1, 11) i = 0) : Met l yX11_picks (hk_ws yX11_picks cX11_picks 5 none) ({ frames := 2, cells := 0, slots := 0, locals := 44 }) (hk_P D G (hk_cm τ σ) [.ref (G.1 (.inr (0, 0))), .int (nI i)]) (hk_Q D (hk_e G (none) (hk_cm τ (T_m_picks σ i)))) 0 0 (hk_A D) := by
  refine hk_met (by decide +kernel) (Nat.le_of_ble_eq_true rfl) (fun p e s m below meth c hx hb hr hml hlocks ht hown hin hK hH hS ls hl => ?_)
  have hl : lv_has ls 5 [(0, .ref (G.1 (.inr (0, 0)))), (1, .int (nI i))] := hl
  refine lv_aload_n hx hb dX11_picks_0 rfl (lv_at hl 0 rfl) ?_
  refine hk_getr (L := (.inr (0, 0))) (v := .ref (G.1 (.inr (1, 12)))) hx hb ht hown hK hH kc_12 hM.k0 12 (by decide) rfl tw_704 rfl hM.r12 dX11_picks_1 ?_
  refine lv_iload_n hx hb dX11_picks_4 rfl (lv_at hl 1 rfl) ?_
  refine hk_ild (L := (.inr (1, 12))) (v := σ (1, 12) i) hx hb hK hH hM.k12 (vp_in_nI (by omega) (by omega)) (by rw [nI_clamp (by omega)]; rfl) dX11_picks_5 ?_
  refine lv_istore_n (lv' := [(2, .int (σ (1, 12) i)), (0, .ref (G.1 (.inr (0, 0)))), (1, .int (nI i))]) hx hb dX11_picks_6 rfl hl (by decide) rfl (fun ls hl => ?_)
  refine lv_iload_n hx hb dX11_picks_7 rfl (lv_at hl 0 rfl) ?_
  refine lv_bipush (v := -9) hx hb dX11_picks_8 (by decide) ?_
  refine lv_icmp_eq (tgt := 28) hx hb dX11_picks_10 (by decide) (fun c_1 => ?_) (fun c_1 => ?_)
  · exact hk_vret hx hb hr hlocks hH hS ⟨rfl, rfl, (by simp only [T_m_picks, if_pos c_1])⟩ dX11_picks_28
  · refine lv_aload_n hx hb dX11_picks_13 rfl (lv_at hl 1 rfl) ?_
    refine lv_iload_n hx hb dX11_picks_14 rfl (lv_at hl 0 rfl) ?_
    refine lv_aload_n hx hb dX11_picks_15 rfl (lv_at hl 1 rfl) ?_
    refine hk_geti (L := (.inr (0, 0))) (v := σ (0, 0) 0) hx hb ht hown hK hH kc_12 hM.k0 0 (by decide) rfl tw_692 rfl rfl dX11_picks_16 ?_
    refine lv_bipush (v := 12) hx hb dX11_picks_19 (by decide) ?_
    refine lv_idiv hx hb dX11_picks_21 (by decide) ?_
    refine hk_cV (L := (.inr (0, 0))) (As := [.int (σ (1, 12) i), .int ((σ (0, 0) 0) / 12)]) (rest := []) hx hb hml hl.1 ht hown hK hH hS (c_m_isRipe l D G Z τ σ (σ (1, 12) i) ((σ (0, 0) 0) / 12) hM (hpl c_1)) ymV_X11_isRipe kc_12 hM.k0 tw_864 ⟨rfl, rfl⟩ ⟨Nat.le_of_ble_eq_true rfl, Nat.le_of_ble_eq_true rfl⟩ rfl rfl (Nat.le_of_ble_eq_true rfl) dX11_picks_22 ⟨Nat.le_of_ble_eq_true rfl, Nat.le_of_ble_eq_true rfl⟩ (hk_ea (fun H locs hH hS => ?_))
    refine lv_if_ne (tgt := 29) hx hb dX11_picks_25 (by decide) (fun c_2 => ?_) (fun c_2 => ?_)
    · refine lv_aload_n hx hb dX11_picks_29 rfl (lv_at hl 1 rfl) ?_
      refine hk_getr (L := (.inr (0, 0))) (v := .ref (G.1 (.inr (1, 10)))) hx hb ht hown hK hH kc_12 hM.k0 10 (by decide) rfl tw_702 rfl hM.r10 dX11_picks_30 ?_
      refine lv_iload_n hx hb dX11_picks_33 rfl (lv_at hl 2 rfl) ?_
      refine hk_ild (L := (.inr (1, 10))) (v := σ (1, 10) i) hx hb hK hH hM.k10 (vp_in_nI (by omega) (by omega)) (by rw [nI_clamp (by omega)]; rfl) dX11_picks_34 ?_
      refine lv_aload_n hx hb dX11_picks_35 rfl (lv_at hl 1 rfl) ?_
      refine hk_getr (L := (.inr (0, 0))) (v := .ref (G.1 (.inr (1, 3)))) hx hb ht hown hK hH kc_12 hM.k0 3 (by decide) rfl tw_695 rfl hM.r3 dX11_picks_36 ?_
      refine lv_iload_n hx hb dX11_picks_39 rfl (lv_at hl 0 rfl) ?_
      refine hk_ild (L := (.inr (1, 3))) (v := σ (1, 3) ((σ (1, 12) i).toNatClampNeg)) hx hb hK hH hM.k3 (hpl c_1) rfl dX11_picks_40 ?_
      refine lv_icmp_ge (tgt := 53) hx hb dX11_picks_41 (by decide) (fun c_3 => ?_) (fun c_3 => ?_)
      · refine lv_aload_n hx hb dX11_picks_53 rfl (lv_at hl 1 rfl) ?_
        refine hk_getr (L := (.inr (0, 0))) (v := .ref (G.1 (.inr (1, 3)))) hx hb ht hown hK hH kc_12 hM.k0 3 (by decide) rfl tw_695 rfl hM.r3 dX11_picks_54 ?_
        refine lv_iload_n hx hb dX11_picks_57 rfl (lv_at hl 0 rfl) ?_
        refine hk_ild (L := (.inr (1, 3))) (v := σ (1, 3) ((σ (1, 12) i).toNatClampNeg)) hx hb hK hH hM.k3 (hpl c_1) rfl dX11_picks_58 ?_
        refine lv_istore_n (lv' := [(3, .int (σ (1, 3) ((σ (1, 12) i).toNatClampNeg))), (2, .int (σ (1, 12) i)), (0, .ref (G.1 (.inr (0, 0)))), (1, .int (nI i))]) hx hb dX11_picks_59 rfl hl (by decide) rfl (fun ls hl => ?_)
        refine lv_aload_n hx hb dX11_picks_60 rfl (lv_at hl 2 rfl) ?_
        refine hk_getr (L := (.inr (0, 0))) (v := .ref (G.1 (.inr (1, 3)))) hx hb ht hown hK hH kc_12 hM.k0 3 (by decide) rfl tw_695 rfl hM.r3 dX11_picks_61 ?_
        refine lv_iload_n hx hb dX11_picks_64 rfl (lv_at hl 1 rfl) ?_
        refine lv_dup2_11 hx hb dX11_picks_65 rfl rfl ?_
        refine hk_ild (L := (.inr (1, 3))) (v := σ (1, 3) ((σ (1, 12) i).toNatClampNeg)) hx hb hK hH hM.k3 (hpl c_1) rfl dX11_picks_66 ?_
        refine lv_iload_n hx hb dX11_picks_67 rfl (lv_at hl 0 rfl) ?_
        refine lv_isub hx hb dX11_picks_68 ?_
        refine hk_ist (L := (.inr (1, 3))) hx hb hK hH hS hM.k3 (hpl c_1) dX11_picks_69 (fun H locs hH hS => ?_)
        rw [hk_up_r] at hH
        refine lv_aload_n hx hb dX11_picks_70 rfl (lv_at hl 2 rfl) ?_
        refine hk_getr (L := (.inr (0, 0))) (v := .ref (G.1 (.inr (1, 6)))) hx hb ht hown hK hH kc_12 hM.k0 6 (by decide) rfl tw_698 rfl hM.r6 dX11_picks_71 ?_
        refine lv_iload_n hx hb dX11_picks_74 rfl (lv_at hl 1 rfl) ?_
        refine lv_dup2_11 hx hb dX11_picks_75 rfl rfl ?_
        refine hk_ild (L := (.inr (1, 6))) (v := σ (1, 6) ((σ (1, 12) i).toNatClampNeg)) hx hb hK hH hM.k6 (hpl c_1) (by simp [hk_cm, hk_u_ap]) dX11_picks_76 ?_
        refine lv_iload_n hx hb dX11_picks_77 rfl (lv_at hl 0 rfl) ?_
        refine lv_iadd hx hb dX11_picks_78 ?_
        refine hk_ist (L := (.inr (1, 6))) hx hb hK hH hS hM.k6 (hpl c_1) dX11_picks_79 (fun H locs hH hS => ?_)
        rw [hk_up_r] at hH
        refine lv_aload_n hx hb dX11_picks_80 rfl (lv_at hl 2 rfl) ?_
        refine hk_getr (L := (.inr (0, 0))) (v := .ref (G.1 (.inr (1, 16)))) hx hb ht hown hK hH kc_12 hM.k0 16 (by decide) rfl tw_708 rfl hM.r16 dX11_picks_81 ?_
        refine lv_bipush (v := 6) hx hb dX11_picks_84 (by decide) ?_
        refine lv_aload_n hx hb dX11_picks_86 rfl (lv_at hl 2 rfl) ?_
        refine hk_geti (L := (.inr (0, 0))) (v := σ (0, 0) 0) hx hb ht hown hK hH kc_12 hM.k0 0 (by decide) rfl tw_692 rfl (by simp [hk_cm, hk_u_ap]) dX11_picks_87 ?_
        refine lv_imul hx hb dX11_picks_90 ?_
        refine lv_iload_n hx hb dX11_picks_91 rfl (lv_at hl 1 rfl) ?_
        refine lv_iadd hx hb dX11_picks_92 ?_
        refine lv_dup2_11 hx hb dX11_picks_93 rfl rfl ?_
        refine hk_ild (L := (.inr (1, 16))) (v := σ (1, 16) (((6 * (σ (0, 0) 0)) + (σ (1, 12) i)).toNatClampNeg)) hx hb hK hH hM.k16 (hgr c_1) (by simp [hk_cm, hk_u_ap]) dX11_picks_94 ?_
        refine lv_iload_n hx hb dX11_picks_95 rfl (lv_at hl 0 rfl) ?_
        refine lv_iadd hx hb dX11_picks_96 ?_
        refine hk_ist (L := (.inr (1, 16))) hx hb hK hH hS hM.k16 (hgr c_1) dX11_picks_97 (fun H locs hH hS => ?_)
        rw [hk_up_r] at hH
        refine lv_iload_n hx hb dX11_picks_98 rfl (lv_at hl 0 rfl) ?_
        refine lv_bipush (v := 100) hx hb dX11_picks_99 (by decide) ?_
        refine lv_imul hx hb dX11_picks_101 ?_
        refine lv_aload_n hx hb dX11_picks_102 rfl (lv_at hl 2 rfl) ?_
        refine hk_getr (L := (.inr (0, 0))) (v := .ref (G.1 (.inr (1, 11)))) hx hb ht hown hK hH kc_12 hM.k0 11 (by decide) rfl tw_703 rfl hM.r11 dX11_picks_103 ?_
        refine lv_iload_n hx hb dX11_picks_106 rfl (lv_at hl 3 rfl) ?_
        refine hk_ild (L := (.inr (1, 11))) (v := σ (1, 11) i) hx hb hK hH hM.k11 (vp_in_nI (by omega) (by omega)) (by rw [nI_clamp (by omega)]; simp [hk_cm, hk_u_ap]) dX11_picks_107 ?_
        refine lv_idiv hx hb dX11_picks_108 hm ?_
        refine lv_istore (lv' := [(4, .int (((σ (1, 3) ((σ (1, 12) i).toNatClampNeg)) * 100) / (σ (1, 11) i))), (3, .int (σ (1, 3) ((σ (1, 12) i).toNatClampNeg))), (2, .int (σ (1, 12) i)), (0, .ref (G.1 (.inr (0, 0)))), (1, .int (nI i))]) hx hb dX11_picks_109 hl (by decide) rfl (fun ls hl => ?_)
        refine lv_aload_n hx hb dX11_picks_111 rfl (lv_at hl 3 rfl) ?_
        refine hk_getr (L := (.inr (0, 0))) (v := .ref (G.1 (.inr (1, 13)))) hx hb ht hown hK hH kc_12 hM.k0 13 (by decide) rfl tw_705 rfl hM.r13 dX11_picks_112 ?_
        refine lv_iload_n hx hb dX11_picks_115 rfl (lv_at hl 4 rfl) ?_
        refine lv_dup2_11 hx hb dX11_picks_116 rfl rfl ?_
        refine hk_ild (L := (.inr (1, 13))) (v := σ (1, 13) i) hx hb hK hH hM.k13 (vp_in_nI (by omega) (by omega)) (by rw [nI_clamp (by omega)]; simp [hk_cm, hk_u_ap]) dX11_picks_117 ?_
        refine lv_iload_n hx hb dX11_picks_118 rfl (lv_at hl 1 rfl) ?_
        refine lv_iadd hx hb dX11_picks_119 ?_
        refine hk_ist (L := (.inr (1, 13))) hx hb hK hH hS hM.k13 (vp_in_nI (by omega) (by omega)) dX11_picks_120 (fun H locs hH hS => ?_)
        rw [hk_up_r, nI_clamp (by omega)] at hH
        refine lv_aload_n hx hb dX11_picks_121 rfl (lv_at hl 3 rfl) ?_
        refine hk_getr (L := (.inr (0, 0))) (v := .ref (G.1 (.inr (1, 14)))) hx hb ht hown hK hH kc_12 hM.k0 14 (by decide) rfl tw_706 rfl hM.r14 dX11_picks_122 ?_
        refine lv_iload_n hx hb dX11_picks_125 rfl (lv_at hl 4 rfl) ?_
        refine lv_dup2_11 hx hb dX11_picks_126 rfl rfl ?_
        refine hk_ild (L := (.inr (1, 14))) (v := σ (1, 14) i) hx hb hK hH hM.k14 (vp_in_nI (by omega) (by omega)) (by rw [nI_clamp (by omega)]; simp [hk_cm, hk_u_ap]) dX11_picks_127 ?_
        refine lv_iload hx hb dX11_picks_128 (lv_at hl 0 rfl) ?_
        refine lv_iadd hx hb dX11_picks_130 ?_
        refine hk_ist (L := (.inr (1, 14))) hx hb hK hH hS hM.k14 (vp_in_nI (by omega) (by omega)) dX11_picks_131 (fun H locs hH hS => ?_)
        rw [hk_up_r, nI_clamp (by omega)] at hH
        refine lv_aload_n hx hb dX11_picks_132 rfl (lv_at hl 3 rfl) ?_
        refine hk_getr (L := (.inr (0, 0))) (v := .ref (G.1 (.inr (1, 15)))) hx hb ht hown hK hH kc_12 hM.k0 15 (by decide) rfl tw_707 rfl hM.r15 dX11_picks_133 ?_
        refine lv_iload_n hx hb dX11_picks_136 rfl (lv_at hl 4 rfl) ?_
        refine lv_dup2_11 hx hb dX11_picks_137 rfl rfl ?_
        refine hk_ild (L := (.inr (1, 15))) (v := σ (1, 15) i) hx hb hK hH hM.k15 (vp_in_nI (by omega) (by omega)) (by rw [nI_clamp (by omega)]; simp [hk_cm, hk_u_ap]) dX11_picks_138 ?_
        refine lv_iload hx hb dX11_picks_139 (lv_at hl 0 rfl) ?_
        refine lv_aload_n hx hb dX11_picks_141 rfl (lv_at hl 3 rfl) ?_
        refine lv_aload_n hx hb dX11_picks_142 rfl (lv_at hl 3 rfl) ?_
        refine hk_geti (L := (.inr (0, 0))) (v := σ (0, 0) 0) hx hb ht hown hK hH kc_12 hM.k0 0 (by decide) rfl tw_692 rfl (by simp [hk_cm, hk_u_ap]) dX11_picks_143 ?_
        refine hk_cV (L := (.inr (0, 0))) (As := [.int (σ (0, 0) 0)]) (rest := [.int (((σ (1, 3) ((σ (1, 12) i).toNatClampNeg)) * 100) / (σ (1, 11) i)), .int (σ (1, 15) i), .int (nI i), .ref (G.1 (.inr (1, 15)))]) hx hb hml hl.1 ht hown hK hH hS (c_m_priceAt l D G Z τ (hk_u (hk_u (hk_u (hk_u (hk_u σ (1, 3) ((σ (1, 12) i).toNatClampNeg) ((σ (1, 3) ((σ (1, 12) i).toNatClampNeg)) - (σ (1, 3) ((σ (1, 12) i).toNatClampNeg)))) (1, 6) ((σ (1, 12) i).toNatClampNeg) ((σ (1, 6) ((σ (1, 12) i).toNatClampNeg)) + (σ (1, 3) ((σ (1, 12) i).toNatClampNeg)))) (1, 16) (((6 * (σ (0, 0) 0)) + (σ (1, 12) i)).toNatClampNeg) ((σ (1, 16) (((6 * (σ (0, 0) 0)) + (σ (1, 12) i)).toNatClampNeg)) + (σ (1, 3) ((σ (1, 12) i).toNatClampNeg)))) (1, 13) i ((σ (1, 13) i) + (σ (1, 3) ((σ (1, 12) i).toNatClampNeg)))) (1, 14) i ((σ (1, 14) i) + (((σ (1, 3) ((σ (1, 12) i).toNatClampNeg)) * 100) / (σ (1, 11) i)))) (σ (0, 0) 0) hM (by simpa [hk_mn, hk_u_ap] using hmn)) ymV_X11_priceAt kc_12 hM.k0 tw_868 ⟨rfl, rfl⟩ ⟨Nat.le_of_ble_eq_true rfl, Nat.le_of_ble_eq_true rfl⟩ rfl rfl (Nat.le_of_ble_eq_true rfl) dX11_picks_146 ⟨Nat.le_of_ble_eq_true rfl, Nat.le_of_ble_eq_true rfl⟩ (hk_ea (fun H locs hH hS => ?_))
        refine lv_imul hx hb dX11_picks_149 ?_
        refine lv_iadd hx hb dX11_picks_150 ?_
        refine hk_ist (L := (.inr (1, 15))) hx hb hK hH hS hM.k15 (vp_in_nI (by omega) (by omega)) dX11_picks_151 (fun H locs hH hS => ?_)
        rw [hk_up_r, nI_clamp (by omega)] at hH
        exact hk_vret hx hb hr hlocks hH hS ⟨rfl, rfl, (by simp only [T_m_picks, if_neg c_1, if_neg c_2, if_pos c_3])⟩ dX11_picks_152
      · refine lv_aload_n hx hb dX11_picks_44 rfl (lv_at hl 1 rfl) ?_
        refine hk_getr (L := (.inr (0, 0))) (v := .ref (G.1 (.inr (1, 10)))) hx hb ht hown hK hH kc_12 hM.k0 10 (by decide) rfl tw_702 rfl hM.r10 dX11_picks_45 ?_
        refine lv_iload_n hx hb dX11_picks_48 rfl (lv_at hl 2 rfl) ?_
        refine hk_ild (L := (.inr (1, 10))) (v := σ (1, 10) i) hx hb hK hH hM.k10 (vp_in_nI (by omega) (by omega)) (by rw [nI_clamp (by omega)]; rfl) dX11_picks_49 ?_
        refine lv_goto (tgt := 59) hx hb dX11_picks_50 (by decide) ?_
        refine lv_istore_n (lv' := [(3, .int (σ (1, 10) i)), (2, .int (σ (1, 12) i)), (0, .ref (G.1 (.inr (0, 0)))), (1, .int (nI i))]) hx hb dX11_picks_59 rfl hl (by decide) rfl (fun ls hl => ?_)
        refine lv_aload_n hx hb dX11_picks_60 rfl (lv_at hl 2 rfl) ?_
        refine hk_getr (L := (.inr (0, 0))) (v := .ref (G.1 (.inr (1, 3)))) hx hb ht hown hK hH kc_12 hM.k0 3 (by decide) rfl tw_695 rfl hM.r3 dX11_picks_61 ?_
        refine lv_iload_n hx hb dX11_picks_64 rfl (lv_at hl 1 rfl) ?_
        refine lv_dup2_11 hx hb dX11_picks_65 rfl rfl ?_
        refine hk_ild (L := (.inr (1, 3))) (v := σ (1, 3) ((σ (1, 12) i).toNatClampNeg)) hx hb hK hH hM.k3 (hpl c_1) rfl dX11_picks_66 ?_
        refine lv_iload_n hx hb dX11_picks_67 rfl (lv_at hl 0 rfl) ?_
        refine lv_isub hx hb dX11_picks_68 ?_
        refine hk_ist (L := (.inr (1, 3))) hx hb hK hH hS hM.k3 (hpl c_1) dX11_picks_69 (fun H locs hH hS => ?_)
        rw [hk_up_r] at hH
        refine lv_aload_n hx hb dX11_picks_70 rfl (lv_at hl 2 rfl) ?_
        refine hk_getr (L := (.inr (0, 0))) (v := .ref (G.1 (.inr (1, 6)))) hx hb ht hown hK hH kc_12 hM.k0 6 (by decide) rfl tw_698 rfl hM.r6 dX11_picks_71 ?_
        refine lv_iload_n hx hb dX11_picks_74 rfl (lv_at hl 1 rfl) ?_
        refine lv_dup2_11 hx hb dX11_picks_75 rfl rfl ?_
        refine hk_ild (L := (.inr (1, 6))) (v := σ (1, 6) ((σ (1, 12) i).toNatClampNeg)) hx hb hK hH hM.k6 (hpl c_1) (by simp [hk_cm, hk_u_ap]) dX11_picks_76 ?_
        refine lv_iload_n hx hb dX11_picks_77 rfl (lv_at hl 0 rfl) ?_
        refine lv_iadd hx hb dX11_picks_78 ?_
        refine hk_ist (L := (.inr (1, 6))) hx hb hK hH hS hM.k6 (hpl c_1) dX11_picks_79 (fun H locs hH hS => ?_)
        rw [hk_up_r] at hH
        refine lv_aload_n hx hb dX11_picks_80 rfl (lv_at hl 2 rfl) ?_
        refine hk_getr (L := (.inr (0, 0))) (v := .ref (G.1 (.inr (1, 16)))) hx hb ht hown hK hH kc_12 hM.k0 16 (by decide) rfl tw_708 rfl hM.r16 dX11_picks_81 ?_
        refine lv_bipush (v := 6) hx hb dX11_picks_84 (by decide) ?_
        refine lv_aload_n hx hb dX11_picks_86 rfl (lv_at hl 2 rfl) ?_
        refine hk_geti (L := (.inr (0, 0))) (v := σ (0, 0) 0) hx hb ht hown hK hH kc_12 hM.k0 0 (by decide) rfl tw_692 rfl (by simp [hk_cm, hk_u_ap]) dX11_picks_87 ?_
        refine lv_imul hx hb dX11_picks_90 ?_
        refine lv_iload_n hx hb dX11_picks_91 rfl (lv_at hl 1 rfl) ?_
        refine lv_iadd hx hb dX11_picks_92 ?_
        refine lv_dup2_11 hx hb dX11_picks_93 rfl rfl ?_
        refine hk_ild (L := (.inr (1, 16))) (v := σ (1, 16) (((6 * (σ (0, 0) 0)) + (σ (1, 12) i)).toNatClampNeg)) hx hb hK hH hM.k16 (hgr c_1) (by simp [hk_cm, hk_u_ap]) dX11_picks_94 ?_
        refine lv_iload_n hx hb dX11_picks_95 rfl (lv_at hl 0 rfl) ?_
        refine lv_iadd hx hb dX11_picks_96 ?_
        refine hk_ist (L := (.inr (1, 16))) hx hb hK hH hS hM.k16 (hgr c_1) dX11_picks_97 (fun H locs hH hS => ?_)
        rw [hk_up_r] at hH
        refine lv_iload_n hx hb dX11_picks_98 rfl (lv_at hl 0 rfl) ?_
        refine lv_bipush (v := 100) hx hb dX11_picks_99 (by decide) ?_
        refine lv_imul hx hb dX11_picks_101 ?_
        refine lv_aload_n hx hb dX11_picks_102 rfl (lv_at hl 2 rfl) ?_
        refine hk_getr (L := (.inr (0, 0))) (v := .ref (G.1 (.inr (1, 11)))) hx hb ht hown hK hH kc_12 hM.k0 11 (by decide) rfl tw_703 rfl hM.r11 dX11_picks_103 ?_
        refine lv_iload_n hx hb dX11_picks_106 rfl (lv_at hl 3 rfl) ?_
        refine hk_ild (L := (.inr (1, 11))) (v := σ (1, 11) i) hx hb hK hH hM.k11 (vp_in_nI (by omega) (by omega)) (by rw [nI_clamp (by omega)]; simp [hk_cm, hk_u_ap]) dX11_picks_107 ?_
        refine lv_idiv hx hb dX11_picks_108 hm ?_
        refine lv_istore (lv' := [(4, .int (((σ (1, 10) i) * 100) / (σ (1, 11) i))), (3, .int (σ (1, 10) i)), (2, .int (σ (1, 12) i)), (0, .ref (G.1 (.inr (0, 0)))), (1, .int (nI i))]) hx hb dX11_picks_109 hl (by decide) rfl (fun ls hl => ?_)
        refine lv_aload_n hx hb dX11_picks_111 rfl (lv_at hl 3 rfl) ?_
        refine hk_getr (L := (.inr (0, 0))) (v := .ref (G.1 (.inr (1, 13)))) hx hb ht hown hK hH kc_12 hM.k0 13 (by decide) rfl tw_705 rfl hM.r13 dX11_picks_112 ?_
        refine lv_iload_n hx hb dX11_picks_115 rfl (lv_at hl 4 rfl) ?_
        refine lv_dup2_11 hx hb dX11_picks_116 rfl rfl ?_
        refine hk_ild (L := (.inr (1, 13))) (v := σ (1, 13) i) hx hb hK hH hM.k13 (vp_in_nI (by omega) (by omega)) (by rw [nI_clamp (by omega)]; simp [hk_cm, hk_u_ap]) dX11_picks_117 ?_
        refine lv_iload_n hx hb dX11_picks_118 rfl (lv_at hl 1 rfl) ?_
        refine lv_iadd hx hb dX11_picks_119 ?_
        refine hk_ist (L := (.inr (1, 13))) hx hb hK hH hS hM.k13 (vp_in_nI (by omega) (by omega)) dX11_picks_120 (fun H locs hH hS => ?_)
        rw [hk_up_r, nI_clamp (by omega)] at hH
        refine lv_aload_n hx hb dX11_picks_121 rfl (lv_at hl 3 rfl) ?_
        refine hk_getr (L := (.inr (0, 0))) (v := .ref (G.1 (.inr (1, 14)))) hx hb ht hown hK hH kc_12 hM.k0 14 (by decide) rfl tw_706 rfl hM.r14 dX11_picks_122 ?_
        refine lv_iload_n hx hb dX11_picks_125 rfl (lv_at hl 4 rfl) ?_
        refine lv_dup2_11 hx hb dX11_picks_126 rfl rfl ?_
        refine hk_ild (L := (.inr (1, 14))) (v := σ (1, 14) i) hx hb hK hH hM.k14 (vp_in_nI (by omega) (by omega)) (by rw [nI_clamp (by omega)]; simp [hk_cm, hk_u_ap]) dX11_picks_127 ?_
        refine lv_iload hx hb dX11_picks_128 (lv_at hl 0 rfl) ?_
        refine lv_iadd hx hb dX11_picks_130 ?_
        refine hk_ist (L := (.inr (1, 14))) hx hb hK hH hS hM.k14 (vp_in_nI (by omega) (by omega)) dX11_picks_131 (fun H locs hH hS => ?_)
        rw [hk_up_r, nI_clamp (by omega)] at hH
        refine lv_aload_n hx hb dX11_picks_132 rfl (lv_at hl 3 rfl) ?_
        refine hk_getr (L := (.inr (0, 0))) (v := .ref (G.1 (.inr (1, 15)))) hx hb ht hown hK hH kc_12 hM.k0 15 (by decide) rfl tw_707 rfl hM.r15 dX11_picks_133 ?_
        refine lv_iload_n hx hb dX11_picks_136 rfl (lv_at hl 4 rfl) ?_
        refine lv_dup2_11 hx hb dX11_picks_137 rfl rfl ?_
        refine hk_ild (L := (.inr (1, 15))) (v := σ (1, 15) i) hx hb hK hH hM.k15 (vp_in_nI (by omega) (by omega)) (by rw [nI_clamp (by omega)]; simp [hk_cm, hk_u_ap]) dX11_picks_138 ?_
        refine lv_iload hx hb dX11_picks_139 (lv_at hl 0 rfl) ?_
        refine lv_aload_n hx hb dX11_picks_141 rfl (lv_at hl 3 rfl) ?_
        refine lv_aload_n hx hb dX11_picks_142 rfl (lv_at hl 3 rfl) ?_
        refine hk_geti (L := (.inr (0, 0))) (v := σ (0, 0) 0) hx hb ht hown hK hH kc_12 hM.k0 0 (by decide) rfl tw_692 rfl (by simp [hk_cm, hk_u_ap]) dX11_picks_143 ?_
        refine hk_cV (L := (.inr (0, 0))) (As := [.int (σ (0, 0) 0)]) (rest := [.int (((σ (1, 10) i) * 100) / (σ (1, 11) i)), .int (σ (1, 15) i), .int (nI i), .ref (G.1 (.inr (1, 15)))]) hx hb hml hl.1 ht hown hK hH hS (c_m_priceAt l D G Z τ (hk_u (hk_u (hk_u (hk_u (hk_u σ (1, 3) ((σ (1, 12) i).toNatClampNeg) ((σ (1, 3) ((σ (1, 12) i).toNatClampNeg)) - (σ (1, 10) i))) (1, 6) ((σ (1, 12) i).toNatClampNeg) ((σ (1, 6) ((σ (1, 12) i).toNatClampNeg)) + (σ (1, 10) i))) (1, 16) (((6 * (σ (0, 0) 0)) + (σ (1, 12) i)).toNatClampNeg) ((σ (1, 16) (((6 * (σ (0, 0) 0)) + (σ (1, 12) i)).toNatClampNeg)) + (σ (1, 10) i))) (1, 13) i ((σ (1, 13) i) + (σ (1, 10) i))) (1, 14) i ((σ (1, 14) i) + (((σ (1, 10) i) * 100) / (σ (1, 11) i)))) (σ (0, 0) 0) hM (by simpa [hk_mn, hk_u_ap] using hmn)) ymV_X11_priceAt kc_12 hM.k0 tw_868 ⟨rfl, rfl⟩ ⟨Nat.le_of_ble_eq_true rfl, Nat.le_of_ble_eq_true rfl⟩ rfl rfl (Nat.le_of_ble_eq_true rfl) dX11_picks_146 ⟨Nat.le_of_ble_eq_true rfl, Nat.le_of_ble_eq_true rfl⟩ (hk_ea (fun H locs hH hS => ?_))
        refine lv_imul hx hb dX11_picks_149 ?_
        refine lv_iadd hx hb dX11_picks_150 ?_
        refine hk_ist (L := (.inr (1, 15))) hx hb hK hH hS hM.k15 (vp_in_nI (by omega) (by omega)) dX11_picks_151 (fun H locs hH hS => ?_)
        rw [hk_up_r, nI_clamp (by omega)] at hH
        exact hk_vret hx hb hr hlocks hH hS ⟨rfl, rfl, (by simp only [T_m_picks, if_neg c_1, if_neg c_2, if_neg c_3])⟩ dX11_picks_152
    · exact hk_vret hx hb hr hlocks hH hS ⟨rfl, rfl, (by simp only [T_m_picks, if_neg c_1, if_pos c_2])⟩ dX11_picks_28
def T_m_presses (σ : hk_v) (g : Int32) : hk_v := (if ((σ (0, 0) 27) + 1) = 20 then (if 100 ≤ (σ (0, 0) 24) then (hk_u (hk_u (hk_u (hk_u (hk_u (hk_u σ (1, 8) g.toNatClampNeg ((σ (1, 8) g.toNatClampNeg) + 1)) (0, 0) 27 ((σ (0, 0) 27) + 1)) (0, 0) 28 ((σ (0, 0) 28) ||| (1 <<< (g &&& 31)))) (0, 0) 24 ((σ (0, 0) 24) + 1)) (0, 0) 27 0) (0, 0) 28 0) else (hk_u (hk_u (hk_u (hk_u (hk_u (hk_u (hk_u (hk_u σ (1, 8) g.toNatClampNeg ((σ (1, 8) g.toNatClampNeg) + 1)) (0, 0) 27 ((σ (0, 0) 27) + 1)) (0, 0) 28 ((σ (0, 0) 28) ||| (1 <<< (g &&& 31)))) (1, 25) ((σ (0, 0) 24).toNatClampNeg) ((σ (0, 0) 28) ||| (1 <<< (g &&& 31)))) (1, 26) ((σ (0, 0) 24).toNatClampNeg) ((σ (0, 0) 0) / 12)) (0, 0) 24 ((σ (0, 0) 24) + 1)) (0, 0) 27 0) (0, 0) 28 0)) else (hk_u (hk_u (hk_u σ (1, 8) g.toNatClampNeg ((σ (1, 8) g.toNatClampNeg) + 1)) (0, 0) 27 ((σ (0, 0) 27) + 1)) (0, 0) 28 ((σ (0, 0) 28) ||| (1 <<< (g &&& 31)))))
set_option maxHeartbeats 4000000 in
set_option maxRecDepth 100000 in
theorem c_m_presses (l : Launch) (D : hk_D) (G : hk_G) (Z : hk_Z) (τ σ : hk_v) (g : Int32) (hM : hk_M G) (hv6 : vp_in g 6) (h0 : ¬ σ (0, 0) 24 < 0) : Met l yX11_presses (hk_ws yX11_presses cX11_presses 2 none) ({ frames := 0, cells := 0, slots := 0, locals := 0 }) (hk_P D G (hk_cm τ σ) [.ref (G.1 (.inr (0, 0))), .int g]) (hk_Q D (hk_e G (none) (hk_cm τ (T_m_presses σ g)))) 0 0 (hk_A D) := by
  refine hk_met (by decide +kernel) (Nat.le_of_ble_eq_true rfl) (fun p e s m below meth c hx hb hr hml hlocks ht hown hin hK hH hS ls hl => ?_)
  have hl : lv_has ls 2 [(0, .ref (G.1 (.inr (0, 0)))), (1, .int g)] := hl
  refine lv_aload_n hx hb dX11_presses_0 rfl (lv_at hl 0 rfl) ?_
  refine hk_getr (L := (.inr (0, 0))) (v := .ref (G.1 (.inr (1, 8)))) hx hb ht hown hK hH kc_12 hM.k0 8 (by decide) rfl tw_700 rfl hM.r8 dX11_presses_1 ?_
  refine lv_iload_n hx hb dX11_presses_4 rfl (lv_at hl 1 rfl) ?_
  refine lv_dup2_11 hx hb dX11_presses_5 rfl rfl ?_
  refine hk_ild (L := (.inr (1, 8))) (v := σ (1, 8) g.toNatClampNeg) hx hb hK hH hM.k8 hv6 rfl dX11_presses_6 ?_
  refine lv_iconst (v := 1) hx hb dX11_presses_7 (by decide) ?_
  refine lv_iadd hx hb dX11_presses_8 ?_
  refine hk_ist (L := (.inr (1, 8))) hx hb hK hH hS hM.k8 hv6 dX11_presses_9 (fun H locs hH hS => ?_)
  rw [hk_up_r] at hH
  refine lv_aload_n hx hb dX11_presses_10 rfl (lv_at hl 0 rfl) ?_
  refine lv_dup hx hb dX11_presses_11 rfl ?_
  refine hk_geti (L := (.inr (0, 0))) (v := σ (0, 0) 27) hx hb ht hown hK hH kc_12 hM.k0 27 (by decide) rfl tw_719 rfl (by simp [hk_cm, hk_u_ap]) dX11_presses_12 ?_
  refine lv_iconst (v := 1) hx hb dX11_presses_15 (by decide) ?_
  refine lv_iadd hx hb dX11_presses_16 ?_
  refine hk_puti (L := (.inr (0, 0))) hx hb ht hown hK hH hS kc_12 hM.k0 27 (by decide) rfl tw_719 rfl (Or.inl rfl) rfl dX11_presses_17 (fun H locs hH hS => ?_)
  rw [hk_up_r] at hH
  refine lv_aload_n hx hb dX11_presses_20 rfl (lv_at hl 0 rfl) ?_
  refine lv_dup hx hb dX11_presses_21 rfl ?_
  refine hk_geti (L := (.inr (0, 0))) (v := σ (0, 0) 28) hx hb ht hown hK hH kc_12 hM.k0 28 (by decide) rfl tw_720 rfl (by simp [hk_cm, hk_u_ap]) dX11_presses_22 ?_
  refine lv_iconst (v := 1) hx hb dX11_presses_25 (by decide) ?_
  refine lv_iload_n hx hb dX11_presses_26 rfl (lv_at hl 1 rfl) ?_
  refine lv_ishl hx hb dX11_presses_27 ?_
  refine lv_ior hx hb dX11_presses_28 ?_
  refine hk_puti (L := (.inr (0, 0))) hx hb ht hown hK hH hS kc_12 hM.k0 28 (by decide) rfl tw_720 rfl (Or.inl rfl) rfl dX11_presses_29 (fun H locs hH hS => ?_)
  rw [hk_up_r] at hH
  refine lv_aload_n hx hb dX11_presses_32 rfl (lv_at hl 0 rfl) ?_
  refine hk_geti (L := (.inr (0, 0))) (v := (σ (0, 0) 27) + 1) hx hb ht hown hK hH kc_12 hM.k0 27 (by decide) rfl tw_719 rfl (by simp [hk_cm, hk_u_ap]) dX11_presses_33 ?_
  refine lv_bipush (v := 20) hx hb dX11_presses_36 (by decide) ?_
  refine lv_icmp_ne (tgt := 99) hx hb dX11_presses_38 (by decide) (fun c_1 => ?_) (fun c_1 => ?_)
  · exact hk_vret hx hb hr hlocks hH hS ⟨rfl, rfl, (by simp only [T_m_presses, if_neg c_1])⟩ dX11_presses_99
  · refine lv_aload_n hx hb dX11_presses_41 rfl (lv_at hl 0 rfl) ?_
    refine hk_geti (L := (.inr (0, 0))) (v := σ (0, 0) 24) hx hb ht hown hK hH kc_12 hM.k0 24 (by decide) rfl tw_716 rfl (by simp [hk_cm, hk_u_ap]) dX11_presses_42 ?_
    refine lv_bipush (v := 100) hx hb dX11_presses_45 (by decide) ?_
    refine lv_icmp_ge (tgt := 79) hx hb dX11_presses_47 (by decide) (fun c_2 => ?_) (fun c_2 => ?_)
    · refine lv_aload_n hx hb dX11_presses_79 rfl (lv_at hl 0 rfl) ?_
      refine lv_dup hx hb dX11_presses_80 rfl ?_
      refine hk_geti (L := (.inr (0, 0))) (v := σ (0, 0) 24) hx hb ht hown hK hH kc_12 hM.k0 24 (by decide) rfl tw_716 rfl (by simp [hk_cm, hk_u_ap]) dX11_presses_81 ?_
      refine lv_iconst (v := 1) hx hb dX11_presses_84 (by decide) ?_
      refine lv_iadd hx hb dX11_presses_85 ?_
      refine hk_puti (L := (.inr (0, 0))) hx hb ht hown hK hH hS kc_12 hM.k0 24 (by decide) rfl tw_716 rfl (Or.inl rfl) rfl dX11_presses_86 (fun H locs hH hS => ?_)
      rw [hk_up_r] at hH
      refine lv_aload_n hx hb dX11_presses_89 rfl (lv_at hl 0 rfl) ?_
      refine lv_iconst (v := 0) hx hb dX11_presses_90 (by decide) ?_
      refine hk_puti (L := (.inr (0, 0))) hx hb ht hown hK hH hS kc_12 hM.k0 27 (by decide) rfl tw_719 rfl (Or.inl rfl) rfl dX11_presses_91 (fun H locs hH hS => ?_)
      rw [hk_up_r] at hH
      refine lv_aload_n hx hb dX11_presses_94 rfl (lv_at hl 0 rfl) ?_
      refine lv_iconst (v := 0) hx hb dX11_presses_95 (by decide) ?_
      refine hk_puti (L := (.inr (0, 0))) hx hb ht hown hK hH hS kc_12 hM.k0 28 (by decide) rfl tw_720 rfl (Or.inl rfl) rfl dX11_presses_96 (fun H locs hH hS => ?_)
      rw [hk_up_r] at hH
      exact hk_vret hx hb hr hlocks hH hS ⟨rfl, rfl, (by simp only [T_m_presses, if_pos c_1, if_pos c_2])⟩ dX11_presses_99
    · refine lv_aload_n hx hb dX11_presses_50 rfl (lv_at hl 0 rfl) ?_
      refine hk_getr (L := (.inr (0, 0))) (v := .ref (G.1 (.inr (1, 25)))) hx hb ht hown hK hH kc_12 hM.k0 25 (by decide) rfl tw_717 rfl hM.r25 dX11_presses_51 ?_
      refine lv_aload_n hx hb dX11_presses_54 rfl (lv_at hl 0 rfl) ?_
      refine hk_geti (L := (.inr (0, 0))) (v := σ (0, 0) 24) hx hb ht hown hK hH kc_12 hM.k0 24 (by decide) rfl tw_716 rfl (by simp [hk_cm, hk_u_ap]) dX11_presses_55 ?_
      refine lv_aload_n hx hb dX11_presses_58 rfl (lv_at hl 0 rfl) ?_
      refine hk_geti (L := (.inr (0, 0))) (v := (σ (0, 0) 28) ||| (1 <<< (g &&& 31))) hx hb ht hown hK hH kc_12 hM.k0 28 (by decide) rfl tw_720 rfl (by simp [hk_cm, hk_u_ap]) dX11_presses_59 ?_
      refine hk_ist (L := (.inr (1, 25))) hx hb hK hH hS hM.k25 (hk_vin h0 c_2) dX11_presses_62 (fun H locs hH hS => ?_)
      rw [hk_up_r] at hH
      refine lv_aload_n hx hb dX11_presses_63 rfl (lv_at hl 0 rfl) ?_
      refine hk_getr (L := (.inr (0, 0))) (v := .ref (G.1 (.inr (1, 26)))) hx hb ht hown hK hH kc_12 hM.k0 26 (by decide) rfl tw_718 rfl hM.r26 dX11_presses_64 ?_
      refine lv_aload_n hx hb dX11_presses_67 rfl (lv_at hl 0 rfl) ?_
      refine hk_geti (L := (.inr (0, 0))) (v := σ (0, 0) 24) hx hb ht hown hK hH kc_12 hM.k0 24 (by decide) rfl tw_716 rfl (by simp [hk_cm, hk_u_ap]) dX11_presses_68 ?_
      refine lv_aload_n hx hb dX11_presses_71 rfl (lv_at hl 0 rfl) ?_
      refine hk_geti (L := (.inr (0, 0))) (v := σ (0, 0) 0) hx hb ht hown hK hH kc_12 hM.k0 0 (by decide) rfl tw_692 rfl (by simp [hk_cm, hk_u_ap]) dX11_presses_72 ?_
      refine lv_bipush (v := 12) hx hb dX11_presses_75 (by decide) ?_
      refine lv_idiv hx hb dX11_presses_77 (by decide) ?_
      refine hk_ist (L := (.inr (1, 26))) hx hb hK hH hS hM.k26 (hk_vin h0 c_2) dX11_presses_78 (fun H locs hH hS => ?_)
      rw [hk_up_r] at hH
      refine lv_aload_n hx hb dX11_presses_79 rfl (lv_at hl 0 rfl) ?_
      refine lv_dup hx hb dX11_presses_80 rfl ?_
      refine hk_geti (L := (.inr (0, 0))) (v := σ (0, 0) 24) hx hb ht hown hK hH kc_12 hM.k0 24 (by decide) rfl tw_716 rfl (by simp [hk_cm, hk_u_ap]) dX11_presses_81 ?_
      refine lv_iconst (v := 1) hx hb dX11_presses_84 (by decide) ?_
      refine lv_iadd hx hb dX11_presses_85 ?_
      refine hk_puti (L := (.inr (0, 0))) hx hb ht hown hK hH hS kc_12 hM.k0 24 (by decide) rfl tw_716 rfl (Or.inl rfl) rfl dX11_presses_86 (fun H locs hH hS => ?_)
      rw [hk_up_r] at hH
      refine lv_aload_n hx hb dX11_presses_89 rfl (lv_at hl 0 rfl) ?_
      refine lv_iconst (v := 0) hx hb dX11_presses_90 (by decide) ?_
      refine hk_puti (L := (.inr (0, 0))) hx hb ht hown hK hH hS kc_12 hM.k0 27 (by decide) rfl tw_719 rfl (Or.inl rfl) rfl dX11_presses_91 (fun H locs hH hS => ?_)
      rw [hk_up_r] at hH
      refine lv_aload_n hx hb dX11_presses_94 rfl (lv_at hl 0 rfl) ?_
      refine lv_iconst (v := 0) hx hb dX11_presses_95 (by decide) ?_
      refine hk_puti (L := (.inr (0, 0))) hx hb ht hown hK hH hS kc_12 hM.k0 28 (by decide) rfl tw_720 rfl (Or.inl rfl) rfl dX11_presses_96 (fun H locs hH hS => ?_)
      rw [hk_up_r] at hH
      exact hk_vret hx hb hr hlocks hH hS ⟨rfl, rfl, (by simp only [T_m_presses, if_pos c_1, if_neg c_2])⟩ dX11_presses_99
theorem presses_o {σ : hk_v} {g : Int32} {f k : Nat} (h8 : f ≠ 8) (h25 : f ≠ 25) (h26 : f ≠ 26) : T_m_presses σ g (1, f) k = σ (1, f) k := by
  unfold T_m_presses
  split
  · split <;> simp [hk_u_ap, h8, h25, h26]
  · simp [hk_u_ap, h8]
theorem presses_s {σ : hk_v} {g : Int32} {k : Nat} (h24 : k ≠ 24) (h27 : k ≠ 27) (h28 : k ≠ 28) : T_m_presses σ g (0, 0) k = σ (0, 0) k := by
  unfold T_m_presses
  split
  · split <;> simp [hk_u_ap, h24, h27, h28]
  · simp [hk_u_ap, h27, h28]
theorem presses_24 {σ : hk_v} {g : Int32} : T_m_presses σ g (0, 0) 24 = σ (0, 0) 24 + 1 ∨ T_m_presses σ g (0, 0) 24 = σ (0, 0) 24 := by
  unfold T_m_presses
  split
  · split <;> simp [hk_u_ap]
  · simp [hk_u_ap]
theorem dries_step {σ t : hk_v} {P j : Nat} (h : (∀ f k, (f = 22 ∨ f = 23) → t (1, f) k = σ (1, f) k) ∧ ∃ p : Nat, t (0, 0) 24 = nI p ∧ p ≤ P + j) (g : Int32) (hb : P + j < 2 ^ 30) : (∀ f k, (f = 22 ∨ f = 23) → T_m_presses t g (1, f) k = σ (1, f) k) ∧ ∃ p : Nat, T_m_presses t g (0, 0) 24 = nI p ∧ p ≤ P + (j + 1) := by
  refine ⟨fun f k hf => ?_, ?_⟩
  · rw [presses_o (by rcases hf with rfl | rfl <;> decide) (by rcases hf with rfl | rfl <;> decide) (by rcases hf with rfl | rfl <;> decide)]
    exact h.1 f k hf
  · obtain ⟨p, hp, hp2⟩ := h.2
    rcases presses_24 (σ := t) (g := g) with e | e
    · exact ⟨p + 1, by rw [e, hp, nI_1], by omega⟩
    · exact ⟨p, by rw [e, hp], by omega⟩
theorem ymS_X11_dryingBy : hk_mS yX11_dryingBy cX11_dryingBy 3 (some FieldType.int) 2 := ⟨tw_847, tw_846, tw_42, by decide, by decide, by decide +kernel⟩
theorem ymV_X11_presses : hk_mV yX11_presses cX11_presses 2 none RX11 1 := ⟨tw_879, tw_878, tw_25, tw_42, rfl, by decide, by decide, by decide +kernel⟩
def B_m_dries (i : Nat)  (j : Nat) (t : hk_v) : hk_v := (T_m_presses t (t (1, 23) ((200 * i) + j)))
def T_m_dries (σ : hk_v) (i : Nat) : hk_v := (if (σ (1, 22) i) = 0 then σ else (if ((σ (1, 21) i) + (F_m_dryingBy (σ (1, 18) i) (σ (1, 20) i))) < 60 then (hk_u σ (1, 21) i ((σ (1, 21) i) + (F_m_dryingBy (σ (1, 18) i) (σ (1, 20) i)))) else (hk_u (hk_u (hk_it (B_m_dries i) ((σ (1, 22) i).toNatClampNeg) 0 (hk_u σ (1, 21) i ((σ (1, 21) i) + (F_m_dryingBy (σ (1, 18) i) (σ (1, 20) i))))) (1, 22) i 0) (1, 21) i 0)))
set_option maxHeartbeats 4000000 in
set_option maxRecDepth 100000 in
theorem c_m_dries (l : Launch) (D : hk_D) (G : hk_G) (Z : hk_Z) (τ σ : hk_v) (i : Nat) (hM : hk_M G) (P : Nat) (hi : i < 4) (hf : σ (1, 22) i = nI (σ (1, 22) i).toNatClampNeg ∧ (σ (1, 22) i).toNatClampNeg ≤ 200) (hbv : ∀ j, j < (σ (1, 22) i).toNatClampNeg → vp_in (σ (1, 23) (200 * i + j)) 6) (hp0 : σ (0, 0) 24 = nI P) (hP : P + 200 < 2 ^ 30) : Met l yX11_dries (hk_ws yX11_dries cX11_dries 3 none) ({ frames := 1, cells := 0, slots := 0, locals := 22 }) (hk_P D G (hk_cm τ σ) [.ref (G.1 (.inr (0, 0))), .int (nI i)]) (hk_Q D (hk_e G (none) (hk_cm τ (T_m_dries σ i)))) 0 0 (hk_A D) := by
  refine hk_met (by decide +kernel) (Nat.le_of_ble_eq_true rfl) (fun p e s m below meth c hx hb hr hml hlocks ht hown hin hK hH hS ls hl => ?_)
  have hl : lv_has ls 3 [(0, .ref (G.1 (.inr (0, 0)))), (1, .int (nI i))] := hl
  refine lv_aload_n hx hb dX11_dries_0 rfl (lv_at hl 0 rfl) ?_
  refine hk_getr (L := (.inr (0, 0))) (v := .ref (G.1 (.inr (1, 22)))) hx hb ht hown hK hH kc_12 hM.k0 22 (by decide) rfl tw_714 rfl hM.r22 dX11_dries_1 ?_
  refine lv_iload_n hx hb dX11_dries_4 rfl (lv_at hl 1 rfl) ?_
  refine hk_ild (L := (.inr (1, 22))) (v := σ (1, 22) i) hx hb hK hH hM.k22 (vp_in_nI (by omega) (by omega)) (by rw [nI_clamp (by omega)]; rfl) dX11_dries_5 ?_
  refine lv_if_ne (tgt := 10) hx hb dX11_dries_6 (by decide) (fun c_1 => ?_) (fun c_1 => ?_)
  · refine lv_aload_n hx hb dX11_dries_10 rfl (lv_at hl 0 rfl) ?_
    refine hk_getr (L := (.inr (0, 0))) (v := .ref (G.1 (.inr (1, 21)))) hx hb ht hown hK hH kc_12 hM.k0 21 (by decide) rfl tw_713 rfl hM.r21 dX11_dries_11 ?_
    refine lv_iload_n hx hb dX11_dries_14 rfl (lv_at hl 1 rfl) ?_
    refine lv_dup2_11 hx hb dX11_dries_15 rfl rfl ?_
    refine hk_ild (L := (.inr (1, 21))) (v := σ (1, 21) i) hx hb hK hH hM.k21 (vp_in_nI (by omega) (by omega)) (by rw [nI_clamp (by omega)]; rfl) dX11_dries_16 ?_
    refine lv_aload_n hx hb dX11_dries_17 rfl (lv_at hl 0 rfl) ?_
    refine hk_getr (L := (.inr (0, 0))) (v := .ref (G.1 (.inr (1, 18)))) hx hb ht hown hK hH kc_12 hM.k0 18 (by decide) rfl tw_710 rfl hM.r18 dX11_dries_18 ?_
    refine lv_iload_n hx hb dX11_dries_21 rfl (lv_at hl 1 rfl) ?_
    refine hk_ild (L := (.inr (1, 18))) (v := σ (1, 18) i) hx hb hK hH hM.k18 (vp_in_nI (by omega) (by omega)) (by rw [nI_clamp (by omega)]; rfl) dX11_dries_22 ?_
    refine lv_aload_n hx hb dX11_dries_23 rfl (lv_at hl 0 rfl) ?_
    refine hk_getr (L := (.inr (0, 0))) (v := .ref (G.1 (.inr (1, 20)))) hx hb ht hown hK hH kc_12 hM.k0 20 (by decide) rfl tw_712 rfl hM.r20 dX11_dries_24 ?_
    refine lv_iload_n hx hb dX11_dries_27 rfl (lv_at hl 1 rfl) ?_
    refine hk_ild (L := (.inr (1, 20))) (v := σ (1, 20) i) hx hb hK hH hM.k20 (vp_in_nI (by omega) (by omega)) (by rw [nI_clamp (by omega)]; rfl) dX11_dries_28 ?_
    refine hk_cS (As := [.int (σ (1, 18) i), .int (σ (1, 20) i)]) (rest := [.int (σ (1, 21) i), .int (nI i), .ref (G.1 (.inr (1, 21)))]) hx hb hml hl.1 ht hown hK hH hS (c_m_dryingBy l D G τ σ (σ (1, 18) i) (σ (1, 20) i)) ymS_X11_dryingBy tw_845 ⟨rfl, rfl⟩ ⟨Nat.le_of_ble_eq_true rfl, Nat.le_of_ble_eq_true rfl⟩ rfl rfl (Nat.le_of_ble_eq_true rfl) dX11_dries_29 ⟨Nat.le_of_ble_eq_true rfl, Nat.le_of_ble_eq_true rfl⟩ (hk_ea (fun H locs hH hS => ?_))
    refine lv_iadd hx hb dX11_dries_32 ?_
    refine hk_ist (L := (.inr (1, 21))) hx hb hK hH hS hM.k21 (vp_in_nI (by omega) (by omega)) dX11_dries_33 (fun H locs hH hS => ?_)
    rw [hk_up_r, nI_clamp (by omega)] at hH
    refine lv_aload_n hx hb dX11_dries_34 rfl (lv_at hl 0 rfl) ?_
    refine hk_getr (L := (.inr (0, 0))) (v := .ref (G.1 (.inr (1, 21)))) hx hb ht hown hK hH kc_12 hM.k0 21 (by decide) rfl tw_713 rfl hM.r21 dX11_dries_35 ?_
    refine lv_iload_n hx hb dX11_dries_38 rfl (lv_at hl 1 rfl) ?_
    refine hk_ild (L := (.inr (1, 21))) (v := (σ (1, 21) i) + (F_m_dryingBy (σ (1, 18) i) (σ (1, 20) i))) hx hb hK hH hM.k21 (vp_in_nI (by omega) (by omega)) (by rw [nI_clamp (by omega)]; simp [hk_cm, hk_u_ap]) dX11_dries_39 ?_
    refine lv_bipush (v := 60) hx hb dX11_dries_40 (by decide) ?_
    refine lv_icmp_lt (tgt := 93) hx hb dX11_dries_42 (by decide) (fun c_2 => ?_) (fun c_2 => ?_)
    · exact hk_vret hx hb hr hlocks hH hS ⟨rfl, rfl, (by simp only [T_m_dries, if_neg c_1, if_pos c_2])⟩ dX11_dries_93
    · refine lv_iconst (v := 0) hx hb dX11_dries_45 (by decide) ?_
      refine lv_istore_n (lv' := [(2, .int 0), (0, .ref (G.1 (.inr (0, 0)))), (1, .int (nI i))]) hx hb dX11_dries_46 rfl hl (by decide) rfl (fun ls hl => ?_)
      have LP_3 : ∀ (r j : Nat) (t : hk_v) (H : Heap) (locs : List Loc) (ls : Array Slot) (QQ : State → Prop), j + r = (σ (1, 22) i).toNatClampNeg → ((∀ f k, (f = 22 ∨ f = 23) → t (1, f) k = σ (1, f) k) ∧ ∃ p : Nat, t (0, 0) 24 = nI p ∧ p ≤ P + j) → hk_H D G (hk_cm τ t) H → va_S (hk_A D) s.heap H locs → lv_has ls 3 [(2, .int (nI j)), (0, .ref (G.1 (.inr (0, 0)))), (1, .int (nI i))] → (∀ (H : Heap) (locs : List Loc) (ls : Array Slot), hk_H D G (hk_cm τ (hk_it (B_m_dries i) r j t)) H → va_S (hk_A D) s.heap H locs → lv_has ls 3 [(2, .int (nI ((σ (1, 22) i).toNatClampNeg))), (0, .ref (G.1 (.inr (0, 0)))), (1, .int (nI i))] → ((∀ f k, (f = 22 ∨ f = 23) → (hk_it (B_m_dries i) r j t) (1, f) k = σ (1, f) k) ∧ ∃ p : Nat, (hk_it (B_m_dries i) r j t) (0, 0) 24 = nI p ∧ p ≤ P + (σ (1, 22) i).toNatClampNeg) → W p l e ({ frames := 1, cells := 0, slots := 0, locals := 22 }) s m ([.ref (G.1 (.inr (0, 0))), .int (nI i)] : List Value).toArray below meth c H locs 0 0 QQ (F0 m 79 ls [])) → W p l e ({ frames := 1, cells := 0, slots := 0, locals := 22 }) s m ([.ref (G.1 (.inr (0, 0))), .int (nI i)] : List Value).toArray below meth c H locs 0 0 QQ (F0 m 47 ls []) := by
        intro r
        induction r with
        | zero =>
          intro j t H locs ls QQ hn_m_dries hI_m_dries hH hS hl kk
          have e22 : t (1, 22) i = nI (σ (1, 22) i).toNatClampNeg := by rw [hI_m_dries.1 _ _ (Or.inl rfl)]; exact hf.1
          have hf2 := hf.2
          refine lv_iload_n hx hb dX11_dries_47 rfl (lv_at hl 0 rfl) ?_
          refine lv_aload_n hx hb dX11_dries_48 rfl (lv_at hl 1 rfl) ?_
          refine hk_getr (L := (.inr (0, 0))) (v := .ref (G.1 (.inr (1, 22)))) hx hb ht hown hK hH kc_12 hM.k0 22 (by decide) rfl tw_714 rfl hM.r22 dX11_dries_49 ?_
          refine lv_iload_n hx hb dX11_dries_52 rfl (lv_at hl 2 rfl) ?_
          refine hk_ild (L := (.inr (1, 22))) (v := t (1, 22) i) hx hb hK hH hM.k22 (vp_in_nI (by omega) (by omega)) (by rw [nI_clamp (by omega)]; rfl) dX11_dries_53 ?_
          refine lv_icmp_ge (tgt := 79) hx hb dX11_dries_54 (by decide) (fun c_4 => ?_) (fun c_4 => ?_)
          rotate_left
          · exfalso; rw [e22] at c_4; first | exact nI_ge (by omega) (by omega) c_4 | exact c_4 (nI_le (by omega) (by omega)) | exact nI_nlt (by omega) (by omega) c_4 | exact c_4 (nI_lt (by omega) (by omega))
          have hiN : j = (σ (1, 22) i).toNatClampNeg := by omega
          rw [hiN] at hl hI_m_dries
          exact kk H locs ls hH hS (lv_sub hl [0, 1, 2] rfl) hI_m_dries
        | succ r ih =>
          intro j t H locs ls QQ hn_m_dries hI_m_dries hH hS hl kk
          have e22 : t (1, 22) i = nI (σ (1, 22) i).toNatClampNeg := by rw [hI_m_dries.1 _ _ (Or.inl rfl)]; exact hf.1
          have hf2 := hf.2
          refine lv_iload_n hx hb dX11_dries_47 rfl (lv_at hl 0 rfl) ?_
          refine lv_aload_n hx hb dX11_dries_48 rfl (lv_at hl 1 rfl) ?_
          refine hk_getr (L := (.inr (0, 0))) (v := .ref (G.1 (.inr (1, 22)))) hx hb ht hown hK hH kc_12 hM.k0 22 (by decide) rfl tw_714 rfl hM.r22 dX11_dries_49 ?_
          refine lv_iload_n hx hb dX11_dries_52 rfl (lv_at hl 2 rfl) ?_
          refine hk_ild (L := (.inr (1, 22))) (v := t (1, 22) i) hx hb hK hH hM.k22 (vp_in_nI (by omega) (by omega)) (by rw [nI_clamp (by omega)]; rfl) dX11_dries_53 ?_
          refine lv_icmp_ge (tgt := 79) hx hb dX11_dries_54 (by decide) (fun c_5 => ?_) (fun c_5 => ?_)
          · exfalso; rw [e22] at c_5; first | exact nI_ge (by omega) (by omega) c_5 | exact c_5 (nI_le (by omega) (by omega)) | exact nI_nlt (by omega) (by omega) c_5 | exact c_5 (nI_lt (by omega) (by omega))
          refine lv_aload_n hx hb dX11_dries_57 rfl (lv_at hl 1 rfl) ?_
          refine lv_aload_n hx hb dX11_dries_58 rfl (lv_at hl 1 rfl) ?_
          refine hk_getr (L := (.inr (0, 0))) (v := .ref (G.1 (.inr (1, 23)))) hx hb ht hown hK hH kc_12 hM.k0 23 (by decide) rfl tw_715 rfl hM.r23 dX11_dries_59 ?_
          refine lv_sipush (v := 200) hx hb dX11_dries_62 (by decide) ?_
          refine lv_iload_n hx hb dX11_dries_65 rfl (lv_at hl 2 rfl) ?_
          refine lv_imul hx hb dX11_dries_66 ?_
          rw [show (200 : Int32) * nI i = nI (200 * i) from pk_mul 200 _]
          refine lv_iload_n hx hb dX11_dries_67 rfl (lv_at hl 0 rfl) ?_
          refine lv_iadd hx hb dX11_dries_68 ?_
          rw [nI_add (200 * i) j]
          refine hk_ild (L := (.inr (1, 23))) (v := t (1, 23) ((200 * i) + j)) hx hb hK hH hM.k23 (vp_in_nI (by omega) (by omega)) (by rw [nI_clamp (by omega)]; rfl) dX11_dries_69 ?_
          refine hk_cV (L := (.inr (0, 0))) (As := [.int (t (1, 23) ((200 * i) + j))]) (rest := []) hx hb hml hl.1 ht hown hK hH hS (c_m_presses l D G Z τ t (t (1, 23) ((200 * i) + j)) hM (by rw [hI_m_dries.1 _ _ (Or.inr rfl)]; exact hbv j (by omega)) (by obtain ⟨p, hp, hp2⟩ := hI_m_dries.2; rw [hp]; exact nI_pos (by omega))) ymV_X11_presses kc_12 hM.k0 tw_876 ⟨rfl, rfl⟩ ⟨Nat.le_of_ble_eq_true rfl, Nat.le_of_ble_eq_true rfl⟩ rfl rfl (Nat.le_of_ble_eq_true rfl) dX11_dries_70 ⟨Nat.le_of_ble_eq_true rfl, Nat.le_of_ble_eq_true rfl⟩ (hk_ev (fun H locs hH hS => ?_))
          refine lv_iinc (v := nI (j + 1)) (lv' := [(2, .int (nI (j + 1))), (0, .ref (G.1 (.inr (0, 0)))), (1, .int (nI i))]) hx hb dX11_dries_73 hl (k := 0) rfl (nI_1 _) (by decide) rfl (fun ls hl => ?_)
          refine lv_goto (tgt := 47) hx hb dX11_dries_76 (by decide) ?_
          have EB_6 : (B_m_dries i) j t = (T_m_presses t (t (1, 23) ((200 * i) + j))) := by simp only [B_m_dries]
          have hI2 : ((∀ f k, (f = 22 ∨ f = 23) → (T_m_presses t (t (1, 23) ((200 * i) + j))) (1, f) k = σ (1, f) k) ∧ ∃ p : Nat, (T_m_presses t (t (1, 23) ((200 * i) + j))) (0, 0) 24 = nI p ∧ p ≤ P + (j + 1)) := by
            exact dries_step hI_m_dries _ (by omega)
          exact ih (j + 1) (T_m_presses t (t (1, 23) ((200 * i) + j))) _ _ _ QQ (by omega) hI2 hH hS (lv_sub hl [0, 1, 2] rfl) (fun H locs ls hH hS hl hI_m_dries => kk H locs ls (by rw [hk_it_s, EB_6]; exact hH) hS hl (by first | exact hI_m_dries | (rw [hk_it_s, EB_6]; exact hI_m_dries)))
      refine LP_3 ((σ (1, 22) i).toNatClampNeg) 0 (hk_u σ (1, 21) i ((σ (1, 21) i) + (F_m_dryingBy (σ (1, 18) i) (σ (1, 20) i)))) _ _ _ _ (by omega) ⟨fun f k h => by rcases h with rfl | rfl <;> rfl, P, by simpa [hk_u_ap] using hp0, by omega⟩ hH hS (lv_sub hl [0, 1, 2] rfl) (fun H locs ls hH hS hl hI_m_dries => ?_)
      refine lv_aload_n hx hb dX11_dries_79 rfl (lv_at hl 1 rfl) ?_
      refine hk_getr (L := (.inr (0, 0))) (v := .ref (G.1 (.inr (1, 22)))) hx hb ht hown hK hH kc_12 hM.k0 22 (by decide) rfl tw_714 rfl hM.r22 dX11_dries_80 ?_
      refine lv_iload_n hx hb dX11_dries_83 rfl (lv_at hl 2 rfl) ?_
      refine lv_iconst (v := 0) hx hb dX11_dries_84 (by decide) ?_
      refine hk_ist (L := (.inr (1, 22))) hx hb hK hH hS hM.k22 (vp_in_nI (by omega) (by omega)) dX11_dries_85 (fun H locs hH hS => ?_)
      rw [hk_up_r, nI_clamp (by omega)] at hH
      refine lv_aload_n hx hb dX11_dries_86 rfl (lv_at hl 1 rfl) ?_
      refine hk_getr (L := (.inr (0, 0))) (v := .ref (G.1 (.inr (1, 21)))) hx hb ht hown hK hH kc_12 hM.k0 21 (by decide) rfl tw_713 rfl hM.r21 dX11_dries_87 ?_
      refine lv_iload_n hx hb dX11_dries_90 rfl (lv_at hl 2 rfl) ?_
      refine lv_iconst (v := 0) hx hb dX11_dries_91 (by decide) ?_
      refine hk_ist (L := (.inr (1, 21))) hx hb hK hH hS hM.k21 (vp_in_nI (by omega) (by omega)) dX11_dries_92 (fun H locs hH hS => ?_)
      rw [hk_up_r, nI_clamp (by omega)] at hH
      exact hk_vret hx hb hr hlocks hH hS ⟨rfl, rfl, (by simp only [T_m_dries, if_neg c_1, if_neg c_2])⟩ dX11_dries_93
  · exact hk_vret hx hb hr hlocks hH hS ⟨rfl, rfl, (by simp only [T_m_dries, if_pos c_1])⟩ dX11_dries_9
