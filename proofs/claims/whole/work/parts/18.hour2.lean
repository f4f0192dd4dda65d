theorem ymV_X9_lay : hk_mV yX9_lay cX9_lay 4 none RX9 3 := ⟨tw_526, tw_524, tw_525, tw_39, rfl, by decide, by decide, by decide +kernel⟩
theorem ymV_X6_clear : hk_mV yX6_clear cX6_clear 1 none RX6 0 := ⟨tw_534, tw_532, tw_533, tw_51, rfl, by decide, by decide, by decide +kernel⟩
def B_unload (i : Nat)  (j : Nat) (t : hk_v) : hk_v := (if hk_in (t (13, i) j) 0 (t (1, 0) 2 - 1) = 0 then (T_play t (t (13, i) j) (t (14, i) j) ((t (0, 0) 8) / 12)) else (T_play (hk_u t (9, (t (13, i) j).toNatClampNeg) 5 ((t (9, (t (13, i) j).toNatClampNeg) 5) + (t (14, i) j))) (t (13, i) j) (t (14, i) j) ((t (0, 0) 8) / 12)))
def T_unload (τ : hk_v) (i : Nat) : hk_v := (T_clear (hk_it (B_unload i) ((τ (11, i) 4).toNatClampNeg) 0 τ) i)
set_option maxHeartbeats 4000000 in
set_option maxRecDepth 100000 in
theorem c_unload (l : Launch) (D : hk_D) (G : hk_G) (Z : hk_Z) (τ σ : hk_v) (i : Nat) (hG : hk_Y D G Z) (hi : i < Z.1 2) (hs : hk_sz Z τ) (hlo : hk_lo Z τ) (hbu : ∀ j, j < (τ (11, i) 4).toNatClampNeg → ∃ b, b ≤ 200 ∧ τ (14, i) j = nI b) (P : Nat) (hps : hk_ps τ P) (hP : P + 2400 < 2 ^ 30) : Met l yX10_unload (hk_ws yX10_unload cX10_unload 4 none) ({ frames := 4, cells := 0, slots := 0, locals := 85 }) (hk_P D G (hk_cm τ σ) [.ref (G.1 (.inl (0, 0))), .ref (G.1 (.inl (11, i)))]) (hk_Q D (hk_e G (none) (hk_cm (T_unload τ i) σ))) 0 0 (hk_A D) := by
  refine hk_met (by decide +kernel) (Nat.le_of_ble_eq_true rfl) (fun p e s m below meth c hx hb hr hml hlocks ht hown hin hK hH hS ls hl => ?_)
  have hl : lv_has ls 4 [(0, .ref (G.1 (.inl (0, 0)))), (1, .ref (G.1 (.inl (11, i))))] := hl
  refine lv_iconst (v := 0) hx hb dX10_unload_0 (by decide) ?_
  refine lv_istore_n (lv' := [(2, .int 0), (0, .ref (G.1 (.inl (0, 0)))), (1, .ref (G.1 (.inl (11, i))))]) hx hb dX10_unload_1 rfl hl (by decide) rfl (fun ls hl => ?_)
  have LP_1 : ∀ (r j : Nat) (t : hk_v) (H : Heap) (locs : List Loc) (ls : Array Slot) (QQ : State → Prop), j + r = (τ (11, i) 4).toNatClampNeg → ((∀ q k, q.1 ≠ 9 → q.1 ≠ 4 → t q k = τ q k) ∧ hk_ps t (P + 11 * j)) → hk_H D G (hk_cm t σ) H → va_S (hk_A D) s.heap H locs → lv_has ls 4 [(2, .int (nI j)), (0, .ref (G.1 (.inl (0, 0)))), (1, .ref (G.1 (.inl (11, i))))] → (∀ (H : Heap) (locs : List Loc) (ls : Array Slot), hk_H D G (hk_cm (hk_it (B_unload i) r j t) σ) H → va_S (hk_A D) s.heap H locs → lv_has ls 4 [(2, .int (nI ((τ (11, i) 4).toNatClampNeg))), (0, .ref (G.1 (.inl (0, 0)))), (1, .ref (G.1 (.inl (11, i))))] → ((∀ q k, q.1 ≠ 9 → q.1 ≠ 4 → (hk_it (B_unload i) r j t) q k = τ q k) ∧ hk_ps (hk_it (B_unload i) r j t) (P + 11 * (τ (11, i) 4).toNatClampNeg)) → W p l e ({ frames := 4, cells := 0, slots := 0, locals := 85 }) s m ([.ref (G.1 (.inl (0, 0))), .ref (G.1 (.inl (11, i)))] : List Value).toArray below meth c H locs 0 0 QQ (F0 m 72 ls [])) → W p l e ({ frames := 4, cells := 0, slots := 0, locals := 85 }) s m ([.ref (G.1 (.inl (0, 0))), .ref (G.1 (.inl (11, i)))] : List Value).toArray below meth c H locs 0 0 QQ (F0 m 2 ls []) := by
    intro r
    induction r with
    | zero =>
      intro j t H locs ls QQ hn_unload hI_unload hH hS hl kk
      have e4 : t (11, i) 4 = nI (τ (11, i) 4).toNatClampNeg := by rw [hI_unload.1 _ _ (show (11 : Nat) ≠ 9 by decide) (show (11 : Nat) ≠ 4 by decide)]; exact (hlo i hi).1
      have hst : hk_sz Z t := hs.of (fun j => hI_unload.1 _ _ (show (1 : Nat) ≠ 9 by decide) (show (1 : Nat) ≠ 4 by decide))
      have hle := (hlo i hi).2.1
      have hz := (hlo i hi).2.2
      refine lv_iload_n hx hb dX10_unload_2 rfl (lv_at hl 0 rfl) ?_
      refine lv_aload_n hx hb dX10_unload_3 rfl (lv_at hl 2 rfl) ?_
      refine hk_geti (L := (.inl (11, i))) (v := t (11, i) 4) hx hb ht hown hK hH kc_7 (hG.k11 i hi) 4 (by decide) rfl tw_403 rfl rfl dX10_unload_4 ?_
      refine lv_icmp_ge (tgt := 72) hx hb dX10_unload_7 (by decide) (fun c_2 => ?_) (fun c_2 => ?_)
      rotate_left
      · exfalso; rw [e4] at c_2; first | exact nI_ge (by omega) (by omega) c_2 | exact c_2 (nI_le (by omega) (by omega)) | exact nI_nlt (by omega) (by omega) c_2 | exact c_2 (nI_lt (by omega) (by omega))
      have hiN : j = (τ (11, i) 4).toNatClampNeg := by omega
      rw [hiN] at hl hI_unload
      exact kk H locs ls hH hS (lv_sub hl [0, 1, 2] rfl) hI_unload
    | succ r ih =>
      intro j t H locs ls QQ hn_unload hI_unload hH hS hl kk
      have e4 : t (11, i) 4 = nI (τ (11, i) 4).toNatClampNeg := by rw [hI_unload.1 _ _ (show (11 : Nat) ≠ 9 by decide) (show (11 : Nat) ≠ 4 by decide)]; exact (hlo i hi).1
      have hst : hk_sz Z t := hs.of (fun j => hI_unload.1 _ _ (show (1 : Nat) ≠ 9 by decide) (show (1 : Nat) ≠ 4 by decide))
      have hle := (hlo i hi).2.1
      have hz := (hlo i hi).2.2
      refine lv_iload_n hx hb dX10_unload_2 rfl (lv_at hl 0 rfl) ?_
      refine lv_aload_n hx hb dX10_unload_3 rfl (lv_at hl 2 rfl) ?_
      refine hk_geti (L := (.inl (11, i))) (v := t (11, i) 4) hx hb ht hown hK hH kc_7 (hG.k11 i hi) 4 (by decide) rfl tw_403 rfl rfl dX10_unload_4 ?_
      refine lv_icmp_ge (tgt := 72) hx hb dX10_unload_7 (by decide) (fun c_3 => ?_) (fun c_3 => ?_)
      · exfalso; rw [e4] at c_3; first | exact nI_ge (by omega) (by omega) c_3 | exact c_3 (nI_le (by omega) (by omega)) | exact nI_nlt (by omega) (by omega) c_3 | exact c_3 (nI_lt (by omega) (by omega))
      refine lv_aload_n hx hb dX10_unload_10 rfl (lv_at hl 1 rfl) ?_
      refine lv_aload_n hx hb dX10_unload_11 rfl (lv_at hl 2 rfl) ?_
      refine hk_getr (L := (.inl (11, i))) (v := .ref (G.1 (.inl (13, i)))) hx hb ht hown hK hH kc_7 (hG.k11 i hi) 2 (by decide) rfl tw_399 rfl (hG.r11_2 i hi) dX10_unload_12 ?_
      refine lv_iload_n hx hb dX10_unload_15 rfl (lv_at hl 0 rfl) ?_
      refine hk_ild (L := (.inl (13, i))) (v := t (13, i) j) hx hb hK hH (hG.k13 i hi) (vp_in_nI (by omega) (by omega)) (by rw [nI_clamp (by omega)]; rfl) dX10_unload_16 ?_
      by_cases ho_4 : hk_in (t (13, i) j) 0 (t (1, 0) 2 - 1) = 0
      · refine hk_cV (L := (.inl (0, 0))) (As := [.int (t (13, i) j)]) (rest := []) hx hb hml hl.1 ht hown hK hH hS (c_gardenOf_out l D G Z t σ (t (13, i) j) hG hst ho_4) ymV_X10_gardenOf kc_11 hG.k0 tw_357 ⟨rfl, rfl⟩ ⟨Nat.le_of_ble_eq_true rfl, Nat.le_of_ble_eq_true rfl⟩ rfl rfl (Nat.le_of_ble_eq_true rfl) dX10_unload_17 ⟨Nat.le_of_ble_eq_true rfl, Nat.le_of_ble_eq_true rfl⟩ (hk_ea (fun H locs hH hS => ?_))
        refine lv_astore_nN (lv' := [(3, .null), (2, .int (nI j)), (0, .ref (G.1 (.inl (0, 0)))), (1, .ref (G.1 (.inl (11, i))))]) hx hb dX10_unload_20 rfl hl (by decide) rfl (fun ls hl => ?_)
        refine lv_aload_nN hx hb dX10_unload_21 rfl (lv_at hl 0 rfl) ?_
        refine lv_ifnullN (tgt := 40) hx hb dX10_unload_22 (by decide) ?_
        refine lv_aload_n hx hb dX10_unload_40 rfl (lv_at hl 2 rfl) ?_
        refine hk_getr (L := (.inl (0, 0))) (v := .ref (G.1 (.inl (4, 0)))) hx hb ht hown hK hH kc_11 hG.k0 4 (by decide) rfl tw_172 rfl hG.r0_4 dX10_unload_41 ?_
        refine lv_aload_n hx hb dX10_unload_44 rfl (lv_at hl 3 rfl) ?_
        refine hk_getr (L := (.inl (11, i))) (v := .ref (G.1 (.inl (13, i)))) hx hb ht hown hK hH kc_7 (hG.k11 i hi) 2 (by decide) rfl tw_399 rfl (hG.r11_2 i hi) dX10_unload_45 ?_
        refine lv_iload_n hx hb dX10_unload_48 rfl (lv_at hl 1 rfl) ?_
        refine hk_ild (L := (.inl (13, i))) (v := t (13, i) j) hx hb hK hH (hG.k13 i hi) (vp_in_nI (by omega) (by omega)) (by rw [nI_clamp (by omega)]; rfl) dX10_unload_49 ?_
        refine lv_aload_n hx hb dX10_unload_50 rfl (lv_at hl 3 rfl) ?_
        refine hk_getr (L := (.inl (11, i))) (v := .ref (G.1 (.inl (14, i)))) hx hb ht hown hK hH kc_7 (hG.k11 i hi) 3 (by decide) rfl tw_401 rfl (hG.r11_3 i hi) dX10_unload_51 ?_
        refine lv_iload_n hx hb dX10_unload_54 rfl (lv_at hl 1 rfl) ?_
        refine hk_ild (L := (.inl (14, i))) (v := t (14, i) j) hx hb hK hH (hG.k14 i hi) (vp_in_nI (by omega) (by omega)) (by rw [nI_clamp (by omega)]; rfl) dX10_unload_55 ?_
        refine lv_aload_n hx hb dX10_unload_56 rfl (lv_at hl 2 rfl) ?_
        refine hk_geti (L := (.inl (0, 0))) (v := t (0, 0) 8) hx hb ht hown hK hH kc_11 hG.k0 8 (by decide) rfl tw_176 rfl rfl dX10_unload_57 ?_
        refine lv_bipush (v := 12) hx hb dX10_unload_60 (by decide) ?_
        refine lv_idiv hx hb dX10_unload_62 (by decide) ?_
        refine hk_cV (L := (.inl (4, 0))) (As := [.int (t (13, i) j), .int (t (14, i) j), .int ((t (0, 0) 8) / 12)]) (rest := []) hx hb hml hl.1 ht hown hK hH hS (c_play l D G Z t σ (t (13, i) j) (t (14, i) j) ((t (0, 0) 8) / 12) hG (play_pre (P := P + 11 * j) (hk_ps.of hI_unload.2 (fun k => by first | rfl | exact hk_u_o (show (4 : Nat) ≠ 9 by decide))) (by omega) (by obtain ⟨b, h1, h2⟩ := hbu j (by omega); exact ⟨b, h1, by rw [hI_unload.1 _ _ (show (14 : Nat) ≠ 9 by decide) (show (14 : Nat) ≠ 4 by decide)]; exact h2⟩))) ymV_X9_lay kc_10 hG.k4_0 tw_523 ⟨rfl, rfl⟩ ⟨Nat.le_of_ble_eq_true rfl, Nat.le_of_ble_eq_true rfl⟩ rfl rfl (Nat.le_of_ble_eq_true rfl) dX10_unload_63 ⟨Nat.le_of_ble_eq_true rfl, Nat.le_of_ble_eq_true rfl⟩ (hk_ev (fun H locs hH hS => ?_))
        refine lv_iinc (v := nI (j + 1)) (lv' := [(2, .int (nI (j + 1))), (3, .null), (0, .ref (G.1 (.inl (0, 0)))), (1, .ref (G.1 (.inl (11, i))))]) hx hb dX10_unload_66 hl (k := 1) rfl (nI_1 _) (by decide) rfl (fun ls hl => ?_)
        refine lv_goto (tgt := 2) hx hb dX10_unload_69 (by decide) ?_
        have EB_5 : (B_unload i) j t = (T_play t (t (13, i) j) (t (14, i) j) ((t (0, 0) 8) / 12)) := by simp only [B_unload, if_pos ho_4]
        have hI2 : ((∀ q k, q.1 ≠ 9 → q.1 ≠ 4 → (T_play t (t (13, i) j) (t (14, i) j) ((t (0, 0) 8) / 12)) q k = τ q k) ∧ hk_ps (T_play t (t (13, i) j) (t (14, i) j) ((t (0, 0) 8) / 12)) (P + 11 * (j + 1))) := by
          exact ⟨fun q k h9 h4 => by first | (rw [T_play_o h4, hk_u_o h9]; exact hI_unload.1 q k h9 h4) | (rw [T_play_o h4]; exact hI_unload.1 q k h9 h4), (play_ps (P := P + 11 * j) (hk_ps.of hI_unload.2 (fun k => by first | rfl | exact hk_u_o (show (4 : Nat) ≠ 9 by decide))) (by omega) (by obtain ⟨b, h1, h2⟩ := hbu j (by omega); exact ⟨b, h1, by rw [hI_unload.1 _ _ (show (14 : Nat) ≠ 9 by decide) (show (14 : Nat) ≠ 4 by decide)]; exact h2⟩) _ _).le (by omega)⟩
        exact ih (j + 1) (T_play t (t (13, i) j) (t (14, i) j) ((t (0, 0) 8) / 12)) _ _ _ QQ (by omega) hI2 hH hS (lv_sub hl [0, 2, 3] rfl) (fun H locs ls hH hS hl hI_unload => kk H locs ls (by rw [hk_it_s, EB_5]; exact hH) hS hl (by first | exact hI_unload | (rw [hk_it_s, EB_5]; exact hI_unload)))
      · refine hk_cV (L := (.inl (0, 0))) (As := [.int (t (13, i) j)]) (rest := []) hx hb hml hl.1 ht hown hK hH hS (c_gardenOf_in l D G Z t σ (t (13, i) j) hG hst ho_4) ymV_X10_gardenOf kc_11 hG.k0 tw_357 ⟨rfl, rfl⟩ ⟨Nat.le_of_ble_eq_true rfl, Nat.le_of_ble_eq_true rfl⟩ rfl rfl (Nat.le_of_ble_eq_true rfl) dX10_unload_17 ⟨Nat.le_of_ble_eq_true rfl, Nat.le_of_ble_eq_true rfl⟩ (hk_ea (fun H locs hH hS => ?_))
        refine lv_astore_n (lv' := [(3, .ref (G.1 (.inl (9, (t (13, i) j).toNatClampNeg)))), (2, .int (nI j)), (0, .ref (G.1 (.inl (0, 0)))), (1, .ref (G.1 (.inl (11, i))))]) hx hb dX10_unload_20 rfl hl (by decide) rfl (fun ls hl => ?_)
        refine lv_aload_n hx hb dX10_unload_21 rfl (lv_at hl 0 rfl) ?_
        refine lv_ifnull hx hb dX10_unload_22 ?_
        refine lv_aload_n hx hb dX10_unload_25 rfl (lv_at hl 0 rfl) ?_
        refine lv_dup hx hb dX10_unload_26 rfl ?_
        refine hk_geti (L := (.inl (9, (t (13, i) j).toNatClampNeg))) (v := t (9, (t (13, i) j).toNatClampNeg) 5) hx hb ht hown hK hH kc_5 (hG.k9 ((t (13, i) j).toNatClampNeg) (hk_in_sz hst.1.1 (by have := hst.2; omega) ho_4).1) 5 (by decide) rfl tw_226 rfl rfl dX10_unload_27 ?_
        refine lv_aload_n hx hb dX10_unload_30 rfl (lv_at hl 3 rfl) ?_
        refine hk_getr (L := (.inl (11, i))) (v := .ref (G.1 (.inl (14, i)))) hx hb ht hown hK hH kc_7 (hG.k11 i hi) 3 (by decide) rfl tw_401 rfl (hG.r11_3 i hi) dX10_unload_31 ?_
        refine lv_iload_n hx hb dX10_unload_34 rfl (lv_at hl 1 rfl) ?_
        refine hk_ild (L := (.inl (14, i))) (v := t (14, i) j) hx hb hK hH (hG.k14 i hi) (vp_in_nI (by omega) (by omega)) (by rw [nI_clamp (by omega)]; rfl) dX10_unload_35 ?_
        refine lv_iadd hx hb dX10_unload_36 ?_
        refine hk_puti (L := (.inl (9, (t (13, i) j).toNatClampNeg))) hx hb ht hown hK hH hS kc_5 (hG.k9 ((t (13, i) j).toNatClampNeg) (hk_in_sz hst.1.1 (by have := hst.2; omega) ho_4).1) 5 (by decide) rfl tw_226 rfl (Or.inl rfl) rfl dX10_unload_37 (fun H locs hH hS => ?_)
        rw [hk_up_l] at hH
        refine lv_aload_n hx hb dX10_unload_40 rfl (lv_at hl 2 rfl) ?_
        refine hk_getr (L := (.inl (0, 0))) (v := .ref (G.1 (.inl (4, 0)))) hx hb ht hown hK hH kc_11 hG.k0 4 (by decide) rfl tw_172 rfl hG.r0_4 dX10_unload_41 ?_
        refine lv_aload_n hx hb dX10_unload_44 rfl (lv_at hl 3 rfl) ?_
        refine hk_getr (L := (.inl (11, i))) (v := .ref (G.1 (.inl (13, i)))) hx hb ht hown hK hH kc_7 (hG.k11 i hi) 2 (by decide) rfl tw_399 rfl (hG.r11_2 i hi) dX10_unload_45 ?_
        refine lv_iload_n hx hb dX10_unload_48 rfl (lv_at hl 1 rfl) ?_
        refine hk_ild (L := (.inl (13, i))) (v := t (13, i) j) hx hb hK hH (hG.k13 i hi) (vp_in_nI (by omega) (by omega)) (by rw [nI_clamp (by omega)]; simp [hk_cm, hk_u_ap]) dX10_unload_49 ?_
        refine lv_aload_n hx hb dX10_unload_50 rfl (lv_at hl 3 rfl) ?_
        refine hk_getr (L := (.inl (11, i))) (v := .ref (G.1 (.inl (14, i)))) hx hb ht hown hK hH kc_7 (hG.k11 i hi) 3 (by decide) rfl tw_401 rfl (hG.r11_3 i hi) dX10_unload_51 ?_
        refine lv_iload_n hx hb dX10_unload_54 rfl (lv_at hl 1 rfl) ?_
        refine hk_ild (L := (.inl (14, i))) (v := t (14, i) j) hx hb hK hH (hG.k14 i hi) (vp_in_nI (by omega) (by omega)) (by rw [nI_clamp (by omega)]; simp [hk_cm, hk_u_ap]) dX10_unload_55 ?_
        refine lv_aload_n hx hb dX10_unload_56 rfl (lv_at hl 2 rfl) ?_
        refine hk_geti (L := (.inl (0, 0))) (v := t (0, 0) 8) hx hb ht hown hK hH kc_11 hG.k0 8 (by decide) rfl tw_176 rfl (by simp [hk_cm, hk_u_ap]) dX10_unload_57 ?_
        refine lv_bipush (v := 12) hx hb dX10_unload_60 (by decide) ?_
        refine lv_idiv hx hb dX10_unload_62 (by decide) ?_
        refine hk_cV (L := (.inl (4, 0))) (As := [.int (t (13, i) j), .int (t (14, i) j), .int ((t (0, 0) 8) / 12)]) (rest := []) hx hb hml hl.1 ht hown hK hH hS (c_play l D G Z (hk_u t (9, (t (13, i) j).toNatClampNeg) 5 ((t (9, (t (13, i) j).toNatClampNeg) 5) + (t (14, i) j))) σ (t (13, i) j) (t (14, i) j) ((t (0, 0) 8) / 12) hG (play_pre (P := P + 11 * j) (hk_ps.of hI_unload.2 (fun k => by first | rfl | exact hk_u_o (show (4 : Nat) ≠ 9 by decide))) (by omega) (by obtain ⟨b, h1, h2⟩ := hbu j (by omega); exact ⟨b, h1, by rw [hI_unload.1 _ _ (show (14 : Nat) ≠ 9 by decide) (show (14 : Nat) ≠ 4 by decide)]; exact h2⟩))) ymV_X9_lay kc_10 hG.k4_0 tw_523 ⟨rfl, rfl⟩ ⟨Nat.le_of_ble_eq_true rfl, Nat.le_of_ble_eq_true rfl⟩ rfl rfl (Nat.le_of_ble_eq_true rfl) dX10_unload_63 ⟨Nat.le_of_ble_eq_true rfl, Nat.le_of_ble_eq_true rfl⟩ (hk_ev (fun H locs hH hS => ?_))
        refine lv_iinc (v := nI (j + 1)) (lv' := [(2, .int (nI (j + 1))), (3, .ref (G.1 (.inl (9, (t (13, i) j).toNatClampNeg)))), (0, .ref (G.1 (.inl (0, 0)))), (1, .ref (G.1 (.inl (11, i))))]) hx hb dX10_unload_66 hl (k := 1) rfl (nI_1 _) (by decide) rfl (fun ls hl => ?_)
        refine lv_goto (tgt := 2) hx hb dX10_unload_69 (by decide) ?_
        have EB_6 : (B_unload i) j t = (T_play (hk_u t (9, (t (13, i) j).toNatClampNeg) 5 ((t (9, (t (13, i) j).toNatClampNeg) 5) + (t (14, i) j))) (t (13, i) j) (t (14, i) j) ((t (0, 0) 8) / 12)) := by simp only [B_unload, if_neg ho_4]
        have hI2 : ((∀ q k, q.1 ≠ 9 → q.1 ≠ 4 → (T_play (hk_u t (9, (t (13, i) j).toNatClampNeg) 5 ((t (9, (t (13, i) j).toNatClampNeg) 5) + (t (14, i) j))) (t (13, i) j) (t (14, i) j) ((t (0, 0) 8) / 12)) q k = τ q k) ∧ hk_ps (T_play (hk_u t (9, (t (13, i) j).toNatClampNeg) 5 ((t (9, (t (13, i) j).toNatClampNeg) 5) + (t (14, i) j))) (t (13, i) j) (t (14, i) j) ((t (0, 0) 8) / 12)) (P + 11 * (j + 1))) := by
          exact ⟨fun q k h9 h4 => by first | (rw [T_play_o h4, hk_u_o h9]; exact hI_unload.1 q k h9 h4) | (rw [T_play_o h4]; exact hI_unload.1 q k h9 h4), (play_ps (P := P + 11 * j) (hk_ps.of hI_unload.2 (fun k => by first | rfl | exact hk_u_o (show (4 : Nat) ≠ 9 by decide))) (by omega) (by obtain ⟨b, h1, h2⟩ := hbu j (by omega); exact ⟨b, h1, by rw [hI_unload.1 _ _ (show (14 : Nat) ≠ 9 by decide) (show (14 : Nat) ≠ 4 by decide)]; exact h2⟩) _ _).le (by omega)⟩
        exact ih (j + 1) (T_play (hk_u t (9, (t (13, i) j).toNatClampNeg) 5 ((t (9, (t (13, i) j).toNatClampNeg) 5) + (t (14, i) j))) (t (13, i) j) (t (14, i) j) ((t (0, 0) 8) / 12)) _ _ _ QQ (by omega) hI2 hH hS (lv_sub hl [0, 2, 3] rfl) (fun H locs ls hH hS hl hI_unload => kk H locs ls (by rw [hk_it_s, EB_6]; exact hH) hS hl (by first | exact hI_unload | (rw [hk_it_s, EB_6]; exact hI_unload)))
  refine LP_1 ((τ (11, i) 4).toNatClampNeg) 0 τ _ _ _ _ (by omega) ⟨fun _ _ _ _ => rfl, hps.le (by omega)⟩ hH hS (lv_sub hl [0, 1, 2] rfl) (fun H locs ls hH hS hl hI_unload => ?_)
  refine lv_aload_n hx hb dX10_unload_72 rfl (lv_at hl 2 rfl) ?_
  refine hk_cV (L := (.inl (11, i))) (As := []) (rest := []) hx hb hml hl.1 ht hown hK hH hS (c_clear l D G Z (hk_it (B_unload i) ((τ (11, i) 4).toNatClampNeg) 0 τ) σ i hG hi) ymV_X6_clear kc_7 (hG.k11 i hi) tw_531 ⟨rfl, rfl⟩ ⟨Nat.le_of_ble_eq_true rfl, Nat.le_of_ble_eq_true rfl⟩ rfl rfl (Nat.le_of_ble_eq_true rfl) dX10_unload_73 ⟨Nat.le_of_ble_eq_true rfl, Nat.le_of_ble_eq_true rfl⟩ (hk_ev (fun H locs hH hS => ?_))
  exact hk_vret hx hb hr hlocks hH hS ⟨rfl, rfl, (by simp only [T_unload])⟩ dX10_unload_76
theorem unload_in {τ : hk_v} {i P : Nat} (n : Nat) (hb : ∀ j, j < n → ∃ b, b ≤ 200 ∧ τ (14, i) j = nI b) (hps : hk_ps τ P) (hn : n ≤ 200) (hP : P + 2400 < 2 ^ 30) : (∀ q k, q.1 ≠ 9 → q.1 ≠ 4 → hk_it (B_unload i) n 0 τ q k = τ q k) ∧ hk_ps (hk_it (B_unload i) n 0 τ) (P + 2200) := by
  have h := hk_it_inv (f := B_unload i) (fun j t => (∀ q k, q.1 ≠ 9 → q.1 ≠ 4 → t q k = τ q k) ∧ hk_ps t (P + 11 * j)) n 0 τ ⟨fun _ _ _ _ => rfl, hps⟩ (fun j t _ hj hI => by
    have bb : ∃ b, b ≤ 200 ∧ t (14, i) j = nI b := by
      obtain ⟨b, h1, h2⟩ := hb j (by omega)
      exact ⟨b, h1, by rw [hI.1 _ _ (show (14 : Nat) ≠ 9 by decide) (show (14 : Nat) ≠ 4 by decide)]; exact h2⟩
    unfold B_unload
    split
    · exact ⟨fun q k h9 h4 => by rw [T_play_o h4]; exact hI.1 q k h9 h4, (play_ps (P := P + 11 * j) hI.2 (by omega) bb _ _).le (by omega)⟩
    · exact ⟨fun q k h9 h4 => by rw [T_play_o h4, hk_u_o h9]; exact hI.1 q k h9 h4, (play_ps (P := P + 11 * j) (hk_ps.of hI.2 (fun k => hk_u_o (show (4 : Nat) ≠ 9 by decide))) (by omega) bb _ _).le (by omega)⟩)
  exact ⟨h.1, h.2.le (by omega)⟩
def hk_lb (Z : hk_Z) (t : hk_v) : Prop := ∀ k, k < Z.1 2 → ∀ j, j < (t (11, k) 4).toNatClampNeg → ∃ b, b ≤ 200 ∧ t (14, k) j = nI b
def hk_dh (Z : hk_Z) (t : hk_v) (P : Nat) : Prop := hk_sz Z t ∧ hk_lo Z t ∧ hk_lb Z t ∧ hk_ps t P
theorem hk_dh.le {Z : hk_Z} {t : hk_v} {P P' : Nat} (h : hk_dh Z t P) (hP : P ≤ P') : hk_dh Z t P' := ⟨h.1, h.2.1, h.2.2.1, h.2.2.2.le hP⟩
theorem unload_11 {τ : hk_v} {i : Nat} {P : Nat} (hb : ∀ j, j < (τ (11, i) 4).toNatClampNeg → ∃ b, b ≤ 200 ∧ τ (14, i) j = nI b) (hps : hk_ps τ P) (hn : (τ (11, i) 4).toNatClampNeg ≤ 200) (hP : P + 2400 < 2 ^ 30) (k j : Nat) : T_unload τ i (11, k) j = if k = i ∧ (j = 4 ∨ j = 5 ∨ j = 6) then 0 else τ (11, k) j := by
  have h := (unload_in _ hb hps hn hP).1 (11, k) j (show (11 : Nat) ≠ 9 by decide) (show (11 : Nat) ≠ 4 by decide)
  unfold T_unload T_clear
  simp only [hk_u_ap, Prod.mk.injEq, true_and]
  by_cases h1 : k = i
  · by_cases h6 : j = 6
    · simp [h1, h6]
    · by_cases h5 : j = 5
      · simp [h1, h5]
      · by_cases h4 : j = 4
        · simp [h1, h4]
        · simp only [h1, h4, h5, h6, true_and, and_false, if_false, or_self]
          rw [h1] at h
          exact h
  · simp only [h1, false_and, if_false]
    exact h
theorem unload_o {τ : hk_v} {i : Nat} {P : Nat} (hb : ∀ j, j < (τ (11, i) 4).toNatClampNeg → ∃ b, b ≤ 200 ∧ τ (14, i) j = nI b) (hps : hk_ps τ P) (hn : (τ (11, i) 4).toNatClampNeg ≤ 200) (hP : P + 2400 < 2 ^ 30) {q : Nat × Nat} {k : Nat} (h9 : q.1 ≠ 9) (h4 : q.1 ≠ 4) (h11 : q.1 ≠ 11) : T_unload τ i q k = τ q k := by
  unfold T_unload
  rw [T_clear_o h11]
  exact (unload_in _ hb hps hn hP).1 q k h9 h4
theorem unload_keep {Z : hk_Z} {t : hk_v} {P i : Nat} (h : hk_dh Z t P) (hi : i < Z.1 2) (hP : P + 2400 < 2 ^ 30) : hk_dh Z (T_unload t i) (P + 2200) := by
  obtain ⟨h1, h2, h3, h4⟩ := h
  have hn : (t (11, i) 4).toNatClampNeg ≤ 200 := by have := h2 i hi; omega
  have e11 := unload_11 (h3 i hi) h4 hn hP
  refine ⟨h1.of (fun j => unload_o (h3 i hi) h4 hn hP (show (1 : Nat) ≠ 9 by decide) (show (1 : Nat) ≠ 4 by decide) (show (1 : Nat) ≠ 11 by decide)), fun k hk => ?_, fun k hk j hj => ?_, ?_⟩
  · rw [e11]
    split
    · rw [show (0 : Int32).toNatClampNeg = 0 from rfl]
      exact ⟨rfl, Nat.zero_le _, (h2 k hk).2.2⟩
    · exact h2 k hk
  · rw [e11] at hj
    split at hj
    · exact absurd hj (by rw [show (0 : Int32).toNatClampNeg = 0 from rfl]; omega)
    · rw [unload_o (h3 i hi) h4 hn hP (show (14 : Nat) ≠ 9 by decide) (show (14 : Nat) ≠ 4 by decide) (show (14 : Nat) ≠ 11 by decide)]
      exact h3 k hk j hj
  · refine hk_ps.of (unload_in _ (h3 i hi) h4 hn hP).2 (fun k => ?_)
    unfold T_unload
    exact T_clear_o (show (4 : Nat) ≠ 11 by decide)
theorem share_keep {Z : hk_Z} {t : hk_v} {P i : Nat} (h : hk_dh Z t P) (x : Int32) : hk_dh Z (hk_u t (11, i) 6 x) P := by
  obtain ⟨h1, h2, h3, h4⟩ := h
  have e4 : ∀ k, hk_u t (11, i) 6 x (11, k) 4 = t (11, k) 4 := fun k => if_neg (fun e => absurd e.2 (by decide))
  refine ⟨h1.of (fun j => hk_u_o (show (1 : Nat) ≠ 11 by decide)), fun k hk => ?_, fun k hk j hj => ?_, hk_ps.of h4 (fun k => hk_u_o (show (4 : Nat) ≠ 11 by decide))⟩
  · rw [e4]; exact h2 k hk
  · rw [e4] at hj
    rw [hk_u_o (show (14 : Nat) ≠ 11 by decide)]
    exact h3 k hk j hj
theorem ymV_X6_isEmpty : hk_mV yX6_isEmpty cX6_isEmpty 1 (some FieldType.boolean) RX6 0 := ⟨tw_518, tw_516, tw_517, tw_51, rfl, by decide, by decide, by decide +kernel⟩
theorem ymV_X10_unload : hk_mV yX10_unload cX10_unload 4 none RX10 1 := ⟨tw_522, tw_521, tw_9, tw_34, rfl, by decide, by decide, by decide +kernel⟩
def B_dry (Z : hk_Z) (j : Nat) (t : hk_v) : hk_v := (if (F_isEmpty t j) = 0 then (if ((t (11, j) 6) + (hk_dries (Z.2.1 j) j (t (11, j) 7))) < 60 then (hk_u t (11, j) 6 ((t (11, j) 6) + (hk_dries (Z.2.1 j) j (t (11, j) 7)))) else (T_unload (hk_u t (11, j) 6 ((t (11, j) 6) + (hk_dries (Z.2.1 j) j (t (11, j) 7)))) j)) else t)
def T_dryHour (Z : hk_Z) (τ : hk_v)  : hk_v := (hk_it (B_dry Z) (Z.1 2) 0 τ)
set_option maxHeartbeats 4000000 in
set_option maxRecDepth 100000 in
theorem c_dryHour (l : Launch) (D : hk_D) (G : hk_G) (Z : hk_Z) (τ σ : hk_v)  (hG : hk_Y D G Z) (P : Nat) (hdh : hk_dh Z τ P) (hP : P + 12000 < 2 ^ 30) : Met l yX10_dryHour (hk_ws yX10_dryHour cX10_dryHour 3 none) ({ frames := 5, cells := 0, slots := 0, locals := 108 }) (hk_P D G (hk_cm τ σ) [.ref (G.1 (.inl (0, 0)))]) (hk_Q D (hk_e G (none) (hk_cm (T_dryHour Z τ) σ))) 0 0 (hk_A D) := by
  refine hk_met (by decide +kernel) (Nat.le_of_ble_eq_true rfl) (fun p e s m below meth c hx hb hr hml hlocks ht hown hin hK hH hS ls hl => ?_)
  have hl : lv_has ls 3 [(0, .ref (G.1 (.inl (0, 0))))] := hl
  refine lv_iconst (v := 0) hx hb dX10_dryHour_0 (by decide) ?_
  refine lv_istore_n (lv' := [(1, .int 0), (0, .ref (G.1 (.inl (0, 0))))]) hx hb dX10_dryHour_1 rfl hl (by decide) rfl (fun ls hl => ?_)
  have LP_1 : ∀ (r j : Nat) (t : hk_v) (H : Heap) (locs : List Loc) (ls : Array Slot) (QQ : State → Prop), j + r = Z.1 2 → (hk_dh Z t (P + 2200 * j)) → hk_H D G (hk_cm t σ) H → va_S (hk_A D) s.heap H locs → lv_has ls 3 [(1, .int (nI j)), (0, .ref (G.1 (.inl (0, 0))))] → (∀ (H : Heap) (locs : List Loc) (ls : Array Slot), hk_H D G (hk_cm (hk_it (B_dry Z) r j t) σ) H → va_S (hk_A D) s.heap H locs → lv_has ls 3 [(1, .int (nI (Z.1 2))), (0, .ref (G.1 (.inl (0, 0))))] → (hk_dh Z (hk_it (B_dry Z) r j t) (P + 2200 * Z.1 2)) → W p l e ({ frames := 5, cells := 0, slots := 0, locals := 108 }) s m ([.ref (G.1 (.inl (0, 0)))] : List Value).toArray below meth c H locs 0 0 QQ (F0 m 75 ls [])) → W p l e ({ frames := 5, cells := 0, slots := 0, locals := 108 }) s m ([.ref (G.1 (.inl (0, 0)))] : List Value).toArray below meth c H locs 0 0 QQ (F0 m 2 ls []) := by
    intro r
    induction r with
    | zero =>
      intro j t H locs ls QQ hn_dry hI_dry hH hS hl kk
      have hz6 := hI_dry.1.2
      refine lv_iload_n hx hb dX10_dryHour_2 rfl (lv_at hl 0 rfl) ?_
      refine lv_aload_n hx hb dX10_dryHour_3 rfl (lv_at hl 1 rfl) ?_
      refine hk_getr (L := (.inl (0, 0))) (v := .ref (G.1 (.inl (1, 2)))) hx hb ht hown hK hH kc_11 hG.k0 2 (by decide) rfl tw_170 rfl hG.r0_2 dX10_dryHour_4 ?_
      refine hk_cV (L := (.inl (1, 2))) (As := []) (rest := [.int (nI j)]) hx hb hml hl.1 ht hown hK hH hS (c_size l D G t σ 2 hG.k1_2) ymV_Jx4a65c_size_8abf5 kc_0 hG.k1_2 tw_209 ⟨rfl, rfl⟩ ⟨Nat.le_of_ble_eq_true rfl, Nat.le_of_ble_eq_true rfl⟩ rfl rfl (Nat.le_of_ble_eq_true rfl) dX10_dryHour_7 ⟨Nat.le_of_ble_eq_true rfl, Nat.le_of_ble_eq_true rfl⟩ (hk_ea (fun H locs hH hS => ?_))
      rw [show F_size t 2 = t (1, 2) 2 from rfl]
      refine lv_icmp_ge (tgt := 75) hx hb dX10_dryHour_10 (by decide) (fun c_2 => ?_) (fun c_2 => ?_)
      rotate_left
      · exfalso; rw [hI_dry.1.1.2.2] at c_2; first | exact nI_ge (by omega) (by omega) c_2 | exact c_2 (nI_le (by omega) (by omega)) | exact nI_nlt (by omega) (by omega) c_2 | exact c_2 (nI_lt (by omega) (by omega))
      have hiN : j = Z.1 2 := by omega
      rw [hiN] at hl hI_dry
      exact kk H locs ls hH hS (lv_sub hl [0, 1] rfl) hI_dry
    | succ r ih =>
      intro j t H locs ls QQ hn_dry hI_dry hH hS hl kk
      have hz6 := hI_dry.1.2
      refine lv_iload_n hx hb dX10_dryHour_2 rfl (lv_at hl 0 rfl) ?_
      refine lv_aload_n hx hb dX10_dryHour_3 rfl (lv_at hl 1 rfl) ?_
      refine hk_getr (L := (.inl (0, 0))) (v := .ref (G.1 (.inl (1, 2)))) hx hb ht hown hK hH kc_11 hG.k0 2 (by decide) rfl tw_170 rfl hG.r0_2 dX10_dryHour_4 ?_
      refine hk_cV (L := (.inl (1, 2))) (As := []) (rest := [.int (nI j)]) hx hb hml hl.1 ht hown hK hH hS (c_size l D G t σ 2 hG.k1_2) ymV_Jx4a65c_size_8abf5 kc_0 hG.k1_2 tw_209 ⟨rfl, rfl⟩ ⟨Nat.le_of_ble_eq_true rfl, Nat.le_of_ble_eq_true rfl⟩ rfl rfl (Nat.le_of_ble_eq_true rfl) dX10_dryHour_7 ⟨Nat.le_of_ble_eq_true rfl, Nat.le_of_ble_eq_true rfl⟩ (hk_ea (fun H locs hH hS => ?_))
      rw [show F_size t 2 = t (1, 2) 2 from rfl]
      refine lv_icmp_ge (tgt := 75) hx hb dX10_dryHour_10 (by decide) (fun c_3 => ?_) (fun c_3 => ?_)
      · exfalso; rw [hI_dry.1.1.2.2] at c_3; first | exact nI_ge (by omega) (by omega) c_3 | exact c_3 (nI_le (by omega) (by omega)) | exact nI_nlt (by omega) (by omega) c_3 | exact c_3 (nI_lt (by omega) (by omega))
      refine lv_aload_n hx hb dX10_dryHour_13 rfl (lv_at hl 1 rfl) ?_
      refine hk_getr (L := (.inl (0, 0))) (v := .ref (G.1 (.inl (1, 2)))) hx hb ht hown hK hH kc_11 hG.k0 2 (by decide) rfl tw_170 rfl hG.r0_2 dX10_dryHour_14 ?_
      refine lv_iload_n hx hb dX10_dryHour_17 rfl (lv_at hl 0 rfl) ?_
      refine hk_cV (L := (.inl (1, 2))) (As := [.int (nI j)]) (rest := []) hx hb hml hl.1 ht hown hK hH hS (c_lget l D G t σ 2 j (Z.1 2) (nI j) (.ref (G.1 (.inl (11, j)))) hG.k1_2 (hG.a1_2 (by omega)) (hG.k2_2 (by omega)) rfl (by omega) (by have := hI_dry.1.2; omega) (hG.a2_2 _ (by omega)) ⟨_, rfl⟩ hI_dry.1.1.2.2) ymV_Jx4a65c_get_915e3 kc_0 hG.k1_2 tw_343 ⟨rfl, rfl⟩ ⟨Nat.le_of_ble_eq_true rfl, Nat.le_of_ble_eq_true rfl⟩ rfl rfl (Nat.le_of_ble_eq_true rfl) dX10_dryHour_18 ⟨Nat.le_of_ble_eq_true rfl, Nat.le_of_ble_eq_true rfl⟩ (hk_ea (fun H locs hH hS => ?_))
      refine hk_cast (L := (.inl (11, j))) hx hb ht hown hK hH kc_7 (hG.k11 j (by omega)) tw_365 dX10_dryHour_21 ?_
      refine lv_astore_n (lv' := [(2, .ref (G.1 (.inl (11, j)))), (1, .int (nI j)), (0, .ref (G.1 (.inl (0, 0))))]) hx hb dX10_dryHour_24 rfl hl (by decide) rfl (fun ls hl => ?_)
      refine lv_aload_n hx hb dX10_dryHour_25 rfl (lv_at hl 0 rfl) ?_
      refine hk_cV (L := (.inl (11, j))) (As := []) (rest := []) hx hb hml hl.1 ht hown hK hH hS (c_isEmpty l D G Z t σ j hG (by omega)) ymV_X6_isEmpty kc_7 (hG.k11 j (by omega)) tw_515 ⟨rfl, rfl⟩ ⟨Nat.le_of_ble_eq_true rfl, Nat.le_of_ble_eq_true rfl⟩ rfl rfl (Nat.le_of_ble_eq_true rfl) dX10_dryHour_26 ⟨Nat.le_of_ble_eq_true rfl, Nat.le_of_ble_eq_true rfl⟩ (hk_ea (fun H locs hH hS => ?_))
      refine lv_if_eq (tgt := 35) hx hb dX10_dryHour_29 (by decide) (fun c_4 => ?_) (fun c_4 => ?_)
      · refine lv_aload_n hx hb dX10_dryHour_35 rfl (lv_at hl 0 rfl) ?_
        refine lv_dup hx hb dX10_dryHour_36 rfl ?_
        refine hk_geti (L := (.inl (11, j))) (v := t (11, j) 6) hx hb ht hown hK hH kc_7 (hG.k11 j (by omega)) 6 (by decide) rfl tw_407 rfl rfl dX10_dryHour_37 ?_
        refine lv_aload_n hx hb dX10_dryHour_40 rfl (lv_at hl 0 rfl) ?_
        refine hk_getr (L := (.inl (11, j))) (v := .ref (G.1 (.inl (12, j)))) hx hb ht hown hK hH kc_7 (hG.k11 j (by omega)) 0 (by decide) rfl tw_396 rfl (hG.r11_0 j (by omega)) dX10_dryHour_41 ?_
        refine lv_aload_n hx hb dX10_dryHour_44 rfl (lv_at hl 0 rfl) ?_
        refine hk_geti (L := (.inl (11, j))) (v := t (11, j) 7) hx hb ht hown hK hH kc_7 (hG.k11 j (by omega)) 7 (by decide) rfl tw_409 rfl rfl dX10_dryHour_45 ?_
        refine hk_vdries (i := j) hG (by omega) hx hb hml hl.1 ht hown hK hH hS tw_452 ⟨Nat.le_of_ble_eq_true rfl, Nat.le_of_ble_eq_true rfl⟩ (Nat.le_of_ble_eq_true rfl) ⟨Nat.zero_le _, Nat.zero_le _⟩ dX10_dryHour_48 (fun H locs hH hS => ?_)
        refine lv_iadd hx hb dX10_dryHour_51 ?_
        refine hk_puti (L := (.inl (11, j))) hx hb ht hown hK hH hS kc_7 (hG.k11 j (by omega)) 6 (by decide) rfl tw_407 rfl (Or.inl rfl) rfl dX10_dryHour_52 (fun H locs hH hS => ?_)
        rw [hk_up_l] at hH
        refine lv_aload_n hx hb dX10_dryHour_55 rfl (lv_at hl 0 rfl) ?_
        refine hk_geti (L := (.inl (11, j))) (v := (t (11, j) 6) + (hk_dries (Z.2.1 j) j (t (11, j) 7))) hx hb ht hown hK hH kc_7 (hG.k11 j (by omega)) 6 (by decide) rfl tw_407 rfl (by simp [hk_cm, hk_u_ap]) dX10_dryHour_56 ?_
        refine lv_bipush (v := 60) hx hb dX10_dryHour_59 (by decide) ?_
        refine lv_icmp_lt (tgt := 69) hx hb dX10_dryHour_61 (by decide) (fun c_5 => ?_) (fun c_5 => ?_)
        · refine lv_iinc (v := nI (j + 1)) (lv' := [(1, .int (nI (j + 1))), (2, .ref (G.1 (.inl (11, j)))), (0, .ref (G.1 (.inl (0, 0))))]) hx hb dX10_dryHour_69 hl (k := 1) rfl (nI_1 _) (by decide) rfl (fun ls hl => ?_)
          refine lv_goto (tgt := 2) hx hb dX10_dryHour_72 (by decide) ?_
          have EB_6 : (B_dry Z) j t = (hk_u t (11, j) 6 ((t (11, j) 6) + (hk_dries (Z.2.1 j) j (t (11, j) 7)))) := by simp only [B_dry, if_pos c_4, if_pos c_5]
          have hI2 : (hk_dh Z (hk_u t (11, j) 6 ((t (11, j) 6) + (hk_dries (Z.2.1 j) j (t (11, j) 7)))) (P + 2200 * (j + 1))) := by
            first | exact hI_dry.le (by omega) | exact (unload_keep (share_keep hI_dry _) (show j < Z.1 2 by omega) (by omega)).le (by omega) | exact (share_keep hI_dry _).le (by omega)
          exact ih (j + 1) (hk_u t (11, j) 6 ((t (11, j) 6) + (hk_dries (Z.2.1 j) j (t (11, j) 7)))) _ _ _ QQ (by omega) hI2 hH hS (lv_sub hl [0, 2] rfl) (fun H locs ls hH hS hl hI_dry => kk H locs ls (by rw [hk_it_s, EB_6]; exact hH) hS hl (by first | exact hI_dry | (rw [hk_it_s, EB_6]; exact hI_dry)))
        · refine lv_aload_n hx hb dX10_dryHour_64 rfl (lv_at hl 2 rfl) ?_
          refine lv_aload_n hx hb dX10_dryHour_65 rfl (lv_at hl 0 rfl) ?_
          refine hk_cV (L := (.inl (0, 0))) (As := [.ref (G.1 (.inl (11, j)))]) (rest := []) hx hb hml hl.1 ht hown hK hH hS (c_unload l D G Z (hk_u t (11, j) 6 ((t (11, j) 6) + (hk_dries (Z.2.1 j) j (t (11, j) 7)))) σ j hG (by omega) (share_keep (i := j) hI_dry _).1 (share_keep (i := j) hI_dry _).2.1 ((share_keep (i := j) hI_dry _).2.2.1 j (by omega)) (P + 2200 * j) (share_keep (i := j) hI_dry _).2.2.2 (by omega)) ymV_X10_unload kc_11 hG.k0 tw_519 ⟨rfl, rfl⟩ ⟨Nat.le_of_ble_eq_true rfl, Nat.le_of_ble_eq_true rfl⟩ rfl rfl (Nat.le_of_ble_eq_true rfl) dX10_dryHour_66 ⟨Nat.le_of_ble_eq_true rfl, Nat.le_of_ble_eq_true rfl⟩ (hk_ev (fun H locs hH hS => ?_))
          refine lv_iinc (v := nI (j + 1)) (lv' := [(1, .int (nI (j + 1))), (2, .ref (G.1 (.inl (11, j)))), (0, .ref (G.1 (.inl (0, 0))))]) hx hb dX10_dryHour_69 hl (k := 1) rfl (nI_1 _) (by decide) rfl (fun ls hl => ?_)
          refine lv_goto (tgt := 2) hx hb dX10_dryHour_72 (by decide) ?_
          have EB_7 : (B_dry Z) j t = (T_unload (hk_u t (11, j) 6 ((t (11, j) 6) + (hk_dries (Z.2.1 j) j (t (11, j) 7)))) j) := by simp only [B_dry, if_pos c_4, if_neg c_5]
          have hI2 : (hk_dh Z (T_unload (hk_u t (11, j) 6 ((t (11, j) 6) + (hk_dries (Z.2.1 j) j (t (11, j) 7)))) j) (P + 2200 * (j + 1))) := by
            first | exact hI_dry.le (by omega) | exact (unload_keep (share_keep hI_dry _) (show j < Z.1 2 by omega) (by omega)).le (by omega) | exact (share_keep hI_dry _).le (by omega)
          exact ih (j + 1) (T_unload (hk_u t (11, j) 6 ((t (11, j) 6) + (hk_dries (Z.2.1 j) j (t (11, j) 7)))) j) _ _ _ QQ (by omega) hI2 hH hS (lv_sub hl [0, 2] rfl) (fun H locs ls hH hS hl hI_dry => kk H locs ls (by rw [hk_it_s, EB_7]; exact hH) hS hl (by first | exact hI_dry | (rw [hk_it_s, EB_7]; exact hI_dry)))
      · refine lv_goto (tgt := 69) hx hb dX10_dryHour_32 (by decide) ?_
        refine lv_iinc (v := nI (j + 1)) (lv' := [(1, .int (nI (j + 1))), (2, .ref (G.1 (.inl (11, j)))), (0, .ref (G.1 (.inl (0, 0))))]) hx hb dX10_dryHour_69 hl (k := 1) rfl (nI_1 _) (by decide) rfl (fun ls hl => ?_)
        refine lv_goto (tgt := 2) hx hb dX10_dryHour_72 (by decide) ?_
        have EB_8 : (B_dry Z) j t = t := by simp only [B_dry, if_neg c_4]
        have hI2 : (hk_dh Z t (P + 2200 * (j + 1))) := by
          first | exact hI_dry.le (by omega) | exact (unload_keep (share_keep hI_dry _) (show j < Z.1 2 by omega) (by omega)).le (by omega) | exact (share_keep hI_dry _).le (by omega)
        exact ih (j + 1) t _ _ _ QQ (by omega) hI2 hH hS (lv_sub hl [0, 2] rfl) (fun H locs ls hH hS hl hI_dry => kk H locs ls (by rw [hk_it_s, EB_8]; exact hH) hS hl (by first | exact hI_dry | (rw [hk_it_s, EB_8]; exact hI_dry)))
  refine LP_1 (Z.1 2) 0 τ _ _ _ _ (by omega) (by simpa using hdh) hH hS (lv_sub hl [0, 1] rfl) (fun H locs ls hH hS hl hI_dry => ?_)
  exact hk_vret hx hb hr hlocks hH hS ⟨rfl, rfl, (by simp only [T_dryHour])⟩ dX10_dryHour_75
theorem ymV_X5_give : hk_mV yX5_give cX5_give 6 (some FieldType.int) RX5 3 := ⟨tw_542, tw_540, tw_541, tw_38, rfl, by decide, by decide, by decide +kernel⟩
def B_loseg (j : Nat)  (g : Nat) (t : hk_v) : hk_v := (hk_u (T_give t ((t (0, 0) 8) - (nI j)) (nI g) 5000) (9, g) 4 ((t (9, g) 4) + (F_give t ((t (0, 0) 8) - (nI j)) (nI g) 5000)))
def B_lose (Z : hk_Z) (j : Nat) (t : hk_v) : hk_v := (hk_it (B_loseg j) (Z.1 0) 0 t)
def T_loseHour (Z : hk_Z) (τ : hk_v) (w : Nat) : hk_v := (hk_it (B_lose Z) (25 - w) w τ)
set_option maxHeartbeats 4000000 in
set_option maxRecDepth 100000 in
theorem c_loseHour (l : Launch) (D : hk_D) (G : hk_G) (Z : hk_Z) (τ σ : hk_v) (w : Nat) (hG : hk_Y D G Z) (hs : hk_sz Z τ) (hw : τ (0, 0) 9 = nI w) (hw1 : w ≤ 24) : Met l yX10_loseHour (hk_ws yX10_loseHour cX10_loseHour 3 none) ({ frames := 3, cells := 0, slots := 0, locals := 68 }) (hk_P D G (hk_cm τ σ) [.ref (G.1 (.inl (0, 0)))]) (hk_Q D (hk_e G (none) (hk_cm (T_loseHour Z τ w) σ))) 0 0 (hk_A D) := by
  refine hk_met (by decide +kernel) (Nat.le_of_ble_eq_true rfl) (fun p e s m below meth c hx hb hr hml hlocks ht hown hin hK hH hS ls hl => ?_)
  have hl : lv_has ls 3 [(0, .ref (G.1 (.inl (0, 0))))] := hl
  refine lv_aload_n hx hb dX10_loseHour_0 rfl (lv_at hl 0 rfl) ?_
  refine hk_geti (L := (.inl (0, 0))) (v := τ (0, 0) 9) hx hb ht hown hK hH kc_11 hG.k0 9 (by decide) rfl tw_177 rfl rfl dX10_loseHour_1 ?_
  refine lv_istore_n (lv' := [(1, .int (τ (0, 0) 9)), (0, .ref (G.1 (.inl (0, 0))))]) hx hb dX10_loseHour_4 rfl hl (by decide) rfl (fun ls hl => ?_)
  have LP_1 : ∀ (r j : Nat) (t : hk_v) (H : Heap) (locs : List Loc) (ls : Array Slot) (QQ : State → Prop), j + r = 25 → (∀ q k, q.1 ≠ 9 → q.1 ≠ 3 → t q k = τ q k) → hk_H D G (hk_cm t σ) H → va_S (hk_A D) s.heap H locs → lv_has ls 3 [(1, .int (nI j)), (0, .ref (G.1 (.inl (0, 0))))] → (∀ (H : Heap) (locs : List Loc) (ls : Array Slot), hk_H D G (hk_cm (hk_it (B_lose Z) r j t) σ) H → va_S (hk_A D) s.heap H locs → lv_has ls 3 [(1, .int (nI 25)), (0, .ref (G.1 (.inl (0, 0))))] → (∀ q k, q.1 ≠ 9 → q.1 ≠ 3 → (hk_it (B_lose Z) r j t) q k = τ q k) → W p l e ({ frames := 3, cells := 0, slots := 0, locals := 68 }) s m ([.ref (G.1 (.inl (0, 0)))] : List Value).toArray below meth c H locs 0 0 QQ (F0 m 72 ls [])) → W p l e ({ frames := 3, cells := 0, slots := 0, locals := 68 }) s m ([.ref (G.1 (.inl (0, 0)))] : List Value).toArray below meth c H locs 0 0 QQ (F0 m 5 ls []) := by
    intro r
    induction r with
    | zero =>
      intro j t H locs ls QQ hn_lose hI_lose hH hS hl kk
      have hz0 := hs.2
      refine lv_iload_n hx hb dX10_loseHour_5 rfl (lv_at hl 0 rfl) ?_
      refine lv_bipush (v := 25) hx hb dX10_loseHour_6 (by decide) ?_
      refine lv_icmp_ge (tgt := 72) hx hb dX10_loseHour_8 (by decide) (fun c_2 => ?_) (fun c_2 => ?_)
      rotate_left
      · exfalso; rw [show (25 : Int32) = nI 25 from rfl] at c_2; first | exact nI_ge (by omega) (by omega) c_2 | exact c_2 (nI_le (by omega) (by omega)) | exact nI_nlt (by omega) (by omega) c_2 | exact c_2 (nI_lt (by omega) (by omega))
      have hiN : j = 25 := by omega
      rw [hiN] at hl
      exact kk H locs ls hH hS (lv_sub hl [0, 1] rfl) hI_lose
    | succ r ih =>
      intro j t H locs ls QQ hn_lose hI_lose hH hS hl kk
      have hz0 := hs.2
      refine lv_iload_n hx hb dX10_loseHour_5 rfl (lv_at hl 0 rfl) ?_
      refine lv_bipush (v := 25) hx hb dX10_loseHour_6 (by decide) ?_
      refine lv_icmp_ge (tgt := 72) hx hb dX10_loseHour_8 (by decide) (fun c_3 => ?_) (fun c_3 => ?_)
      · exfalso; rw [show (25 : Int32) = nI 25 from rfl] at c_3; first | exact nI_ge (by omega) (by omega) c_3 | exact c_3 (nI_le (by omega) (by omega)) | exact nI_nlt (by omega) (by omega) c_3 | exact c_3 (nI_lt (by omega) (by omega))
      refine lv_iconst (v := 0) hx hb dX10_loseHour_11 (by decide) ?_
      refine lv_istore_n (lv' := [(2, .int 0), (1, .int (nI j)), (0, .ref (G.1 (.inl (0, 0))))]) hx hb dX10_loseHour_12 rfl hl (by decide) rfl (fun ls hl => ?_)
      have LP_4 : ∀ (r2 g : Nat) (t : hk_v) (H : Heap) (locs : List Loc) (ls : Array Slot) (QQ : State → Prop), g + r2 = Z.1 0 → (∀ q k, q.1 ≠ 9 → q.1 ≠ 3 → t q k = τ q k) → hk_H D G (hk_cm t σ) H → va_S (hk_A D) s.heap H locs → lv_has ls 3 [(2, .int (nI g)), (1, .int (nI j)), (0, .ref (G.1 (.inl (0, 0))))] → (∀ (H : Heap) (locs : List Loc) (ls : Array Slot), hk_H D G (hk_cm (hk_it (B_loseg j) r2 g t) σ) H → va_S (hk_A D) s.heap H locs → lv_has ls 3 [(2, .int (nI (Z.1 0))), (1, .int (nI j)), (0, .ref (G.1 (.inl (0, 0))))] → (∀ q k, q.1 ≠ 9 → q.1 ≠ 3 → (hk_it (B_loseg j) r2 g t) q k = τ q k) → W p l e ({ frames := 3, cells := 0, slots := 0, locals := 68 }) s m ([.ref (G.1 (.inl (0, 0)))] : List Value).toArray below meth c H locs 0 0 QQ (F0 m 66 ls [])) → W p l e ({ frames := 3, cells := 0, slots := 0, locals := 68 }) s m ([.ref (G.1 (.inl (0, 0)))] : List Value).toArray below meth c H locs 0 0 QQ (F0 m 13 ls []) := by
        intro r2
        induction r2 with
        | zero =>
          intro g t H locs ls QQ hn_loseg hI_loseg hH hS hl kk
          have hst : hk_sz Z t := hs.of (fun j => hI_loseg _ _ (show (1 : Nat) ≠ 9 by decide) (show (1 : Nat) ≠ 3 by decide))
          have hz6 := hst.2
          refine lv_iload_n hx hb dX10_loseHour_13 rfl (lv_at hl 0 rfl) ?_
          refine lv_aload_n hx hb dX10_loseHour_14 rfl (lv_at hl 2 rfl) ?_
          refine hk_getr (L := (.inl (0, 0))) (v := .ref (G.1 (.inl (1, 0)))) hx hb ht hown hK hH kc_11 hG.k0 0 (by decide) rfl tw_168 rfl hG.r0_0 dX10_loseHour_15 ?_
          refine hk_cV (L := (.inl (1, 0))) (As := []) (rest := [.int (nI g)]) hx hb hml hl.1 ht hown hK hH hS (c_size l D G t σ 0 hG.k1_0) ymV_Jx4a65c_size_8abf5 kc_0 hG.k1_0 tw_209 ⟨rfl, rfl⟩ ⟨Nat.le_of_ble_eq_true rfl, Nat.le_of_ble_eq_true rfl⟩ rfl rfl (Nat.le_of_ble_eq_true rfl) dX10_loseHour_18 ⟨Nat.le_of_ble_eq_true rfl, Nat.le_of_ble_eq_true rfl⟩ (hk_ea (fun H locs hH hS => ?_))
          rw [show F_size t 0 = t (1, 0) 2 from rfl]
          refine lv_icmp_ge (tgt := 66) hx hb dX10_loseHour_21 (by decide) (fun c_5 => ?_) (fun c_5 => ?_)
          rotate_left
          · exfalso; rw [hst.1.1] at c_5; first | exact nI_ge (by omega) (by omega) c_5 | exact c_5 (nI_le (by omega) (by omega)) | exact nI_nlt (by omega) (by omega) c_5 | exact c_5 (nI_lt (by omega) (by omega))
          have hiN : g = Z.1 0 := by omega
          rw [hiN] at hl
          exact kk H locs ls hH hS (lv_sub hl [0, 1, 2] rfl) hI_loseg
        | succ r2 ih =>
          intro g t H locs ls QQ hn_loseg hI_loseg hH hS hl kk
          have hst : hk_sz Z t := hs.of (fun j => hI_loseg _ _ (show (1 : Nat) ≠ 9 by decide) (show (1 : Nat) ≠ 3 by decide))
          have hz6 := hst.2
          refine lv_iload_n hx hb dX10_loseHour_13 rfl (lv_at hl 0 rfl) ?_
          refine lv_aload_n hx hb dX10_loseHour_14 rfl (lv_at hl 2 rfl) ?_
          refine hk_getr (L := (.inl (0, 0))) (v := .ref (G.1 (.inl (1, 0)))) hx hb ht hown hK hH kc_11 hG.k0 0 (by decide) rfl tw_168 rfl hG.r0_0 dX10_loseHour_15 ?_
          refine hk_cV (L := (.inl (1, 0))) (As := []) (rest := [.int (nI g)]) hx hb hml hl.1 ht hown hK hH hS (c_size l D G t σ 0 hG.k1_0) ymV_Jx4a65c_size_8abf5 kc_0 hG.k1_0 tw_209 ⟨rfl, rfl⟩ ⟨Nat.le_of_ble_eq_true rfl, Nat.le_of_ble_eq_true rfl⟩ rfl rfl (Nat.le_of_ble_eq_true rfl) dX10_loseHour_18 ⟨Nat.le_of_ble_eq_true rfl, Nat.le_of_ble_eq_true rfl⟩ (hk_ea (fun H locs hH hS => ?_))
          rw [show F_size t 0 = t (1, 0) 2 from rfl]
          refine lv_icmp_ge (tgt := 66) hx hb dX10_loseHour_21 (by decide) (fun c_6 => ?_) (fun c_6 => ?_)
          · exfalso; rw [hst.1.1] at c_6; first | exact nI_ge (by omega) (by omega) c_6 | exact c_6 (nI_le (by omega) (by omega)) | exact nI_nlt (by omega) (by omega) c_6 | exact c_6 (nI_lt (by omega) (by omega))
          refine lv_aload_n hx hb dX10_loseHour_24 rfl (lv_at hl 2 rfl) ?_
          refine hk_getr (L := (.inl (0, 0))) (v := .ref (G.1 (.inl (1, 0)))) hx hb ht hown hK hH kc_11 hG.k0 0 (by decide) rfl tw_168 rfl hG.r0_0 dX10_loseHour_25 ?_
          refine lv_iload_n hx hb dX10_loseHour_28 rfl (lv_at hl 0 rfl) ?_
          refine hk_cV (L := (.inl (1, 0))) (As := [.int (nI g)]) (rest := []) hx hb hml hl.1 ht hown hK hH hS (c_lget l D G t σ 0 g (Z.1 0) (nI g) (.ref (G.1 (.inl (9, g)))) hG.k1_0 (hG.a1_0 (by omega)) (hG.k2_0 (by omega)) rfl (by omega) (by have := hst.2; omega) (hG.a2_0 _ (by omega)) ⟨_, rfl⟩ hst.1.1) ymV_Jx4a65c_get_915e3 kc_0 hG.k1_0 tw_343 ⟨rfl, rfl⟩ ⟨Nat.le_of_ble_eq_true rfl, Nat.le_of_ble_eq_true rfl⟩ rfl rfl (Nat.le_of_ble_eq_true rfl) dX10_loseHour_29 ⟨Nat.le_of_ble_eq_true rfl, Nat.le_of_ble_eq_true rfl⟩ (hk_ea (fun H locs hH hS => ?_))
          refine hk_cast (L := (.inl (9, g))) hx hb ht hown hK hH kc_5 (hG.k9 g (by omega)) tw_213 dX10_loseHour_32 ?_
          refine lv_dup hx hb dX10_loseHour_35 rfl ?_
          refine hk_geti (L := (.inl (9, g))) (v := t (9, g) 4) hx hb ht hown hK hH kc_5 (hG.k9 g (by omega)) 4 (by decide) rfl tw_225 rfl rfl dX10_loseHour_36 ?_
          refine lv_aload_n hx hb dX10_loseHour_39 rfl (lv_at hl 2 rfl) ?_
          refine hk_getr (L := (.inl (0, 0))) (v := .ref (G.1 (.inl (3, 0)))) hx hb ht hown hK hH kc_11 hG.k0 3 (by decide) rfl tw_171 rfl hG.r0_3 dX10_loseHour_40 ?_
          refine lv_aload_n hx hb dX10_loseHour_43 rfl (lv_at hl 2 rfl) ?_
          refine hk_geti (L := (.inl (0, 0))) (v := t (0, 0) 8) hx hb ht hown hK hH kc_11 hG.k0 8 (by decide) rfl tw_176 rfl rfl dX10_loseHour_44 ?_
          refine lv_iload_n hx hb dX10_loseHour_47 rfl (lv_at hl 1 rfl) ?_
          refine lv_isub hx hb dX10_loseHour_48 ?_
          refine lv_iload_n hx hb dX10_loseHour_49 rfl (lv_at hl 0 rfl) ?_
          refine lv_sipush (v := 5000) hx hb dX10_loseHour_50 (by decide) ?_
          refine hk_cV (L := (.inl (3, 0))) (As := [.int ((t (0, 0) 8) - (nI j)), .int (nI g), .int 5000]) (rest := [.int (t (9, g) 4), .ref (G.1 (.inl (9, g)))]) hx hb hml hl.1 ht hown hK hH hS (c_give l D G Z t σ ((t (0, 0) 8) - (nI j)) (nI g) 5000 hG) ymV_X5_give kc_6 hG.k3_0 tw_539 ⟨rfl, rfl⟩ ⟨Nat.le_of_ble_eq_true rfl, Nat.le_of_ble_eq_true rfl⟩ rfl rfl (Nat.le_of_ble_eq_true rfl) dX10_loseHour_53 ⟨Nat.le_of_ble_eq_true rfl, Nat.le_of_ble_eq_true rfl⟩ (hk_ea (fun H locs hH hS => ?_))
          refine lv_iadd hx hb dX10_loseHour_56 ?_
          refine hk_puti (L := (.inl (9, g))) hx hb ht hown hK hH hS kc_5 (hG.k9 g (by omega)) 4 (by decide) rfl tw_225 rfl (Or.inl rfl) rfl dX10_loseHour_57 (fun H locs hH hS => ?_)
          rw [hk_up_l] at hH
          refine lv_iinc (v := nI (g + 1)) (lv' := [(2, .int (nI (g + 1))), (1, .int (nI j)), (0, .ref (G.1 (.inl (0, 0))))]) hx hb dX10_loseHour_60 hl (k := 0) rfl (nI_1 _) (by decide) rfl (fun ls hl => ?_)
          refine lv_goto (tgt := 13) hx hb dX10_loseHour_63 (by decide) ?_
          have EB_7 : (B_loseg j) g t = (hk_u (T_give t ((t (0, 0) 8) - (nI j)) (nI g) 5000) (9, g) 4 ((t (9, g) 4) + (F_give t ((t (0, 0) 8) - (nI j)) (nI g) 5000))) := by simp only [B_loseg]
          have hI2 : (∀ q k, q.1 ≠ 9 → q.1 ≠ 3 → (hk_u (T_give t ((t (0, 0) 8) - (nI j)) (nI g) 5000) (9, g) 4 ((t (9, g) 4) + (F_give t ((t (0, 0) 8) - (nI j)) (nI g) 5000))) q k = τ q k) := by
            exact fun q k h9 h3 => by rw [hk_u_o h9, T_give_o h3]; exact hI_loseg q k h9 h3
          exact ih (g + 1) (hk_u (T_give t ((t (0, 0) 8) - (nI j)) (nI g) 5000) (9, g) 4 ((t (9, g) 4) + (F_give t ((t (0, 0) 8) - (nI j)) (nI g) 5000))) _ _ _ QQ (by omega) hI2 hH hS (lv_sub hl [0, 1, 2] rfl) (fun H locs ls hH hS hl hI_loseg => kk H locs ls (by rw [hk_it_s, EB_7]; exact hH) hS hl (by first | exact hI_loseg | (rw [hk_it_s, EB_7]; exact hI_loseg)))
      refine LP_4 (Z.1 0) 0 t _ _ _ _ (by omega) hI_lose hH hS (lv_sub hl [0, 1, 2] rfl) (fun H locs ls hH hS hl hI_loseg => ?_)
      refine lv_iinc (v := nI (j + 1)) (lv' := [(1, .int (nI (j + 1))), (2, .int (nI (Z.1 0))), (0, .ref (G.1 (.inl (0, 0))))]) hx hb dX10_loseHour_66 hl (k := 1) rfl (nI_1 _) (by decide) rfl (fun ls hl => ?_)
      refine lv_goto (tgt := 5) hx hb dX10_loseHour_69 (by decide) ?_
      have EB_8 : (B_lose Z) j t = (hk_it (B_loseg j) (Z.1 0) 0 t) := by simp only [B_lose]
      have hI2 : (∀ q k, q.1 ≠ 9 → q.1 ≠ 3 → (hk_it (B_loseg j) (Z.1 0) 0 t) q k = τ q k) := by
        exact hI_loseg
      exact ih (j + 1) (hk_it (B_loseg j) (Z.1 0) 0 t) _ _ _ QQ (by omega) hI2 hH hS (lv_sub hl [0, 2] rfl) (fun H locs ls hH hS hl hI_lose => kk H locs ls (by rw [hk_it_s, EB_8]; exact hH) hS hl (by first | exact hI_lose | (rw [hk_it_s, EB_8]; exact hI_lose)))
  rw [hw] at hl
  refine LP_1 (25 - w) w τ _ _ _ _ (by omega) (fun _ _ _ _ => rfl) hH hS (lv_sub hl [0, 1] rfl) (fun H locs ls hH hS hl hI_lose => ?_)
  exact hk_vret hx hb hr hlocks hH hS ⟨rfl, rfl, (by simp only [T_loseHour])⟩ dX10_loseHour_72
