def hk_pk (Z : hk_Z) (t : hk_v) (i : Nat) : Prop := hk_mz Z t ∧ hk_mn t 29 ∧ (¬ t (1, 12) i = -9 → vp_in (t (1, 12) i) 6) ∧ (¬ t (1, 12) i = -9 → vp_in (6 * t (0, 0) 0 + t (1, 12) i) 2886) ∧ ¬ t (1, 11) i = 0
def hk_dr (Z : hk_Z) (t : hk_v) (P i : Nat) : Prop := hk_mz Z t ∧ (t (1, 22) i = nI (t (1, 22) i).toNatClampNeg ∧ (t (1, 22) i).toNatClampNeg ≤ 200) ∧ (∀ j, j < (t (1, 22) i).toNatClampNeg → vp_in (t (1, 23) (200 * i + j)) 6) ∧ t (0, 0) 24 = nI P ∧ P + 200 < 2 ^ 30
def hk_tq (Z : hk_Z) (t : hk_v) (nw i : Nat) : Prop := hk_mz Z t ∧ t (0, 0) 0 = nI nw ∧ nw ≤ 480 ∧ ∃ f rm : Nat, f ≤ rm ∧ rm ≤ 200 ∧ t (1, 22) i = nI f ∧ t (1, 19) i = nI rm
theorem ymV_X11_picks : hk_mV yX11_picks cX11_picks 5 none RX11 1 := ⟨tw_863, tw_862, tw_21, tw_42, rfl, by decide, by decide, by decide +kernel⟩
theorem ymV_X11_dries : hk_mV yX11_dries cX11_dries 3 none RX11 1 := ⟨tw_875, tw_874, tw_24, tw_42, rfl, by decide, by decide, by decide +kernel⟩
theorem ymV_X11_spoils : hk_mV yX11_spoils cX11_spoils 3 none RX11 0 := ⟨tw_883, tw_882, tw_26, tw_42, rfl, by decide, by decide, by decide +kernel⟩
theorem ymV_X11_takes : hk_mV yX11_takes cX11_takes 4 none RX11 1 := ⟨tw_887, tw_886, tw_27, tw_42, rfl, by decide, by decide, by decide +kernel⟩
def B_m_o1  (j : Nat) (t : hk_v) : hk_v := (T_m_picks t j)
def B_m_o2  (j : Nat) (t : hk_v) : hk_v := (T_m_dries t j)
def B_m_o3 (nw : Nat)  (j : Nat) (t : hk_v) : hk_v := (T_m_takes t j nw)
def T_m_oneHour (Z : hk_Z) (σ : hk_v) (nw : Nat) (w : Nat) : hk_v := (hk_u (hk_it (B_m_o3 nw) (Z.1 2) 0 (T_m_spoils Z (hk_it B_m_o2 (Z.1 2) 0 (hk_it B_m_o1 (Z.1 1) 0 σ)) nw w)) (0, 0) 0 (((hk_it (B_m_o3 nw) (Z.1 2) 0 (T_m_spoils Z (hk_it B_m_o2 (Z.1 2) 0 (hk_it B_m_o1 (Z.1 1) 0 σ)) nw w)) (0, 0) 0) + 1))
set_option maxHeartbeats 4000000 in
set_option maxRecDepth 100000 in
theorem c_m_oneHour (l : Launch) (D : hk_D) (G : hk_G) (Z : hk_Z) (τ σ : hk_v) (nw : Nat) (w : Nat) (hM : hk_M G) (hms : hk_mz Z σ) (P : Nat → Nat) (hz1 : ∀ j, j ≤ Z.1 1 → hk_mz Z (hk_it B_m_o1 j 0 σ)) (hpk : ∀ j, j < Z.1 1 → hk_pk Z (hk_it B_m_o1 j 0 σ) j) (hz2 : ∀ j, j ≤ Z.1 2 → hk_mz Z (hk_it B_m_o2 j 0 (hk_it B_m_o1 (Z.1 1) 0 σ))) (hdr : ∀ j, j < Z.1 2 → hk_dr Z (hk_it B_m_o2 j 0 (hk_it B_m_o1 (Z.1 1) 0 σ)) (P j) j) (hsp : hk_mz Z (hk_it B_m_o2 (Z.1 2) 0 (hk_it B_m_o1 (Z.1 1) 0 σ)) ∧ (hk_it B_m_o2 (Z.1 2) 0 (hk_it B_m_o1 (Z.1 1) 0 σ)) (0, 0) 0 = nI nw ∧ nw ≤ 480 ∧ (hk_it B_m_o2 (Z.1 2) 0 (hk_it B_m_o1 (Z.1 1) 0 σ)) (0, 0) 1 = nI w ∧ w ≤ 24) (hz3 : ∀ j, j ≤ Z.1 2 → hk_mz Z (hk_it (B_m_o3 nw) j 0 (T_m_spoils Z (hk_it B_m_o2 (Z.1 2) 0 (hk_it B_m_o1 (Z.1 1) 0 σ)) nw w))) (htk : ∀ j, j < Z.1 2 → hk_tq Z (hk_it (B_m_o3 nw) j 0 (T_m_spoils Z (hk_it B_m_o2 (Z.1 2) 0 (hk_it B_m_o1 (Z.1 1) 0 σ)) nw w)) nw j) : Met l yX11_oneHour (hk_ws yX11_oneHour cX11_oneHour 2 none) ({ frames := 3, cells := 0, slots := 0, locals := 68 }) (hk_P D G (hk_cm τ σ) [.ref (G.1 (.inr (0, 0)))]) (hk_Q D (hk_e G (none) (hk_cm τ (T_m_oneHour Z σ nw w)))) 0 0 (hk_A D) := by
  refine hk_met (by decide +kernel) (Nat.le_of_ble_eq_true rfl) (fun p e s m below meth c hx hb hr hml hlocks ht hown hin hK hH hS ls hl => ?_)
  have hl : lv_has ls 2 [(0, .ref (G.1 (.inr (0, 0))))] := hl
  refine lv_iconst (v := 0) hx hb dX11_oneHour_0 (by decide) ?_
  refine lv_istore_n (lv' := [(1, .int 0), (0, .ref (G.1 (.inr (0, 0))))]) hx hb dX11_oneHour_1 rfl hl (by decide) rfl (fun ls hl => ?_)
  have LP_1 : ∀ (r j : Nat) (t : hk_v) (H : Heap) (locs : List Loc) (ls : Array Slot) (QQ : State → Prop), j + r = Z.1 1 → (t = hk_it B_m_o1 (j) 0 σ) → hk_H D G (hk_cm τ t) H → va_S (hk_A D) s.heap H locs → lv_has ls 2 [(1, .int (nI j)), (0, .ref (G.1 (.inr (0, 0))))] → (∀ (H : Heap) (locs : List Loc) (ls : Array Slot), hk_H D G (hk_cm τ (hk_it B_m_o1 r j t)) H → va_S (hk_A D) s.heap H locs → lv_has ls 2 [(1, .int (nI (Z.1 1))), (0, .ref (G.1 (.inr (0, 0))))] → ((hk_it B_m_o1 r j t) = hk_it B_m_o1 (Z.1 1) 0 σ) → W p l e ({ frames := 3, cells := 0, slots := 0, locals := 68 }) s m ([.ref (G.1 (.inr (0, 0)))] : List Value).toArray below meth c H locs 0 0 QQ (F0 m 21 ls [])) → W p l e ({ frames := 3, cells := 0, slots := 0, locals := 68 }) s m ([.ref (G.1 (.inr (0, 0)))] : List Value).toArray below meth c H locs 0 0 QQ (F0 m 2 ls []) := by
    intro r
    induction r with
    | zero =>
      intro j t H locs ls QQ hn_m_o1 hI_m_o1 hH hS hl kk
      have hz6 := hms.2
      refine lv_iload_n hx hb dX11_oneHour_2 rfl (lv_at hl 0 rfl) ?_
      refine lv_aload_n hx hb dX11_oneHour_3 rfl (lv_at hl 1 rfl) ?_
      refine hk_geti (L := (.inr (0, 0))) (v := t (0, 0) 9) hx hb ht hown hK hH kc_12 hM.k0 9 (by decide) rfl tw_701 rfl rfl dX11_oneHour_4 ?_
      refine lv_icmp_ge (tgt := 21) hx hb dX11_oneHour_7 (by decide) (fun c_2 => ?_) (fun c_2 => ?_)
      rotate_left
      · exfalso; rw [(show t (0, 0) 9 = nI (Z.1 1) by rw [hI_m_o1]; exact (hz1 j (by omega)).1.2.1)] at c_2; first | exact nI_ge (by omega) (by omega) c_2 | exact c_2 (nI_le (by omega) (by omega)) | exact nI_nlt (by omega) (by omega) c_2 | exact c_2 (nI_lt (by omega) (by omega))
      have hiN : j = Z.1 1 := by omega
      rw [hiN] at hl hI_m_o1
      exact kk H locs ls hH hS (lv_sub hl [0, 1] rfl) hI_m_o1
    | succ r ih =>
      intro j t H locs ls QQ hn_m_o1 hI_m_o1 hH hS hl kk
      have hz6 := hms.2
      refine lv_iload_n hx hb dX11_oneHour_2 rfl (lv_at hl 0 rfl) ?_
      refine lv_aload_n hx hb dX11_oneHour_3 rfl (lv_at hl 1 rfl) ?_
      refine hk_geti (L := (.inr (0, 0))) (v := t (0, 0) 9) hx hb ht hown hK hH kc_12 hM.k0 9 (by decide) rfl tw_701 rfl rfl dX11_oneHour_4 ?_
      refine lv_icmp_ge (tgt := 21) hx hb dX11_oneHour_7 (by decide) (fun c_3 => ?_) (fun c_3 => ?_)
      · exfalso; rw [(show t (0, 0) 9 = nI (Z.1 1) by rw [hI_m_o1]; exact (hz1 j (by omega)).1.2.1)] at c_3; first | exact nI_ge (by omega) (by omega) c_3 | exact c_3 (nI_le (by omega) (by omega)) | exact nI_nlt (by omega) (by omega) c_3 | exact c_3 (nI_lt (by omega) (by omega))
      refine lv_aload_n hx hb dX11_oneHour_10 rfl (lv_at hl 1 rfl) ?_
      refine lv_iload_n hx hb dX11_oneHour_11 rfl (lv_at hl 0 rfl) ?_
      have hq1 : hk_pk Z t j := by rw [hI_m_o1]; exact hpk j (by omega)
      refine hk_cV (L := (.inr (0, 0))) (As := [.int (nI j)]) (rest := []) hx hb hml hl.1 ht hown hK hH hS (c_m_picks l D G Z τ t j hM (by have := (hq1).1.2; omega) hq1.2.1 hq1.2.2.1 hq1.2.2.2.1 hq1.2.2.2.2) ymV_X11_picks kc_12 hM.k0 tw_860 ⟨rfl, rfl⟩ ⟨Nat.le_of_ble_eq_true rfl, Nat.le_of_ble_eq_true rfl⟩ rfl rfl (Nat.le_of_ble_eq_true rfl) dX11_oneHour_12 ⟨Nat.le_of_ble_eq_true rfl, Nat.le_of_ble_eq_true rfl⟩ (hk_ev (fun H locs hH hS => ?_))
      refine lv_iinc (v := nI (j + 1)) (lv' := [(1, .int (nI (j + 1))), (0, .ref (G.1 (.inr (0, 0))))]) hx hb dX11_oneHour_15 hl (k := 0) rfl (nI_1 _) (by decide) rfl (fun ls hl => ?_)
      refine lv_goto (tgt := 2) hx hb dX11_oneHour_18 (by decide) ?_
      have EB_4 : B_m_o1 j t = (T_m_picks t j) := by simp only [B_m_o1]
      have hI2 : ((T_m_picks t j) = hk_it B_m_o1 ((j + 1)) 0 σ) := by
        rw [hk_it_last, Nat.zero_add, ← hI_m_o1]; exact EB_4.symm
      exact ih (j + 1) (T_m_picks t j) _ _ _ QQ (by omega) hI2 hH hS (lv_sub hl [0, 1] rfl) (fun H locs ls hH hS hl hI_m_o1 => kk H locs ls (by rw [hk_it_s, EB_4]; exact hH) hS hl (by first | exact hI_m_o1 | (rw [hk_it_s, EB_4]; exact hI_m_o1)))
  refine LP_1 (Z.1 1) 0 σ _ _ _ _ (by omega) rfl hH hS (lv_sub hl [0, 1] rfl) (fun H locs ls hH hS hl hI_m_o1 => ?_)
  refine lv_iconst (v := 0) hx hb dX11_oneHour_21 (by decide) ?_
  refine lv_istore_n (lv' := [(1, .int 0), (0, .ref (G.1 (.inr (0, 0))))]) hx hb dX11_oneHour_22 rfl hl (by decide) rfl (fun ls hl => ?_)
  have LP_5 : ∀ (r j : Nat) (t : hk_v) (H : Heap) (locs : List Loc) (ls : Array Slot) (QQ : State → Prop), j + r = Z.1 2 → (t = hk_it B_m_o2 (j) 0 (hk_it B_m_o1 (Z.1 1) 0 σ)) → hk_H D G (hk_cm τ t) H → va_S (hk_A D) s.heap H locs → lv_has ls 2 [(1, .int (nI j)), (0, .ref (G.1 (.inr (0, 0))))] → (∀ (H : Heap) (locs : List Loc) (ls : Array Slot), hk_H D G (hk_cm τ (hk_it B_m_o2 r j t)) H → va_S (hk_A D) s.heap H locs → lv_has ls 2 [(1, .int (nI (Z.1 2))), (0, .ref (G.1 (.inr (0, 0))))] → ((hk_it B_m_o2 r j t) = hk_it B_m_o2 (Z.1 2) 0 (hk_it B_m_o1 (Z.1 1) 0 σ)) → W p l e ({ frames := 3, cells := 0, slots := 0, locals := 68 }) s m ([.ref (G.1 (.inr (0, 0)))] : List Value).toArray below meth c H locs 0 0 QQ (F0 m 42 ls [])) → W p l e ({ frames := 3, cells := 0, slots := 0, locals := 68 }) s m ([.ref (G.1 (.inr (0, 0)))] : List Value).toArray below meth c H locs 0 0 QQ (F0 m 23 ls []) := by
    intro r
    induction r with
    | zero =>
      intro j t H locs ls QQ hn_m_o2 hI_m_o2 hH hS hl kk
      have hz6 := hms.2
      refine lv_iload_n hx hb dX11_oneHour_23 rfl (lv_at hl 0 rfl) ?_
      refine lv_aload_n hx hb dX11_oneHour_24 rfl (lv_at hl 1 rfl) ?_
      refine hk_geti (L := (.inr (0, 0))) (v := t (0, 0) 17) hx hb ht hown hK hH kc_12 hM.k0 17 (by decide) rfl tw_709 rfl rfl dX11_oneHour_25 ?_
      refine lv_icmp_ge (tgt := 42) hx hb dX11_oneHour_28 (by decide) (fun c_6 => ?_) (fun c_6 => ?_)
      rotate_left
      · exfalso; rw [(show t (0, 0) 17 = nI (Z.1 2) by rw [hI_m_o2]; exact (hz2 j (by omega)).1.2.2)] at c_6; first | exact nI_ge (by omega) (by omega) c_6 | exact c_6 (nI_le (by omega) (by omega)) | exact nI_nlt (by omega) (by omega) c_6 | exact c_6 (nI_lt (by omega) (by omega))
      have hiN : j = Z.1 2 := by omega
      rw [hiN] at hl hI_m_o2
      exact kk H locs ls hH hS (lv_sub hl [0, 1] rfl) hI_m_o2
    | succ r ih =>
      intro j t H locs ls QQ hn_m_o2 hI_m_o2 hH hS hl kk
      have hz6 := hms.2
      refine lv_iload_n hx hb dX11_oneHour_23 rfl (lv_at hl 0 rfl) ?_
      refine lv_aload_n hx hb dX11_oneHour_24 rfl (lv_at hl 1 rfl) ?_
      refine hk_geti (L := (.inr (0, 0))) (v := t (0, 0) 17) hx hb ht hown hK hH kc_12 hM.k0 17 (by decide) rfl tw_709 rfl rfl dX11_oneHour_25 ?_
      refine lv_icmp_ge (tgt := 42) hx hb dX11_oneHour_28 (by decide) (fun c_7 => ?_) (fun c_7 => ?_)
      · exfalso; rw [(show t (0, 0) 17 = nI (Z.1 2) by rw [hI_m_o2]; exact (hz2 j (by omega)).1.2.2)] at c_7; first | exact nI_ge (by omega) (by omega) c_7 | exact c_7 (nI_le (by omega) (by omega)) | exact nI_nlt (by omega) (by omega) c_7 | exact c_7 (nI_lt (by omega) (by omega))
      refine lv_aload_n hx hb dX11_oneHour_31 rfl (lv_at hl 1 rfl) ?_
      refine lv_iload_n hx hb dX11_oneHour_32 rfl (lv_at hl 0 rfl) ?_
      have hq2 : hk_dr Z t (P j) j := by rw [hI_m_o2]; exact hdr j (by omega)
      refine hk_cV (L := (.inr (0, 0))) (As := [.int (nI j)]) (rest := []) hx hb hml hl.1 ht hown hK hH hS (c_m_dries l D G Z τ t j hM (P j) (by have := (hq2).1.2; omega) hq2.2.1 hq2.2.2.1 hq2.2.2.2.1 hq2.2.2.2.2) ymV_X11_dries kc_12 hM.k0 tw_872 ⟨rfl, rfl⟩ ⟨Nat.le_of_ble_eq_true rfl, Nat.le_of_ble_eq_true rfl⟩ rfl rfl (Nat.le_of_ble_eq_true rfl) dX11_oneHour_33 ⟨Nat.le_of_ble_eq_true rfl, Nat.le_of_ble_eq_true rfl⟩ (hk_ev (fun H locs hH hS => ?_))
      refine lv_iinc (v := nI (j + 1)) (lv' := [(1, .int (nI (j + 1))), (0, .ref (G.1 (.inr (0, 0))))]) hx hb dX11_oneHour_36 hl (k := 0) rfl (nI_1 _) (by decide) rfl (fun ls hl => ?_)
      refine lv_goto (tgt := 23) hx hb dX11_oneHour_39 (by decide) ?_
      have EB_8 : B_m_o2 j t = (T_m_dries t j) := by simp only [B_m_o2]
      have hI2 : ((T_m_dries t j) = hk_it B_m_o2 ((j + 1)) 0 (hk_it B_m_o1 (Z.1 1) 0 σ)) := by
        rw [hk_it_last, Nat.zero_add, ← hI_m_o2]; exact EB_8.symm
      exact ih (j + 1) (T_m_dries t j) _ _ _ QQ (by omega) hI2 hH hS (lv_sub hl [0, 1] rfl) (fun H locs ls hH hS hl hI_m_o2 => kk H locs ls (by rw [hk_it_s, EB_8]; exact hH) hS hl (by first | exact hI_m_o2 | (rw [hk_it_s, EB_8]; exact hI_m_o2)))
  refine LP_5 (Z.1 2) 0 (hk_it B_m_o1 (Z.1 1) 0 σ) _ _ _ _ (by omega) rfl hH hS (lv_sub hl [0, 1] rfl) (fun H locs ls hH hS hl hI_m_o2 => ?_)
  refine lv_aload_n hx hb dX11_oneHour_42 rfl (lv_at hl 1 rfl) ?_
  refine hk_cV (L := (.inr (0, 0))) (As := []) (rest := []) hx hb hml hl.1 ht hown hK hH hS (c_m_spoils l D G Z τ (hk_it B_m_o2 (Z.1 2) 0 (hk_it B_m_o1 (Z.1 1) 0 σ)) nw w hM hsp.1 hsp.2.1 hsp.2.2.1 hsp.2.2.2.1 hsp.2.2.2.2) ymV_X11_spoils kc_12 hM.k0 tw_880 ⟨rfl, rfl⟩ ⟨Nat.le_of_ble_eq_true rfl, Nat.le_of_ble_eq_true rfl⟩ rfl rfl (Nat.le_of_ble_eq_true rfl) dX11_oneHour_43 ⟨Nat.le_of_ble_eq_true rfl, Nat.le_of_ble_eq_true rfl⟩ (hk_ev (fun H locs hH hS => ?_))
  refine lv_iconst (v := 0) hx hb dX11_oneHour_46 (by decide) ?_
  refine lv_istore_n (lv' := [(1, .int 0), (0, .ref (G.1 (.inr (0, 0))))]) hx hb dX11_oneHour_47 rfl hl (by decide) rfl (fun ls hl => ?_)
  have LP_9 : ∀ (r j : Nat) (t : hk_v) (H : Heap) (locs : List Loc) (ls : Array Slot) (QQ : State → Prop), j + r = Z.1 2 → (t = hk_it (B_m_o3 nw) (j) 0 (T_m_spoils Z (hk_it B_m_o2 (Z.1 2) 0 (hk_it B_m_o1 (Z.1 1) 0 σ)) nw w)) → hk_H D G (hk_cm τ t) H → va_S (hk_A D) s.heap H locs → lv_has ls 2 [(1, .int (nI j)), (0, .ref (G.1 (.inr (0, 0))))] → (∀ (H : Heap) (locs : List Loc) (ls : Array Slot), hk_H D G (hk_cm τ (hk_it (B_m_o3 nw) r j t)) H → va_S (hk_A D) s.heap H locs → lv_has ls 2 [(1, .int (nI (Z.1 2))), (0, .ref (G.1 (.inr (0, 0))))] → ((hk_it (B_m_o3 nw) r j t) = hk_it (B_m_o3 nw) (Z.1 2) 0 (T_m_spoils Z (hk_it B_m_o2 (Z.1 2) 0 (hk_it B_m_o1 (Z.1 1) 0 σ)) nw w)) → W p l e ({ frames := 3, cells := 0, slots := 0, locals := 68 }) s m ([.ref (G.1 (.inr (0, 0)))] : List Value).toArray below meth c H locs 0 0 QQ (F0 m 67 ls [])) → W p l e ({ frames := 3, cells := 0, slots := 0, locals := 68 }) s m ([.ref (G.1 (.inr (0, 0)))] : List Value).toArray below meth c H locs 0 0 QQ (F0 m 48 ls []) := by
    intro r
    induction r with
    | zero =>
      intro j t H locs ls QQ hn_m_o3 hI_m_o3 hH hS hl kk
      have hz6 := hms.2
      refine lv_iload_n hx hb dX11_oneHour_48 rfl (lv_at hl 0 rfl) ?_
      refine lv_aload_n hx hb dX11_oneHour_49 rfl (lv_at hl 1 rfl) ?_
      refine hk_geti (L := (.inr (0, 0))) (v := t (0, 0) 17) hx hb ht hown hK hH kc_12 hM.k0 17 (by decide) rfl tw_709 rfl rfl dX11_oneHour_50 ?_
      refine lv_icmp_ge (tgt := 67) hx hb dX11_oneHour_53 (by decide) (fun c_10 => ?_) (fun c_10 => ?_)
      rotate_left
      · exfalso; rw [(show t (0, 0) 17 = nI (Z.1 2) by rw [hI_m_o3]; exact (hz3 j (by omega)).1.2.2)] at c_10; first | exact nI_ge (by omega) (by omega) c_10 | exact c_10 (nI_le (by omega) (by omega)) | exact nI_nlt (by omega) (by omega) c_10 | exact c_10 (nI_lt (by omega) (by omega))
      have hiN : j = Z.1 2 := by omega
      rw [hiN] at hl hI_m_o3
      exact kk H locs ls hH hS (lv_sub hl [0, 1] rfl) hI_m_o3
    | succ r ih =>
      intro j t H locs ls QQ hn_m_o3 hI_m_o3 hH hS hl kk
      have hz6 := hms.2
      refine lv_iload_n hx hb dX11_oneHour_48 rfl (lv_at hl 0 rfl) ?_
      refine lv_aload_n hx hb dX11_oneHour_49 rfl (lv_at hl 1 rfl) ?_
      refine hk_geti (L := (.inr (0, 0))) (v := t (0, 0) 17) hx hb ht hown hK hH kc_12 hM.k0 17 (by decide) rfl tw_709 rfl rfl dX11_oneHour_50 ?_
      refine lv_icmp_ge (tgt := 67) hx hb dX11_oneHour_53 (by decide) (fun c_11 => ?_) (fun c_11 => ?_)
      · exfalso; rw [(show t (0, 0) 17 = nI (Z.1 2) by rw [hI_m_o3]; exact (hz3 j (by omega)).1.2.2)] at c_11; first | exact nI_ge (by omega) (by omega) c_11 | exact c_11 (nI_le (by omega) (by omega)) | exact nI_nlt (by omega) (by omega) c_11 | exact c_11 (nI_lt (by omega) (by omega))
      refine lv_aload_n hx hb dX11_oneHour_56 rfl (lv_at hl 1 rfl) ?_
      refine lv_iload_n hx hb dX11_oneHour_57 rfl (lv_at hl 0 rfl) ?_
      have hq3 : hk_tq Z t nw j := by rw [hI_m_o3]; exact htk j (by omega)
      refine hk_cV (L := (.inr (0, 0))) (As := [.int (nI j)]) (rest := []) hx hb hml hl.1 ht hown hK hH hS (c_m_takes l D G Z τ t j nw hM (by have := (hq3).1.2; omega) hq3.2.1 hq3.2.2.1 hq3.2.2.2) ymV_X11_takes kc_12 hM.k0 tw_884 ⟨rfl, rfl⟩ ⟨Nat.le_of_ble_eq_true rfl, Nat.le_of_ble_eq_true rfl⟩ rfl rfl (Nat.le_of_ble_eq_true rfl) dX11_oneHour_58 ⟨Nat.le_of_ble_eq_true rfl, Nat.le_of_ble_eq_true rfl⟩ (hk_ev (fun H locs hH hS => ?_))
      refine lv_iinc (v := nI (j + 1)) (lv' := [(1, .int (nI (j + 1))), (0, .ref (G.1 (.inr (0, 0))))]) hx hb dX11_oneHour_61 hl (k := 0) rfl (nI_1 _) (by decide) rfl (fun ls hl => ?_)
      refine lv_goto (tgt := 48) hx hb dX11_oneHour_64 (by decide) ?_
      have EB_12 : (B_m_o3 nw) j t = (T_m_takes t j nw) := by simp only [B_m_o3]
      have hI2 : ((T_m_takes t j nw) = hk_it (B_m_o3 nw) ((j + 1)) 0 (T_m_spoils Z (hk_it B_m_o2 (Z.1 2) 0 (hk_it B_m_o1 (Z.1 1) 0 σ)) nw w)) := by
        rw [hk_it_last, Nat.zero_add, ← hI_m_o3]; exact EB_12.symm
      exact ih (j + 1) (T_m_takes t j nw) _ _ _ QQ (by omega) hI2 hH hS (lv_sub hl [0, 1] rfl) (fun H locs ls hH hS hl hI_m_o3 => kk H locs ls (by rw [hk_it_s, EB_12]; exact hH) hS hl (by first | exact hI_m_o3 | (rw [hk_it_s, EB_12]; exact hI_m_o3)))
  refine LP_9 (Z.1 2) 0 (T_m_spoils Z (hk_it B_m_o2 (Z.1 2) 0 (hk_it B_m_o1 (Z.1 1) 0 σ)) nw w) _ _ _ _ (by omega) rfl hH hS (lv_sub hl [0, 1] rfl) (fun H locs ls hH hS hl hI_m_o3 => ?_)
  refine lv_aload_n hx hb dX11_oneHour_67 rfl (lv_at hl 1 rfl) ?_
  refine lv_dup hx hb dX11_oneHour_68 rfl ?_
  refine hk_geti (L := (.inr (0, 0))) (v := (hk_it (B_m_o3 nw) (Z.1 2) 0 (T_m_spoils Z (hk_it B_m_o2 (Z.1 2) 0 (hk_it B_m_o1 (Z.1 1) 0 σ)) nw w)) (0, 0) 0) hx hb ht hown hK hH kc_12 hM.k0 0 (by decide) rfl tw_692 rfl rfl dX11_oneHour_69 ?_
  refine lv_iconst (v := 1) hx hb dX11_oneHour_72 (by decide) ?_
  refine lv_iadd hx hb dX11_oneHour_73 ?_
  refine hk_puti (L := (.inr (0, 0))) hx hb ht hown hK hH hS kc_12 hM.k0 0 (by decide) rfl tw_692 rfl (Or.inl rfl) rfl dX11_oneHour_74 (fun H locs hH hS => ?_)
  rw [hk_up_r] at hH
  exact hk_vret hx hb hr hlocks hH hS ⟨rfl, rfl, (by simp only [T_m_oneHour])⟩ dX11_oneHour_77
/-- what an hour of the reference asks of the states that it goes through -/
def hk_mo (Z : hk_Z) (nw w : Nat) (P : Nat → Nat) (σ : hk_v) : Prop := (hk_mz Z σ) ∧ (∀ j, j ≤ Z.1 1 → hk_mz Z (hk_it B_m_o1 j 0 σ)) ∧ (∀ j, j < Z.1 1 → hk_pk Z (hk_it B_m_o1 j 0 σ) j) ∧ (∀ j, j ≤ Z.1 2 → hk_mz Z (hk_it B_m_o2 j 0 (hk_it B_m_o1 (Z.1 1) 0 σ))) ∧ (∀ j, j < Z.1 2 → hk_dr Z (hk_it B_m_o2 j 0 (hk_it B_m_o1 (Z.1 1) 0 σ)) (P j) j) ∧ (hk_mz Z (hk_it B_m_o2 (Z.1 2) 0 (hk_it B_m_o1 (Z.1 1) 0 σ)) ∧ (hk_it B_m_o2 (Z.1 2) 0 (hk_it B_m_o1 (Z.1 1) 0 σ)) (0, 0) 0 = nI nw ∧ nw ≤ 480 ∧ (hk_it B_m_o2 (Z.1 2) 0 (hk_it B_m_o1 (Z.1 1) 0 σ)) (0, 0) 1 = nI w ∧ w ≤ 24) ∧ (∀ j, j ≤ Z.1 2 → hk_mz Z (hk_it (B_m_o3 nw) j 0 (T_m_spoils Z (hk_it B_m_o2 (Z.1 2) 0 (hk_it B_m_o1 (Z.1 1) 0 σ)) nw w))) ∧ (∀ j, j < Z.1 2 → hk_tq Z (hk_it (B_m_o3 nw) j 0 (T_m_spoils Z (hk_it B_m_o2 (Z.1 2) 0 (hk_it B_m_o1 (Z.1 1) 0 σ)) nw w)) nw j)
theorem ymV_X11_oneHour : hk_mV yX11_oneHour cX11_oneHour 2 none RX11 0 := ⟨tw_859, tw_858, tw_20, tw_42, rfl, by decide, by decide, by decide +kernel⟩
def B_m_hours (nw : Nat) (w : Nat) (Z : hk_Z) (j : Nat) (t : hk_v) : hk_v := (T_m_oneHour Z t (nw + j) w)
def F_m_hours (Z : hk_Z) (σ : hk_v) (nw : Nat) (w : Nat) (n : Int32) : Int32 := (if (hk_in n 1 24) = 0 then (-1) else (if ((σ (0, 0) 0) + n) ≤ 480 then (hk_it (B_m_hours nw w Z) n.toNatClampNeg 0 σ) (0, 0) 0 else (-2)))
def T_m_hours (Z : hk_Z) (σ : hk_v) (nw : Nat) (w : Nat) (n : Int32) : hk_v := (if (hk_in n 1 24) = 0 then σ else (if ((σ (0, 0) 0) + n) ≤ 480 then (hk_it (B_m_hours nw w Z) n.toNatClampNeg 0 σ) else σ))
set_option maxHeartbeats 4000000 in
set_option maxRecDepth 100000 in
theorem c_m_hours (l : Launch) (D : hk_D) (G : hk_G) (Z : hk_Z) (τ σ : hk_v) (nw : Nat) (w : Nat) (n : Int32) (hM : hk_M G) (P : Nat → Nat → Nat) (hoh : ¬ hk_in n 1 24 = 0 → σ (0, 0) 0 + n ≤ 480 → ∀ j, j < n.toNatClampNeg → hk_mo Z (nw + j) w (P j) (hk_it (B_m_hours nw w Z) j 0 σ)) : Met l yX11_hours (hk_ws yX11_hours cX11_hours 3 (some FieldType.int)) ({ frames := 4, cells := 0, slots := 0, locals := 89 }) (hk_P D G (hk_cm τ σ) [.ref (G.1 (.inr (0, 0))), .int n]) (hk_Q D (hk_e G (some (.int (F_m_hours Z σ nw w n))) (hk_cm τ (T_m_hours Z σ nw w n)))) 0 0 (hk_A D) := by
  refine hk_met (by decide +kernel) (Nat.le_of_ble_eq_true rfl) (fun p e s m below meth c hx hb hr hml hlocks ht hown hin hK hH hS ls hl => ?_)
  have hl : lv_has ls 3 [(0, .ref (G.1 (.inr (0, 0)))), (1, .int n)] := hl
  refine lv_iload_n hx hb dX11_hours_0 rfl (lv_at hl 1 rfl) ?_
  refine lv_iconst (v := 1) hx hb dX11_hours_1 (by decide) ?_
  refine lv_bipush (v := 24) hx hb dX11_hours_2 (by decide) ?_
  refine hk_cS (As := [.int n, .int 1, .int 24]) (rest := []) hx hb hml hl.1 ht hown hK hH hS (c_isIn l D G τ σ n 1 24) ymS_X11_isIn tw_808 ⟨rfl, rfl⟩ ⟨Nat.le_of_ble_eq_true rfl, Nat.le_of_ble_eq_true rfl⟩ rfl rfl (Nat.le_of_ble_eq_true rfl) dX11_hours_4 ⟨Nat.le_of_ble_eq_true rfl, Nat.le_of_ble_eq_true rfl⟩ (hk_ea (fun H locs hH hS => ?_))
  refine lv_if_ne (tgt := 12) hx hb dX11_hours_7 (by decide) (fun c_1 => ?_) (fun c_1 => ?_)
  · refine lv_aload_n hx hb dX11_hours_12 rfl (lv_at hl 0 rfl) ?_
    refine hk_geti (L := (.inr (0, 0))) (v := σ (0, 0) 0) hx hb ht hown hK hH kc_12 hM.k0 0 (by decide) rfl tw_692 rfl rfl dX11_hours_13 ?_
    refine lv_iload_n hx hb dX11_hours_16 rfl (lv_at hl 1 rfl) ?_
    refine lv_iadd hx hb dX11_hours_17 ?_
    refine lv_sipush (v := 480) hx hb dX11_hours_18 (by decide) ?_
    refine lv_icmp_le (tgt := 27) hx hb dX11_hours_21 (by decide) (fun c_2 => ?_) (fun c_2 => ?_)
    · refine lv_iconst (v := 0) hx hb dX11_hours_27 (by decide) ?_
      refine lv_istore_n (lv' := [(2, .int 0), (0, .ref (G.1 (.inr (0, 0)))), (1, .int n)]) hx hb dX11_hours_28 rfl hl (by decide) rfl (fun ls hl => ?_)
      have LP_3 : ∀ (r j : Nat) (t : hk_v) (H : Heap) (locs : List Loc) (ls : Array Slot) (QQ : State → Prop), j + r = n.toNatClampNeg → (t = hk_it (B_m_hours nw w Z) (j) 0 σ) → hk_H D G (hk_cm τ t) H → va_S (hk_A D) s.heap H locs → lv_has ls 3 [(2, .int (nI j)), (0, .ref (G.1 (.inr (0, 0)))), (1, .int n)] → (∀ (H : Heap) (locs : List Loc) (ls : Array Slot), hk_H D G (hk_cm τ (hk_it (B_m_hours nw w Z) r j t)) H → va_S (hk_A D) s.heap H locs → lv_has ls 3 [(2, .int (nI n.toNatClampNeg)), (0, .ref (G.1 (.inr (0, 0)))), (1, .int n)] → ((hk_it (B_m_hours nw w Z) r j t) = hk_it (B_m_hours nw w Z) (n.toNatClampNeg) 0 σ) → W p l e ({ frames := 4, cells := 0, slots := 0, locals := 89 }) s m ([.ref (G.1 (.inr (0, 0))), .int n] : List Value).toArray below meth c H locs 0 0 QQ (F0 m 44 ls [])) → W p l e ({ frames := 4, cells := 0, slots := 0, locals := 89 }) s m ([.ref (G.1 (.inr (0, 0))), .int n] : List Value).toArray below meth c H locs 0 0 QQ (F0 m 29 ls []) := by
        intro r
        induction r with
        | zero =>
          intro j t H locs ls QQ hn_m_hours hI_m_hours hH hS hl kk
          have hn24 := (hk_hn c_1).2.2
          refine lv_iload_n hx hb dX11_hours_29 rfl (lv_at hl 0 rfl) ?_
          refine lv_iload_n hx hb dX11_hours_30 rfl (lv_at hl 2 rfl) ?_
          refine lv_icmp_ge (tgt := 44) hx hb dX11_hours_31 (by decide) (fun c_4 => ?_) (fun c_4 => ?_)
          rotate_left
          · exfalso; rw [(hk_hn c_1).1] at c_4; first | exact nI_ge (by omega) (by omega) c_4 | exact c_4 (nI_le (by omega) (by omega)) | exact nI_nlt (by omega) (by omega) c_4 | exact c_4 (nI_lt (by omega) (by omega))
          have hiN : j = n.toNatClampNeg := by omega
          rw [hiN] at hl hI_m_hours
          exact kk H locs ls hH hS (lv_sub hl [0, 1, 2] rfl) hI_m_hours
        | succ r ih =>
          intro j t H locs ls QQ hn_m_hours hI_m_hours hH hS hl kk
          have hn24 := (hk_hn c_1).2.2
          refine lv_iload_n hx hb dX11_hours_29 rfl (lv_at hl 0 rfl) ?_
          refine lv_iload_n hx hb dX11_hours_30 rfl (lv_at hl 2 rfl) ?_
          refine lv_icmp_ge (tgt := 44) hx hb dX11_hours_31 (by decide) (fun c_5 => ?_) (fun c_5 => ?_)
          · exfalso; rw [(hk_hn c_1).1] at c_5; first | exact nI_ge (by omega) (by omega) c_5 | exact c_5 (nI_le (by omega) (by omega)) | exact nI_nlt (by omega) (by omega) c_5 | exact c_5 (nI_lt (by omega) (by omega))
          refine lv_aload_n hx hb dX11_hours_34 rfl (lv_at hl 1 rfl) ?_
          have hq : hk_mo Z (nw + j) w (P j) t := by rw [hI_m_hours]; exact hoh c_1 c_2 j (by omega)
          refine hk_cV (L := (.inr (0, 0))) (As := []) (rest := []) hx hb hml hl.1 ht hown hK hH hS (c_m_oneHour l D G Z τ t (nw + j) w hM hq.1 (P j) hq.2.1 hq.2.2.1 hq.2.2.2.1 hq.2.2.2.2.1 hq.2.2.2.2.2.1 hq.2.2.2.2.2.2.1 hq.2.2.2.2.2.2.2) ymV_X11_oneHour kc_12 hM.k0 tw_856 ⟨rfl, rfl⟩ ⟨Nat.le_of_ble_eq_true rfl, Nat.le_of_ble_eq_true rfl⟩ rfl rfl (Nat.le_of_ble_eq_true rfl) dX11_hours_35 ⟨Nat.le_of_ble_eq_true rfl, Nat.le_of_ble_eq_true rfl⟩ (hk_ev (fun H locs hH hS => ?_))
          refine lv_iinc (v := nI (j + 1)) (lv' := [(2, .int (nI (j + 1))), (0, .ref (G.1 (.inr (0, 0)))), (1, .int n)]) hx hb dX11_hours_38 hl (k := 0) rfl (nI_1 _) (by decide) rfl (fun ls hl => ?_)
          refine lv_goto (tgt := 29) hx hb dX11_hours_41 (by decide) ?_
          have EB_6 : (B_m_hours nw w Z) j t = (T_m_oneHour Z t (nw + j) w) := by simp only [B_m_hours]
          have hI2 : ((T_m_oneHour Z t (nw + j) w) = hk_it (B_m_hours nw w Z) ((j + 1)) 0 σ) := by
            rw [hk_it_last, Nat.zero_add, ← hI_m_hours]; exact EB_6.symm
          exact ih (j + 1) (T_m_oneHour Z t (nw + j) w) _ _ _ QQ (by omega) hI2 hH hS (lv_sub hl [0, 1, 2] rfl) (fun H locs ls hH hS hl hI_m_hours => kk H locs ls (by rw [hk_it_s, EB_6]; exact hH) hS hl (by first | exact hI_m_hours | (rw [hk_it_s, EB_6]; exact hI_m_hours)))
      refine LP_3 n.toNatClampNeg 0 σ _ _ _ _ (by omega) rfl hH hS (lv_sub hl [0, 1, 2] rfl) (fun H locs ls hH hS hl hI_m_hours => ?_)
      refine lv_aload_n hx hb dX11_hours_44 rfl (lv_at hl 1 rfl) ?_
      refine hk_geti (L := (.inr (0, 0))) (v := (hk_it (B_m_hours nw w Z) n.toNatClampNeg 0 σ) (0, 0) 0) hx hb ht hown hK hH kc_12 hM.k0 0 (by decide) rfl tw_692 rfl rfl dX11_hours_45 ?_
      exact hk_iret hx hb hr hlocks hH hS ⟨(by simp only [F_m_hours, if_neg c_1, if_pos c_2]), rfl, (by simp only [T_m_hours, if_neg c_1, if_pos c_2])⟩ dX11_hours_48
    · refine lv_bipush (v := -2) hx hb dX11_hours_24 (by decide) ?_
      exact hk_iret hx hb hr hlocks hH hS ⟨(by simp only [F_m_hours, if_neg c_1, if_neg c_2]), rfl, (by simp only [T_m_hours, if_neg c_1, if_neg c_2])⟩ dX11_hours_26
  · refine lv_iconst (v := -1) hx hb dX11_hours_10 (by decide) ?_
    exact hk_iret hx hb hr hlocks hH hS ⟨(by simp only [F_m_hours, if_pos c_1]), rfl, (by simp only [T_m_hours, if_pos c_1])⟩ dX11_hours_11
