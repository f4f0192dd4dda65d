theorem gh_in {nw j : Nat} {x : Int32} (hnw : nw ≤ 480) (hx : ¬ hk_in x 0 23 = 0) (h0 : ¬ ((nI nw - 1) - x) < 0) (hj : j < 6) : vp_in ((6 * ((nI nw - 1) - x)) + nI j) 2886 := by
  obtain ⟨h1, h2⟩ := hk_in_ix (n := 23) rfl (by decide) hx
  rw [h2] at h0 ⊢
  generalize x.toNatClampNeg = k at h1 h0 ⊢
  have e : (nI nw - 1) - nI k = nI (nw - 1 - k) := by
    apply hk_eqI
    have e1 : (nI nw - 1 : Int32).toInt = (nw : Int) - 1 := pk_sub_toInt (b := 1) (by omega) (by omega)
    have e2 : ((nI nw - 1) - nI k).toInt = (nw : Int) - 1 - k := by
      rw [hk_subI (by rw [e1, nI_toInt (by omega)]; omega) (by rw [e1, nI_toInt (by omega)]; omega), e1, nI_toInt (by omega)]
    rw [e2]
    have : ¬ ((nw : Int) - 1 - k < 0) := by
      intro q
      apply h0
      rw [Int32.lt_iff_toInt_lt, e2]
      exact q
    omega
  rw [e, show (6 : Int32) * nI (nw - 1 - k) = nI (6 * (nw - 1 - k)) from pk_mul 6 _, nI_add]
  exact vp_in_nI (by omega) (by omega)
def B_m_green (nw : Nat) (h : Int32) (σ : hk_v) (j : Nat) (sum : Int32) : Int32 := sum + (σ (1, 16) (((6 * (((nI nw) - 1) - h)) + (nI j)).toNatClampNeg))
def F_m_green (σ : hk_v) (nw : Nat) (h : Int32) : Int32 := (if (hk_in h 0 23) = 0 then (-1) else (if (((nI nw) - 1) - h) < 0 then 0 else (hk_it (B_m_green nw h σ) 6 0 0)))
set_option maxHeartbeats 4000000 in
set_option maxRecDepth 100000 in
theorem c_m_green (l : Launch) (D : hk_D) (G : hk_G) (Z : hk_Z) (τ σ : hk_v) (nw : Nat) (h : Int32) (hM : hk_M G) (hnow : σ (0, 0) 0 = nI nw) (hnw : nw ≤ 480) : Met l yX11_green (hk_ws yX11_green cX11_green 5 (some FieldType.int)) ({ frames := 1, cells := 0, slots := 0, locals := 22 }) (hk_P D G (hk_cm τ σ) [.ref (G.1 (.inr (0, 0))), .int h]) (hk_Q D (hk_e G (some (.int (F_m_green σ nw h))) (hk_cm τ σ))) 0 0 (hk_A D) := by
  refine hk_met (by decide +kernel) (Nat.le_of_ble_eq_true rfl) (fun p e s m below meth c hx hb hr hml hlocks ht hown hin hK hH hS ls hl => ?_)
  have hl : lv_has ls 5 [(0, .ref (G.1 (.inr (0, 0)))), (1, .int h)] := hl
  refine lv_iload_n hx hb dX11_green_0 rfl (lv_at hl 1 rfl) ?_
  refine lv_iconst (v := 0) hx hb dX11_green_1 (by decide) ?_
  refine lv_bipush (v := 23) hx hb dX11_green_2 (by decide) ?_
  refine hk_cS (As := [.int h, .int 0, .int 23]) (rest := []) hx hb hml hl.1 ht hown hK hH hS (c_isIn l D G τ σ h 0 23) ymS_X11_isIn tw_808 ⟨rfl, rfl⟩ ⟨Nat.le_of_ble_eq_true rfl, Nat.le_of_ble_eq_true rfl⟩ rfl rfl (Nat.le_of_ble_eq_true rfl) dX11_green_4 ⟨Nat.le_of_ble_eq_true rfl, Nat.le_of_ble_eq_true rfl⟩ (hk_ea (fun H locs hH hS => ?_))
  refine lv_if_ne (tgt := 12) hx hb dX11_green_7 (by decide) (fun c_1 => ?_) (fun c_1 => ?_)
  · refine lv_aload_n hx hb dX11_green_12 rfl (lv_at hl 0 rfl) ?_
    refine hk_geti (L := (.inr (0, 0))) (v := nI nw) hx hb ht hown hK hH kc_12 hM.k0 0 (by decide) rfl tw_692 rfl (by exact hnow) dX11_green_13 ?_
    refine lv_iconst (v := 1) hx hb dX11_green_16 (by decide) ?_
    refine lv_isub hx hb dX11_green_17 ?_
    refine lv_iload_n hx hb dX11_green_18 rfl (lv_at hl 1 rfl) ?_
    refine lv_isub hx hb dX11_green_19 ?_
    refine lv_istore_n (lv' := [(2, .int (((nI nw) - 1) - h)), (0, .ref (G.1 (.inr (0, 0)))), (1, .int h)]) hx hb dX11_green_20 rfl hl (by decide) rfl (fun ls hl => ?_)
    refine lv_iconst (v := 0) hx hb dX11_green_21 (by decide) ?_
    refine lv_istore_n (lv' := [(3, .int 0), (2, .int (((nI nw) - 1) - h)), (0, .ref (G.1 (.inr (0, 0)))), (1, .int h)]) hx hb dX11_green_22 rfl hl (by decide) rfl (fun ls hl => ?_)
    by_cases hneg : (((nI nw) - 1) - h) < 0
    · refine lv_iconst (v := 0) hx hb dX11_green_23 (by decide) ?_
      refine lv_istore (lv' := [(4, .int 0), (3, .int 0), (2, .int (((nI nw) - 1) - h)), (0, .ref (G.1 (.inr (0, 0)))), (1, .int h)]) hx hb dX11_green_24 hl (by decide) rfl (fun ls hl => ?_)
      refine lv_iload hx hb dX11_green_26 (lv_at hl 0 rfl) ?_
      refine lv_bipush (v := 6) hx hb dX11_green_28 (by decide) ?_
      refine lv_icmp_ge (tgt := 58) hx hb dX11_green_30 (by decide) (fun c_2 => ?_) (fun c_2 => ?_)
      · exfalso; exact absurd c_2 (by decide)
      refine lv_iload_n hx hb dX11_green_33 rfl (lv_at hl 2 rfl) ?_
      refine lv_if_lt (tgt := 58) hx hb dX11_green_34 (by decide) (fun c_3 => ?_) (fun c_3 => ?_)
      rotate_left
      · exfalso; exact c_3 hneg
      refine lv_iload_n hx hb dX11_green_58 rfl (lv_at hl 1 rfl) ?_
      exact hk_iret hx hb hr hlocks hH hS ⟨(by simp only [F_m_green, if_neg c_1, if_pos hneg]), rfl, rfl⟩ dX11_green_59
    · refine lv_iconst (v := 0) hx hb dX11_green_23 (by decide) ?_
      refine lv_istore (lv' := [(4, .int 0), (3, .int 0), (2, .int (((nI nw) - 1) - h)), (0, .ref (G.1 (.inr (0, 0)))), (1, .int h)]) hx hb dX11_green_24 hl (by decide) rfl (fun ls hl => ?_)
      have LP_4 : ∀ (r j : Nat) (sum : Int32) (H : Heap) (locs : List Loc) (ls : Array Slot) (QQ : State → Prop), j + r = 6 → hk_H D G (hk_cm τ σ) H → va_S (hk_A D) s.heap H locs → lv_has ls 5 [(4, .int (nI j)), (3, .int sum), (2, .int (((nI nw) - 1) - h)), (0, .ref (G.1 (.inr (0, 0)))), (1, .int h)] → (∀ (H : Heap) (locs : List Loc) (ls : Array Slot), hk_H D G (hk_cm τ σ) H → va_S (hk_A D) s.heap H locs → lv_has ls 5 [(4, .int (nI 6)), (3, .int (hk_it (B_m_green nw h σ) r j sum)), (2, .int (((nI nw) - 1) - h)), (0, .ref (G.1 (.inr (0, 0)))), (1, .int h)] → W p l e ({ frames := 1, cells := 0, slots := 0, locals := 22 }) s m ([.ref (G.1 (.inr (0, 0))), .int h] : List Value).toArray below meth c H locs 0 0 QQ (F0 m 58 ls [])) → W p l e ({ frames := 1, cells := 0, slots := 0, locals := 22 }) s m ([.ref (G.1 (.inr (0, 0))), .int h] : List Value).toArray below meth c H locs 0 0 QQ (F0 m 26 ls []) := by
        intro r
        induction r with
        | zero =>
          intro j sum H locs ls QQ hn_m_green hH hS hl kk
          refine lv_iload hx hb dX11_green_26 (lv_at hl 0 rfl) ?_
          refine lv_bipush (v := 6) hx hb dX11_green_28 (by decide) ?_
          refine lv_icmp_ge (tgt := 58) hx hb dX11_green_30 (by decide) (fun c_5 => ?_) (fun c_5 => ?_)
          rotate_left
          · exfalso; rw [show (6 : Int32) = nI 6 from rfl] at c_5; first | exact nI_ge (by omega) (by omega) c_5 | exact c_5 (nI_le (by omega) (by omega)) | exact nI_nlt (by omega) (by omega) c_5 | exact c_5 (nI_lt (by omega) (by omega))
          have hiN : j = 6 := by omega
          rw [hiN] at hl
          exact kk H locs ls hH hS (lv_sub hl [0, 1, 2, 3, 4] rfl)
        | succ r ih =>
          intro j sum H locs ls QQ hn_m_green hH hS hl kk
          refine lv_iload hx hb dX11_green_26 (lv_at hl 0 rfl) ?_
          refine lv_bipush (v := 6) hx hb dX11_green_28 (by decide) ?_
          refine lv_icmp_ge (tgt := 58) hx hb dX11_green_30 (by decide) (fun c_6 => ?_) (fun c_6 => ?_)
          · exfalso; rw [show (6 : Int32) = nI 6 from rfl] at c_6; first | exact nI_ge (by omega) (by omega) c_6 | exact c_6 (nI_le (by omega) (by omega)) | exact nI_nlt (by omega) (by omega) c_6 | exact c_6 (nI_lt (by omega) (by omega))
          refine lv_iload_n hx hb dX11_green_33 rfl (lv_at hl 2 rfl) ?_
          refine lv_if_lt (tgt := 58) hx hb dX11_green_34 (by decide) (fun c_7 => ?_) (fun c_7 => ?_)
          · exfalso; exact hneg c_7
          refine lv_iload_n hx hb dX11_green_37 rfl (lv_at hl 1 rfl) ?_
          refine lv_aload_n hx hb dX11_green_38 rfl (lv_at hl 3 rfl) ?_
          refine hk_getr (L := (.inr (0, 0))) (v := .ref (G.1 (.inr (1, 16)))) hx hb ht hown hK hH kc_12 hM.k0 16 (by decide) rfl tw_708 rfl hM.r16 dX11_green_39 ?_
          refine lv_bipush (v := 6) hx hb dX11_green_42 (by decide) ?_
          refine lv_iload_n hx hb dX11_green_44 rfl (lv_at hl 2 rfl) ?_
          refine lv_imul hx hb dX11_green_45 ?_
          refine lv_iload hx hb dX11_green_46 (lv_at hl 0 rfl) ?_
          refine lv_iadd hx hb dX11_green_48 ?_
          refine hk_ild (L := (.inr (1, 16))) (v := σ (1, 16) (((6 * (((nI nw) - 1) - h)) + (nI j)).toNatClampNeg)) hx hb hK hH hM.k16 (gh_in hnw c_1 hneg (by omega)) rfl dX11_green_49 ?_
          refine lv_iadd hx hb dX11_green_50 ?_
          refine lv_istore_n (lv' := [(3, .int (sum + (σ (1, 16) (((6 * (((nI nw) - 1) - h)) + (nI j)).toNatClampNeg)))), (4, .int (nI j)), (2, .int (((nI nw) - 1) - h)), (0, .ref (G.1 (.inr (0, 0)))), (1, .int h)]) hx hb dX11_green_51 rfl hl (by decide) rfl (fun ls hl => ?_)
          refine lv_iinc (v := nI (j + 1)) (lv' := [(4, .int (nI (j + 1))), (3, .int (sum + (σ (1, 16) (((6 * (((nI nw) - 1) - h)) + (nI j)).toNatClampNeg)))), (2, .int (((nI nw) - 1) - h)), (0, .ref (G.1 (.inr (0, 0)))), (1, .int h)]) hx hb dX11_green_52 hl (k := 1) rfl (nI_1 _) (by decide) rfl (fun ls hl => ?_)
          refine lv_goto (tgt := 26) hx hb dX11_green_55 (by decide) ?_
          have EB_8 : (B_m_green nw h σ) j sum = sum + (σ (1, 16) (((6 * (((nI nw) - 1) - h)) + (nI j)).toNatClampNeg)) := by simp only [B_m_green]
          exact ih (j + 1) (sum + (σ (1, 16) (((6 * (((nI nw) - 1) - h)) + (nI j)).toNatClampNeg))) _ _ _ QQ (by omega) hH hS (lv_sub hl [0, 1, 2, 3, 4] rfl) (fun H locs ls hH hS hl => kk H locs ls hH hS (by rw [hk_it_s, EB_8]; exact hl))
      refine LP_4 6 0 0 _ _ _ _ (by omega) hH hS (lv_sub hl [0, 1, 2, 3, 4] rfl) (fun H locs ls hH hS hl => ?_)
      refine lv_iload_n hx hb dX11_green_58 rfl (lv_at hl 1 rfl) ?_
      exact hk_iret hx hb hr hlocks hH hS ⟨(by simp only [F_m_green, if_neg c_1, if_neg hneg]), rfl, rfl⟩ dX11_green_59
  · refine lv_iconst (v := -1) hx hb dX11_green_10 (by decide) ?_
    exact hk_iret hx hb hr hlocks hH hS ⟨(by simp only [F_m_green, if_pos c_1]), rfl, rfl⟩ dX11_green_11
def F_m_led (σ : hk_v)  : Int32 := (if 100 ≤ (σ (0, 0) 24) then 100 else σ (0, 0) 24)
set_option maxHeartbeats 4000000 in
set_option maxRecDepth 100000 in
theorem c_m_led (l : Launch) (D : hk_D) (G : hk_G) (Z : hk_Z) (τ σ : hk_v)  (hM : hk_M G)  : Met l yX11_ledPockets (hk_ws yX11_ledPockets cX11_ledPockets 1 (some FieldType.int)) ({ frames := 0, cells := 0, slots := 0, locals := 0 }) (hk_P D G (hk_cm τ σ) [.ref (G.1 (.inr (0, 0)))]) (hk_Q D (hk_e G (some (.int (F_m_led σ))) (hk_cm τ σ))) 0 0 (hk_A D) := by
  refine hk_met (by decide +kernel) (Nat.le_of_ble_eq_true rfl) (fun p e s m below meth c hx hb hr hml hlocks ht hown hin hK hH hS ls hl => ?_)
  have hl : lv_has ls 1 [(0, .ref (G.1 (.inr (0, 0))))] := hl
  refine lv_aload_n hx hb dX11_ledPockets_0 rfl (lv_at hl 0 rfl) ?_
  refine hk_geti (L := (.inr (0, 0))) (v := σ (0, 0) 24) hx hb ht hown hK hH kc_12 hM.k0 24 (by decide) rfl tw_716 rfl rfl dX11_ledPockets_1 ?_
  refine lv_bipush (v := 100) hx hb dX11_ledPockets_4 (by decide) ?_
  refine lv_icmp_ge (tgt := 16) hx hb dX11_ledPockets_6 (by decide) (fun c_1 => ?_) (fun c_1 => ?_)
  · refine lv_bipush (v := 100) hx hb dX11_ledPockets_16 (by decide) ?_
    exact hk_iret hx hb hr hlocks hH hS ⟨(by simp only [F_m_led, if_pos c_1]), rfl, rfl⟩ dX11_ledPockets_18
  · refine lv_aload_n hx hb dX11_ledPockets_9 rfl (lv_at hl 0 rfl) ?_
    refine hk_geti (L := (.inr (0, 0))) (v := σ (0, 0) 24) hx hb ht hown hK hH kc_12 hM.k0 24 (by decide) rfl tw_716 rfl rfl dX11_ledPockets_10 ?_
    refine lv_goto (tgt := 18) hx hb dX11_ledPockets_13 (by decide) ?_
    exact hk_iret hx hb hr hlocks hH hS ⟨(by simp only [F_m_led, if_neg c_1]), rfl, rfl⟩ dX11_ledPockets_18
def hk_mp (σ : hk_v) : Prop := σ (0, 0) 24 = nI (σ (0, 0) 24).toNatClampNeg ∧ (σ (0, 0) 24).toNatClampNeg < 2 ^ 30
theorem mled_n {σ : hk_v} (h : hk_mp σ) : ∃ n, n ≤ 100 ∧ F_m_led σ = nI n := by
  unfold F_m_led
  rw [h.1]
  split
  · exact ⟨100, by omega, rfl⟩
  · rename_i q
    refine ⟨_, ?_, rfl⟩
    rcases Nat.lt_or_ge 100 (σ (0, 0) 24).toNatClampNeg with q2 | q2
    · exact absurd (show nI 100 ≤ _ from nI_le (by omega) (by have := h.2; omega)) q
    · exact q2
theorem mled_c {σ : hk_v} (h : hk_mp σ) : F_m_led σ = nI (F_m_led σ).toNatClampNeg ∧ (F_m_led σ).toNatClampNeg ≤ 100 := by
  obtain ⟨n, hn, e⟩ := mled_n h
  rw [e, nI_clamp (by omega)]
  exact ⟨rfl, hn⟩
theorem mpk_in {σ : hk_v} {x : Int32} (h : hk_mp σ) (hc : ¬ hk_in x 0 (F_m_led σ - 1) = 0) : vp_in x 100 := by
  obtain ⟨n, hn, e⟩ := mled_n h
  obtain ⟨h1, h2⟩ := hk_in_ne hc
  obtain ⟨j, hj, rfl⟩ := nI_of h1
  rw [e] at h2
  rcases Nat.eq_zero_or_pos n with q | q
  · subst q
    exfalso
    apply h2
    rw [Int32.lt_iff_toInt_lt, nI_toInt hj, show (nI 0 - 1 : Int32).toInt = -1 from by decide]
    omega
  · rw [show (1 : Int32) = nI 1 from rfl, pk_sub q] at h2
    rcases Nat.lt_or_ge j 100 with q2 | q2
    · exact vp_in_nI q2 (by omega)
    · exact absurd (nI_lt (by omega) hj) h2
theorem ymV_X11_ledPockets : hk_mV yX11_ledPockets cX11_ledPockets 1 (some FieldType.int) RX11 0 := ⟨tw_919, tw_918, tw_30, tw_42, rfl, by decide, by decide, by decide +kernel⟩
theorem ymV_X11_dutyOn : hk_mV yX11_dutyOn cX11_dutyOn 4 (some FieldType.int) RX11 1 := ⟨tw_923, tw_922, tw_31, tw_42, rfl, by decide, by decide, by decide +kernel⟩
def F_m_pocket (σ : hk_v) (x : Int32) (w : Int32) : Int32 := (if (hk_in x 0 ((F_m_led σ) - 1)) = 0 then (-1) else (if w = 0 then σ (1, 25) x.toNatClampNeg else (if w = 1 then σ (1, 26) x.toNatClampNeg else (if w = 2 then F_m_dutyOn σ (σ (1, 26) x.toNatClampNeg) else (-1)))))
set_option maxHeartbeats 4000000 in
set_option maxRecDepth 100000 in
theorem c_m_pocket (l : Launch) (D : hk_D) (G : hk_G) (Z : hk_Z) (τ σ : hk_v) (x : Int32) (w : Int32) (hM : hk_M G) (hmp : hk_mp σ) (hmd : hk_mn σ 32) : Met l yX11_pocket (hk_ws yX11_pocket cX11_pocket 3 (some FieldType.int)) ({ frames := 1, cells := 0, slots := 0, locals := 23 }) (hk_P D G (hk_cm τ σ) [.ref (G.1 (.inr (0, 0))), .int x, .int w]) (hk_Q D (hk_e G (some (.int (F_m_pocket σ x w))) (hk_cm τ σ))) 0 0 (hk_A D) := by
  refine hk_met (by decide +kernel) (Nat.le_of_ble_eq_true rfl) (fun p e s m below meth c hx hb hr hml hlocks ht hown hin hK hH hS ls hl => ?_)
  have hl : lv_has ls 3 [(0, .ref (G.1 (.inr (0, 0)))), (1, .int x), (2, .int w)] := hl
  refine lv_iload_n hx hb dX11_pocket_0 rfl (lv_at hl 1 rfl) ?_
  refine lv_iconst (v := 0) hx hb dX11_pocket_1 (by decide) ?_
  refine lv_aload_n hx hb dX11_pocket_2 rfl (lv_at hl 0 rfl) ?_
  refine hk_cV (L := (.inr (0, 0))) (As := []) (rest := [.int 0, .int x]) hx hb hml hl.1 ht hown hK hH hS (c_m_led l D G Z τ σ hM) ymV_X11_ledPockets kc_12 hM.k0 tw_916 ⟨rfl, rfl⟩ ⟨Nat.le_of_ble_eq_true rfl, Nat.le_of_ble_eq_true rfl⟩ rfl rfl (Nat.le_of_ble_eq_true rfl) dX11_pocket_3 ⟨Nat.le_of_ble_eq_true rfl, Nat.le_of_ble_eq_true rfl⟩ (hk_ea (fun H locs hH hS => ?_))
  refine lv_iconst (v := 1) hx hb dX11_pocket_6 (by decide) ?_
  refine lv_isub hx hb dX11_pocket_7 ?_
  refine hk_cS (As := [.int x, .int 0, .int ((F_m_led σ) - 1)]) (rest := []) hx hb hml hl.1 ht hown hK hH hS (c_isIn l D G τ σ x 0 ((F_m_led σ) - 1)) ymS_X11_isIn tw_808 ⟨rfl, rfl⟩ ⟨Nat.le_of_ble_eq_true rfl, Nat.le_of_ble_eq_true rfl⟩ rfl rfl (Nat.le_of_ble_eq_true rfl) dX11_pocket_8 ⟨Nat.le_of_ble_eq_true rfl, Nat.le_of_ble_eq_true rfl⟩ (hk_ea (fun H locs hH hS => ?_))
  refine lv_if_ne (tgt := 16) hx hb dX11_pocket_11 (by decide) (fun c_1 => ?_) (fun c_1 => ?_)
  · refine lv_iload_n hx hb dX11_pocket_16 rfl (lv_at hl 2 rfl) ?_
    rcases hk_sw2 w with (rfl | rfl | rfl) | hsw
    · refine lv_tableIn (x := 0) (tgt := 44) hx hb dX11_pocket_17 (by decide) (by decide) rfl (by decide) ?_
      refine lv_aload_n hx hb dX11_pocket_44 rfl (lv_at hl 0 rfl) ?_
      refine hk_getr (L := (.inr (0, 0))) (v := .ref (G.1 (.inr (1, 25)))) hx hb ht hown hK hH kc_12 hM.k0 25 (by decide) rfl tw_717 rfl hM.r25 dX11_pocket_45 ?_
      refine lv_iload_n hx hb dX11_pocket_48 rfl (lv_at hl 1 rfl) ?_
      refine hk_ild (L := (.inr (1, 25))) (v := σ (1, 25) x.toNatClampNeg) hx hb hK hH hM.k25 (mpk_in hmp c_1) rfl dX11_pocket_49 ?_
      exact hk_iret hx hb hr hlocks hH hS ⟨(by simp [F_m_pocket, if_neg c_1]), rfl, rfl⟩ dX11_pocket_50
    · refine lv_tableIn (x := 1) (tgt := 51) hx hb dX11_pocket_17 (by decide) (by decide) rfl (by decide) ?_
      refine lv_aload_n hx hb dX11_pocket_51 rfl (lv_at hl 0 rfl) ?_
      refine hk_getr (L := (.inr (0, 0))) (v := .ref (G.1 (.inr (1, 26)))) hx hb ht hown hK hH kc_12 hM.k0 26 (by decide) rfl tw_718 rfl hM.r26 dX11_pocket_52 ?_
      refine lv_iload_n hx hb dX11_pocket_55 rfl (lv_at hl 1 rfl) ?_
      refine hk_ild (L := (.inr (1, 26))) (v := σ (1, 26) x.toNatClampNeg) hx hb hK hH hM.k26 (mpk_in hmp c_1) rfl dX11_pocket_56 ?_
      exact hk_iret hx hb hr hlocks hH hS ⟨(by simp [F_m_pocket, if_neg c_1]), rfl, rfl⟩ dX11_pocket_57
    · refine lv_tableIn (x := 2) (tgt := 58) hx hb dX11_pocket_17 (by decide) (by decide) rfl (by decide) ?_
      refine lv_aload_n hx hb dX11_pocket_58 rfl (lv_at hl 0 rfl) ?_
      refine lv_aload_n hx hb dX11_pocket_59 rfl (lv_at hl 0 rfl) ?_
      refine hk_getr (L := (.inr (0, 0))) (v := .ref (G.1 (.inr (1, 26)))) hx hb ht hown hK hH kc_12 hM.k0 26 (by decide) rfl tw_718 rfl hM.r26 dX11_pocket_60 ?_
      refine lv_iload_n hx hb dX11_pocket_63 rfl (lv_at hl 1 rfl) ?_
      refine hk_ild (L := (.inr (1, 26))) (v := σ (1, 26) x.toNatClampNeg) hx hb hK hH hM.k26 (mpk_in hmp c_1) rfl dX11_pocket_64 ?_
      refine hk_cV (L := (.inr (0, 0))) (As := [.int (σ (1, 26) x.toNatClampNeg)]) (rest := []) hx hb hml hl.1 ht hown hK hH hS (c_m_dutyOn l D G Z τ σ (σ (1, 26) x.toNatClampNeg) hM hmd) ymV_X11_dutyOn kc_12 hM.k0 tw_920 ⟨rfl, rfl⟩ ⟨Nat.le_of_ble_eq_true rfl, Nat.le_of_ble_eq_true rfl⟩ rfl rfl (Nat.le_of_ble_eq_true rfl) dX11_pocket_65 ⟨Nat.le_of_ble_eq_true rfl, Nat.le_of_ble_eq_true rfl⟩ (hk_ea (fun H locs hH hS => ?_))
      exact hk_iret hx hb hr hlocks hH hS ⟨(by simp [F_m_pocket, if_neg c_1]), rfl, rfl⟩ dX11_pocket_68
    · refine lv_tableOut (tgt := 69) hx hb dX11_pocket_17 hsw.1 (by decide) ?_
      refine lv_iconst (v := -1) hx hb dX11_pocket_69 (by decide) ?_
      exact hk_iret hx hb hr hlocks hH hS ⟨(by simp [F_m_pocket, if_neg c_1, hsw]), rfl, rfl⟩ dX11_pocket_70
  · refine lv_iconst (v := -1) hx hb dX11_pocket_14 (by decide) ?_
    exact hk_iret hx hb hr hlocks hH hS ⟨(by simp only [F_m_pocket, if_pos c_1]), rfl, rfl⟩ dX11_pocket_15
def F_m_price (σ : hk_v) (h : Int32) (v : Int32) : Int32 := (if (hk_in h (σ (0, 0) 0) 480) = 0 then (-1) else (if (hk_in v 1 50) = 0 then (-1) else (if (σ (0, 0) 29) = 20 then (-3) else 1)))
def T_m_price (σ : hk_v) (h : Int32) (v : Int32) : hk_v := (if (hk_in h (σ (0, 0) 0) 480) = 0 then σ else (if (hk_in v 1 50) = 0 then σ else (if (σ (0, 0) 29) = 20 then σ else (hk_u (hk_u (hk_u σ (1, 30) ((σ (0, 0) 29).toNatClampNeg) h) (1, 31) ((σ (0, 0) 29).toNatClampNeg) v) (0, 0) 29 ((σ (0, 0) 29) + 1)))))
set_option maxHeartbeats 4000000 in
set_option maxRecDepth 100000 in
theorem c_m_price (l : Launch) (D : hk_D) (G : hk_G) (Z : hk_Z) (τ σ : hk_v) (h : Int32) (v : Int32) (hM : hk_M G) (hmn : hk_mn σ 29) : Met l yX11_price (hk_ws yX11_price cX11_price 3 (some FieldType.int)) ({ frames := 1, cells := 0, slots := 0, locals := 22 }) (hk_P D G (hk_cm τ σ) [.ref (G.1 (.inr (0, 0))), .int h, .int v]) (hk_Q D (hk_e G (some (.int (F_m_price σ h v))) (hk_cm τ (T_m_price σ h v)))) 0 0 (hk_A D) := by
  refine hk_met (by decide +kernel) (Nat.le_of_ble_eq_true rfl) (fun p e s m below meth c hx hb hr hml hlocks ht hown hin hK hH hS ls hl => ?_)
  have hl : lv_has ls 3 [(0, .ref (G.1 (.inr (0, 0)))), (1, .int h), (2, .int v)] := hl
  refine lv_iload_n hx hb dX11_price_0 rfl (lv_at hl 1 rfl) ?_
  refine lv_aload_n hx hb dX11_price_1 rfl (lv_at hl 0 rfl) ?_
  refine hk_geti (L := (.inr (0, 0))) (v := σ (0, 0) 0) hx hb ht hown hK hH kc_12 hM.k0 0 (by decide) rfl tw_692 rfl rfl dX11_price_2 ?_
  refine lv_sipush (v := 480) hx hb dX11_price_5 (by decide) ?_
  refine hk_cS (As := [.int h, .int (σ (0, 0) 0), .int 480]) (rest := []) hx hb hml hl.1 ht hown hK hH hS (c_isIn l D G τ σ h (σ (0, 0) 0) 480) ymS_X11_isIn tw_808 ⟨rfl, rfl⟩ ⟨Nat.le_of_ble_eq_true rfl, Nat.le_of_ble_eq_true rfl⟩ rfl rfl (Nat.le_of_ble_eq_true rfl) dX11_price_8 ⟨Nat.le_of_ble_eq_true rfl, Nat.le_of_ble_eq_true rfl⟩ (hk_ea (fun H locs hH hS => ?_))
  refine lv_if_eq (tgt := 24) hx hb dX11_price_11 (by decide) (fun c_1 => ?_) (fun c_1 => ?_)
  · refine lv_iconst (v := -1) hx hb dX11_price_24 (by decide) ?_
    exact hk_iret hx hb hr hlocks hH hS ⟨(by simp only [F_m_price, if_pos c_1]), rfl, (by simp only [T_m_price, if_pos c_1])⟩ dX11_price_25
  · refine lv_iload_n hx hb dX11_price_14 rfl (lv_at hl 2 rfl) ?_
    refine lv_iconst (v := 1) hx hb dX11_price_15 (by decide) ?_
    refine lv_bipush (v := 50) hx hb dX11_price_16 (by decide) ?_
    refine hk_cS (As := [.int v, .int 1, .int 50]) (rest := []) hx hb hml hl.1 ht hown hK hH hS (c_isIn l D G τ σ v 1 50) ymS_X11_isIn tw_808 ⟨rfl, rfl⟩ ⟨Nat.le_of_ble_eq_true rfl, Nat.le_of_ble_eq_true rfl⟩ rfl rfl (Nat.le_of_ble_eq_true rfl) dX11_price_18 ⟨Nat.le_of_ble_eq_true rfl, Nat.le_of_ble_eq_true rfl⟩ (hk_ea (fun H locs hH hS => ?_))
    refine lv_if_ne (tgt := 26) hx hb dX11_price_21 (by decide) (fun c_2 => ?_) (fun c_2 => ?_)
    · refine lv_aload_n hx hb dX11_price_26 rfl (lv_at hl 0 rfl) ?_
      refine hk_geti (L := (.inr (0, 0))) (v := σ (0, 0) 29) hx hb ht hown hK hH kc_12 hM.k0 29 (by decide) rfl tw_721 rfl rfl dX11_price_27 ?_
      refine lv_bipush (v := 20) hx hb dX11_price_30 (by decide) ?_
      refine lv_icmp_ne (tgt := 38) hx hb dX11_price_32 (by decide) (fun c_3 => ?_) (fun c_3 => ?_)
      · refine lv_aload_n hx hb dX11_price_38 rfl (lv_at hl 0 rfl) ?_
        refine hk_getr (L := (.inr (0, 0))) (v := .ref (G.1 (.inr (1, 30)))) hx hb ht hown hK hH kc_12 hM.k0 30 (by decide) rfl tw_722 rfl hM.r30 dX11_price_39 ?_
        refine lv_aload_n hx hb dX11_price_42 rfl (lv_at hl 0 rfl) ?_
        refine hk_geti (L := (.inr (0, 0))) (v := σ (0, 0) 29) hx hb ht hown hK hH kc_12 hM.k0 29 (by decide) rfl tw_721 rfl rfl dX11_price_43 ?_
        refine lv_iload_n hx hb dX11_price_46 rfl (lv_at hl 1 rfl) ?_
        refine hk_ist (L := (.inr (1, 30))) hx hb hK hH hS hM.k30 (hk_cin (x := 0) (N := 20) hmn.1 hmn.2 (by omega) (by assumption)) dX11_price_47 (fun H locs hH hS => ?_)
        rw [hk_up_r] at hH
        refine lv_aload_n hx hb dX11_price_48 rfl (lv_at hl 0 rfl) ?_
        refine hk_getr (L := (.inr (0, 0))) (v := .ref (G.1 (.inr (1, 31)))) hx hb ht hown hK hH kc_12 hM.k0 31 (by decide) rfl tw_723 rfl hM.r31 dX11_price_49 ?_
        refine lv_aload_n hx hb dX11_price_52 rfl (lv_at hl 0 rfl) ?_
        refine hk_geti (L := (.inr (0, 0))) (v := σ (0, 0) 29) hx hb ht hown hK hH kc_12 hM.k0 29 (by decide) rfl tw_721 rfl (by simp [hk_cm, hk_u_ap]) dX11_price_53 ?_
        refine lv_iload_n hx hb dX11_price_56 rfl (lv_at hl 2 rfl) ?_
        refine hk_ist (L := (.inr (1, 31))) hx hb hK hH hS hM.k31 (hk_cin (x := 0) (N := 20) hmn.1 hmn.2 (by omega) (by assumption)) dX11_price_57 (fun H locs hH hS => ?_)
        rw [hk_up_r] at hH
        refine lv_aload_n hx hb dX11_price_58 rfl (lv_at hl 0 rfl) ?_
        refine lv_dup hx hb dX11_price_59 rfl ?_
        refine hk_geti (L := (.inr (0, 0))) (v := σ (0, 0) 29) hx hb ht hown hK hH kc_12 hM.k0 29 (by decide) rfl tw_721 rfl (by simp [hk_cm, hk_u_ap]) dX11_price_60 ?_
        refine lv_iconst (v := 1) hx hb dX11_price_63 (by decide) ?_
        refine lv_iadd hx hb dX11_price_64 ?_
        refine hk_puti (L := (.inr (0, 0))) hx hb ht hown hK hH hS kc_12 hM.k0 29 (by decide) rfl tw_721 rfl (Or.inl rfl) rfl dX11_price_65 (fun H locs hH hS => ?_)
        rw [hk_up_r] at hH
        refine lv_iconst (v := 1) hx hb dX11_price_68 (by decide) ?_
        exact hk_iret hx hb hr hlocks hH hS ⟨(by simp only [F_m_price, if_neg c_1, if_neg c_2, if_neg c_3]), rfl, (by simp only [T_m_price, if_neg c_1, if_neg c_2, if_neg c_3])⟩ dX11_price_69
      · refine lv_bipush (v := -3) hx hb dX11_price_35 (by decide) ?_
        exact hk_iret hx hb hr hlocks hH hS ⟨(by simp only [F_m_price, if_neg c_1, if_neg c_2, if_pos c_3]), rfl, (by simp only [T_m_price, if_neg c_1, if_neg c_2, if_pos c_3])⟩ dX11_price_37
    · refine lv_iconst (v := -1) hx hb dX11_price_24 (by decide) ?_
      exact hk_iret hx hb hr hlocks hH hS ⟨(by simp only [F_m_price, if_neg c_1, if_pos c_2]), rfl, (by simp only [T_m_price, if_neg c_1, if_pos c_2])⟩ dX11_price_25
def F_m_act (σ : hk_v) (dd : Int32) (v : Int32) : Int32 := (if (hk_in dd 0 40) = 0 then (-1) else (if (hk_in v 0 100) = 0 then (-1) else (if (σ (0, 0) 0) < (12 * dd) then (if (σ (0, 0) 32) = 20 then (-3) else 1) else (-2))))
def T_m_act (σ : hk_v) (dd : Int32) (v : Int32) : hk_v := (if (hk_in dd 0 40) = 0 then σ else (if (hk_in v 0 100) = 0 then σ else (if (σ (0, 0) 0) < (12 * dd) then (if (σ (0, 0) 32) = 20 then σ else (hk_u (hk_u (hk_u σ (1, 33) ((σ (0, 0) 32).toNatClampNeg) dd) (1, 34) ((σ (0, 0) 32).toNatClampNeg) v) (0, 0) 32 ((σ (0, 0) 32) + 1))) else σ)))
set_option maxHeartbeats 4000000 in
set_option maxRecDepth 100000 in
theorem c_m_act (l : Launch) (D : hk_D) (G : hk_G) (Z : hk_Z) (τ σ : hk_v) (dd : Int32) (v : Int32) (hM : hk_M G) (hmd : hk_mn σ 32) : Met l yX11_act (hk_ws yX11_act cX11_act 3 (some FieldType.int)) ({ frames := 1, cells := 0, slots := 0, locals := 22 }) (hk_P D G (hk_cm τ σ) [.ref (G.1 (.inr (0, 0))), .int dd, .int v]) (hk_Q D (hk_e G (some (.int (F_m_act σ dd v))) (hk_cm τ (T_m_act σ dd v)))) 0 0 (hk_A D) := by
  refine hk_met (by decide +kernel) (Nat.le_of_ble_eq_true rfl) (fun p e s m below meth c hx hb hr hml hlocks ht hown hin hK hH hS ls hl => ?_)
  have hl : lv_has ls 3 [(0, .ref (G.1 (.inr (0, 0)))), (1, .int dd), (2, .int v)] := hl
  refine lv_iload_n hx hb dX11_act_0 rfl (lv_at hl 1 rfl) ?_
  refine lv_iconst (v := 0) hx hb dX11_act_1 (by decide) ?_
  refine lv_bipush (v := 40) hx hb dX11_act_2 (by decide) ?_
  refine hk_cS (As := [.int dd, .int 0, .int 40]) (rest := []) hx hb hml hl.1 ht hown hK hH hS (c_isIn l D G τ σ dd 0 40) ymS_X11_isIn tw_808 ⟨rfl, rfl⟩ ⟨Nat.le_of_ble_eq_true rfl, Nat.le_of_ble_eq_true rfl⟩ rfl rfl (Nat.le_of_ble_eq_true rfl) dX11_act_4 ⟨Nat.le_of_ble_eq_true rfl, Nat.le_of_ble_eq_true rfl⟩ (hk_ea (fun H locs hH hS => ?_))
  refine lv_if_eq (tgt := 20) hx hb dX11_act_7 (by decide) (fun c_1 => ?_) (fun c_1 => ?_)
  · refine lv_iconst (v := -1) hx hb dX11_act_20 (by decide) ?_
    exact hk_iret hx hb hr hlocks hH hS ⟨(by simp only [F_m_act, if_pos c_1]), rfl, (by simp only [T_m_act, if_pos c_1])⟩ dX11_act_21
  · refine lv_iload_n hx hb dX11_act_10 rfl (lv_at hl 2 rfl) ?_
    refine lv_iconst (v := 0) hx hb dX11_act_11 (by decide) ?_
    refine lv_bipush (v := 100) hx hb dX11_act_12 (by decide) ?_
    refine hk_cS (As := [.int v, .int 0, .int 100]) (rest := []) hx hb hml hl.1 ht hown hK hH hS (c_isIn l D G τ σ v 0 100) ymS_X11_isIn tw_808 ⟨rfl, rfl⟩ ⟨Nat.le_of_ble_eq_true rfl, Nat.le_of_ble_eq_true rfl⟩ rfl rfl (Nat.le_of_ble_eq_true rfl) dX11_act_14 ⟨Nat.le_of_ble_eq_true rfl, Nat.le_of_ble_eq_true rfl⟩ (hk_ea (fun H locs hH hS => ?_))
    refine lv_if_ne (tgt := 22) hx hb dX11_act_17 (by decide) (fun c_2 => ?_) (fun c_2 => ?_)
    · refine lv_bipush (v := 12) hx hb dX11_act_22 (by decide) ?_
      refine lv_iload_n hx hb dX11_act_24 rfl (lv_at hl 1 rfl) ?_
      refine lv_imul hx hb dX11_act_25 ?_
      refine lv_aload_n hx hb dX11_act_26 rfl (lv_at hl 0 rfl) ?_
      refine hk_geti (L := (.inr (0, 0))) (v := σ (0, 0) 0) hx hb ht hown hK hH kc_12 hM.k0 0 (by decide) rfl tw_692 rfl rfl dX11_act_27 ?_
      refine lv_icmp_gt (tgt := 36) hx hb dX11_act_30 (by decide) (fun c_3 => ?_) (fun c_3 => ?_)
      · refine lv_aload_n hx hb dX11_act_36 rfl (lv_at hl 0 rfl) ?_
        refine hk_geti (L := (.inr (0, 0))) (v := σ (0, 0) 32) hx hb ht hown hK hH kc_12 hM.k0 32 (by decide) rfl tw_724 rfl rfl dX11_act_37 ?_
        refine lv_bipush (v := 20) hx hb dX11_act_40 (by decide) ?_
        refine lv_icmp_ne (tgt := 48) hx hb dX11_act_42 (by decide) (fun c_4 => ?_) (fun c_4 => ?_)
        · refine lv_aload_n hx hb dX11_act_48 rfl (lv_at hl 0 rfl) ?_
          refine hk_getr (L := (.inr (0, 0))) (v := .ref (G.1 (.inr (1, 33)))) hx hb ht hown hK hH kc_12 hM.k0 33 (by decide) rfl tw_725 rfl hM.r33 dX11_act_49 ?_
          refine lv_aload_n hx hb dX11_act_52 rfl (lv_at hl 0 rfl) ?_
          refine hk_geti (L := (.inr (0, 0))) (v := σ (0, 0) 32) hx hb ht hown hK hH kc_12 hM.k0 32 (by decide) rfl tw_724 rfl rfl dX11_act_53 ?_
          refine lv_iload_n hx hb dX11_act_56 rfl (lv_at hl 1 rfl) ?_
          refine hk_ist (L := (.inr (1, 33))) hx hb hK hH hS hM.k33 (hk_cin (x := 0) (N := 20) hmd.1 hmd.2 (by omega) (by assumption)) dX11_act_57 (fun H locs hH hS => ?_)
          rw [hk_up_r] at hH
          refine lv_aload_n hx hb dX11_act_58 rfl (lv_at hl 0 rfl) ?_
          refine hk_getr (L := (.inr (0, 0))) (v := .ref (G.1 (.inr (1, 34)))) hx hb ht hown hK hH kc_12 hM.k0 34 (by decide) rfl tw_726 rfl hM.r34 dX11_act_59 ?_
          refine lv_aload_n hx hb dX11_act_62 rfl (lv_at hl 0 rfl) ?_
          refine hk_geti (L := (.inr (0, 0))) (v := σ (0, 0) 32) hx hb ht hown hK hH kc_12 hM.k0 32 (by decide) rfl tw_724 rfl (by simp [hk_cm, hk_u_ap]) dX11_act_63 ?_
          refine lv_iload_n hx hb dX11_act_66 rfl (lv_at hl 2 rfl) ?_
          refine hk_ist (L := (.inr (1, 34))) hx hb hK hH hS hM.k34 (hk_cin (x := 0) (N := 20) hmd.1 hmd.2 (by omega) (by assumption)) dX11_act_67 (fun H locs hH hS => ?_)
          rw [hk_up_r] at hH
          refine lv_aload_n hx hb dX11_act_68 rfl (lv_at hl 0 rfl) ?_
          refine lv_dup hx hb dX11_act_69 rfl ?_
          refine hk_geti (L := (.inr (0, 0))) (v := σ (0, 0) 32) hx hb ht hown hK hH kc_12 hM.k0 32 (by decide) rfl tw_724 rfl (by simp [hk_cm, hk_u_ap]) dX11_act_70 ?_
          refine lv_iconst (v := 1) hx hb dX11_act_73 (by decide) ?_
          refine lv_iadd hx hb dX11_act_74 ?_
          refine hk_puti (L := (.inr (0, 0))) hx hb ht hown hK hH hS kc_12 hM.k0 32 (by decide) rfl tw_724 rfl (Or.inl rfl) rfl dX11_act_75 (fun H locs hH hS => ?_)
          rw [hk_up_r] at hH
          refine lv_iconst (v := 1) hx hb dX11_act_78 (by decide) ?_
          exact hk_iret hx hb hr hlocks hH hS ⟨(by simp only [F_m_act, if_neg c_1, if_neg c_2, if_pos c_3, if_neg c_4]), rfl, (by simp only [T_m_act, if_neg c_1, if_neg c_2, if_pos c_3, if_neg c_4])⟩ dX11_act_79
        · refine lv_bipush (v := -3) hx hb dX11_act_45 (by decide) ?_
          exact hk_iret hx hb hr hlocks hH hS ⟨(by simp only [F_m_act, if_neg c_1, if_neg c_2, if_pos c_3, if_pos c_4]), rfl, (by simp only [T_m_act, if_neg c_1, if_neg c_2, if_pos c_3, if_pos c_4])⟩ dX11_act_47
      · refine lv_bipush (v := -2) hx hb dX11_act_33 (by decide) ?_
        exact hk_iret hx hb hr hlocks hH hS ⟨(by simp only [F_m_act, if_neg c_1, if_neg c_2, if_neg c_3]), rfl, (by simp only [T_m_act, if_neg c_1, if_neg c_2, if_neg c_3])⟩ dX11_act_35
    · refine lv_iconst (v := -1) hx hb dX11_act_20 (by decide) ?_
      exact hk_iret hx hb hr hlocks hH hS ⟨(by simp only [F_m_act, if_neg c_1, if_pos c_2]), rfl, (by simp only [T_m_act, if_neg c_1, if_pos c_2])⟩ dX11_act_21
def F_m_priced (σ : hk_v) (h : Int32) : Int32 := (if (hk_in h 0 480) = 0 then (-1) else F_m_priceAt σ h)
set_option maxHeartbeats 4000000 in
set_option maxRecDepth 100000 in
theorem c_m_priced (l : Launch) (D : hk_D) (G : hk_G) (Z : hk_Z) (τ σ : hk_v) (h : Int32) (hM : hk_M G) (hmn : hk_mn σ 29) : Met l yX11_priced (hk_ws yX11_priced cX11_priced 2 (some FieldType.int)) ({ frames := 1, cells := 0, slots := 0, locals := 23 }) (hk_P D G (hk_cm τ σ) [.ref (G.1 (.inr (0, 0))), .int h]) (hk_Q D (hk_e G (some (.int (F_m_priced σ h))) (hk_cm τ σ))) 0 0 (hk_A D) := by
  refine hk_met (by decide +kernel) (Nat.le_of_ble_eq_true rfl) (fun p e s m below meth c hx hb hr hml hlocks ht hown hin hK hH hS ls hl => ?_)
  have hl : lv_has ls 2 [(0, .ref (G.1 (.inr (0, 0)))), (1, .int h)] := hl
  refine lv_iload_n hx hb dX11_priced_0 rfl (lv_at hl 1 rfl) ?_
  refine lv_iconst (v := 0) hx hb dX11_priced_1 (by decide) ?_
  refine lv_sipush (v := 480) hx hb dX11_priced_2 (by decide) ?_
  refine hk_cS (As := [.int h, .int 0, .int 480]) (rest := []) hx hb hml hl.1 ht hown hK hH hS (c_isIn l D G τ σ h 0 480) ymS_X11_isIn tw_808 ⟨rfl, rfl⟩ ⟨Nat.le_of_ble_eq_true rfl, Nat.le_of_ble_eq_true rfl⟩ rfl rfl (Nat.le_of_ble_eq_true rfl) dX11_priced_5 ⟨Nat.le_of_ble_eq_true rfl, Nat.le_of_ble_eq_true rfl⟩ (hk_ea (fun H locs hH hS => ?_))
  refine lv_if_eq (tgt := 19) hx hb dX11_priced_8 (by decide) (fun c_1 => ?_) (fun c_1 => ?_)
  · refine lv_iconst (v := -1) hx hb dX11_priced_19 (by decide) ?_
    exact hk_iret hx hb hr hlocks hH hS ⟨(by simp only [F_m_priced, if_pos c_1]), rfl, rfl⟩ dX11_priced_20
  · refine lv_aload_n hx hb dX11_priced_11 rfl (lv_at hl 0 rfl) ?_
    refine lv_iload_n hx hb dX11_priced_12 rfl (lv_at hl 1 rfl) ?_
    refine hk_cV (L := (.inr (0, 0))) (As := [.int h]) (rest := []) hx hb hml hl.1 ht hown hK hH hS (c_m_priceAt l D G Z τ σ h hM hmn) ymV_X11_priceAt kc_12 hM.k0 tw_868 ⟨rfl, rfl⟩ ⟨Nat.le_of_ble_eq_true rfl, Nat.le_of_ble_eq_true rfl⟩ rfl rfl (Nat.le_of_ble_eq_true rfl) dX11_priced_13 ⟨Nat.le_of_ble_eq_true rfl, Nat.le_of_ble_eq_true rfl⟩ (hk_ea (fun H locs hH hS => ?_))
    refine lv_goto (tgt := 20) hx hb dX11_priced_16 (by decide) ?_
    exact hk_iret hx hb hr hlocks hH hS ⟨(by simp only [F_m_priced, if_neg c_1]), rfl, rfl⟩ dX11_priced_20
def F_m_duty (σ : hk_v) (dd : Int32) : Int32 := (if (hk_in dd 0 40) = 0 then (-1) else F_m_dutyOn σ dd)
set_option maxHeartbeats 4000000 in
set_option maxRecDepth 100000 in
theorem c_m_duty (l : Launch) (D : hk_D) (G : hk_G) (Z : hk_Z) (τ σ : hk_v) (dd : Int32) (hM : hk_M G) (hmd : hk_mn σ 32) : Met l yX11_duty (hk_ws yX11_duty cX11_duty 2 (some FieldType.int)) ({ frames := 1, cells := 0, slots := 0, locals := 23 }) (hk_P D G (hk_cm τ σ) [.ref (G.1 (.inr (0, 0))), .int dd]) (hk_Q D (hk_e G (some (.int (F_m_duty σ dd))) (hk_cm τ σ))) 0 0 (hk_A D) := by
  refine hk_met (by decide +kernel) (Nat.le_of_ble_eq_true rfl) (fun p e s m below meth c hx hb hr hml hlocks ht hown hin hK hH hS ls hl => ?_)
  have hl : lv_has ls 2 [(0, .ref (G.1 (.inr (0, 0)))), (1, .int dd)] := hl
  refine lv_iload_n hx hb dX11_duty_0 rfl (lv_at hl 1 rfl) ?_
  refine lv_iconst (v := 0) hx hb dX11_duty_1 (by decide) ?_
  refine lv_bipush (v := 40) hx hb dX11_duty_2 (by decide) ?_
  refine hk_cS (As := [.int dd, .int 0, .int 40]) (rest := []) hx hb hml hl.1 ht hown hK hH hS (c_isIn l D G τ σ dd 0 40) ymS_X11_isIn tw_808 ⟨rfl, rfl⟩ ⟨Nat.le_of_ble_eq_true rfl, Nat.le_of_ble_eq_true rfl⟩ rfl rfl (Nat.le_of_ble_eq_true rfl) dX11_duty_4 ⟨Nat.le_of_ble_eq_true rfl, Nat.le_of_ble_eq_true rfl⟩ (hk_ea (fun H locs hH hS => ?_))
  refine lv_if_eq (tgt := 18) hx hb dX11_duty_7 (by decide) (fun c_1 => ?_) (fun c_1 => ?_)
  · refine lv_iconst (v := -1) hx hb dX11_duty_18 (by decide) ?_
    exact hk_iret hx hb hr hlocks hH hS ⟨(by simp only [F_m_duty, if_pos c_1]), rfl, rfl⟩ dX11_duty_19
  · refine lv_aload_n hx hb dX11_duty_10 rfl (lv_at hl 0 rfl) ?_
    refine lv_iload_n hx hb dX11_duty_11 rfl (lv_at hl 1 rfl) ?_
    refine hk_cV (L := (.inr (0, 0))) (As := [.int dd]) (rest := []) hx hb hml hl.1 ht hown hK hH hS (c_m_dutyOn l D G Z τ σ dd hM hmd) ymV_X11_dutyOn kc_12 hM.k0 tw_920 ⟨rfl, rfl⟩ ⟨Nat.le_of_ble_eq_true rfl, Nat.le_of_ble_eq_true rfl⟩ rfl rfl (Nat.le_of_ble_eq_true rfl) dX11_duty_12 ⟨Nat.le_of_ble_eq_true rfl, Nat.le_of_ble_eq_true rfl⟩ (hk_ea (fun H locs hH hS => ?_))
    refine lv_goto (tgt := 19) hx hb dX11_duty_15 (by decide) ?_
    exact hk_iret hx hb hr hlocks hH hS ⟨(by simp only [F_m_duty, if_neg c_1]), rfl, rfl⟩ dX11_duty_19
theorem bnd_ne {x : Int32} (h : ∃ n, n ≤ 40 ∧ x = nI n) (h0 : ¬ x = 0) : ¬ (59 + x) / x = 0 := by
  obtain ⟨n, hn, rfl⟩ := h
  have hp : 0 < n := by
    rcases Nat.eq_zero_or_pos n with q | q
    · subst q; exact absurd rfl h0
    · exact q
  rw [show (59 : Int32) + nI n = nI (59 + n) from nI_add 59 n, pk_div (by omega) hp (by omega)]
  apply nI_ne0
  · exact Nat.div_pos (by omega) hp
  · exact Nat.lt_of_le_of_lt (Nat.div_le_self _ _) (by omega)
def B_m_bound (σ : hk_v) (j : Nat) (sum : Int32) : Int32 := (if (F_m_dryingBy (σ (1, 18) j) (σ (1, 20) j)) = 0 then sum + 0 else sum + ((σ (1, 19) j) / ((59 + (F_m_dryingBy (σ (1, 18) j) (σ (1, 20) j))) / (F_m_dryingBy (σ (1, 18) j) (σ (1, 20) j)))))
def F_m_bound (Z : hk_Z) (σ : hk_v)  : Int32 := (hk_it (B_m_bound σ) (Z.1 2) 0 0)
set_option maxHeartbeats 4000000 in
set_option maxRecDepth 100000 in
theorem c_m_bound (l : Launch) (D : hk_D) (G : hk_G) (Z : hk_Z) (τ σ : hk_v)  (hM : hk_M G) (hms : hk_mz Z σ) (hdk : ∀ k, k < Z.1 2 → ∃ n, n ≤ 40 ∧ F_m_dryingBy (σ (1, 18) k) (σ (1, 20) k) = nI n) : Met l yX11_bound (hk_ws yX11_bound cX11_bound 4 (some FieldType.int)) ({ frames := 1, cells := 0, slots := 0, locals := 22 }) (hk_P D G (hk_cm τ σ) [.ref (G.1 (.inr (0, 0)))]) (hk_Q D (hk_e G (some (.int (F_m_bound Z σ))) (hk_cm τ σ))) 0 0 (hk_A D) := by
  refine hk_met (by decide +kernel) (Nat.le_of_ble_eq_true rfl) (fun p e s m below meth c hx hb hr hml hlocks ht hown hin hK hH hS ls hl => ?_)
  have hl : lv_has ls 4 [(0, .ref (G.1 (.inr (0, 0))))] := hl
  refine lv_iconst (v := 0) hx hb dX11_bound_0 (by decide) ?_
  refine lv_istore_n (lv' := [(1, .int 0), (0, .ref (G.1 (.inr (0, 0))))]) hx hb dX11_bound_1 rfl hl (by decide) rfl (fun ls hl => ?_)
  refine lv_iconst (v := 0) hx hb dX11_bound_2 (by decide) ?_
  refine lv_istore_n (lv' := [(2, .int 0), (1, .int 0), (0, .ref (G.1 (.inr (0, 0))))]) hx hb dX11_bound_3 rfl hl (by decide) rfl (fun ls hl => ?_)
  have LP_1 : ∀ (r j : Nat) (sum : Int32) (H : Heap) (locs : List Loc) (ls : Array Slot) (QQ : State → Prop), j + r = Z.1 2 → hk_H D G (hk_cm τ σ) H → va_S (hk_A D) s.heap H locs → lv_has ls 4 [(2, .int (nI j)), (1, .int sum), (0, .ref (G.1 (.inr (0, 0))))] → (∀ (H : Heap) (locs : List Loc) (ls : Array Slot), hk_H D G (hk_cm τ σ) H → va_S (hk_A D) s.heap H locs → lv_has ls 4 [(2, .int (nI (Z.1 2))), (1, .int (hk_it (B_m_bound σ) r j sum)), (0, .ref (G.1 (.inr (0, 0))))] → W p l e ({ frames := 1, cells := 0, slots := 0, locals := 22 }) s m ([.ref (G.1 (.inr (0, 0)))] : List Value).toArray below meth c H locs 0 0 QQ (F0 m 58 ls [])) → W p l e ({ frames := 1, cells := 0, slots := 0, locals := 22 }) s m ([.ref (G.1 (.inr (0, 0)))] : List Value).toArray below meth c H locs 0 0 QQ (F0 m 4 ls []) := by
    intro r
    induction r with
    | zero =>
      intro j sum H locs ls QQ hn_m_bound hH hS hl kk
      have hz6 := hms.2
      refine lv_iload_n hx hb dX11_bound_4 rfl (lv_at hl 0 rfl) ?_
      refine lv_aload_n hx hb dX11_bound_5 rfl (lv_at hl 2 rfl) ?_
      refine hk_geti (L := (.inr (0, 0))) (v := σ (0, 0) 17) hx hb ht hown hK hH kc_12 hM.k0 17 (by decide) rfl tw_709 rfl rfl dX11_bound_6 ?_
      refine lv_icmp_ge (tgt := 58) hx hb dX11_bound_9 (by decide) (fun c_2 => ?_) (fun c_2 => ?_)
      rotate_left
      · exfalso; rw [hms.1.2.2] at c_2; first | exact nI_ge (by omega) (by omega) c_2 | exact c_2 (nI_le (by omega) (by omega)) | exact nI_nlt (by omega) (by omega) c_2 | exact c_2 (nI_lt (by omega) (by omega))
      have hiN : j = Z.1 2 := by omega
      rw [hiN] at hl
      exact kk H locs ls hH hS (lv_sub hl [0, 1, 2] rfl)
    | succ r ih =>
      intro j sum H locs ls QQ hn_m_bound hH hS hl kk
      have hz6 := hms.2
      refine lv_iload_n hx hb dX11_bound_4 rfl (lv_at hl 0 rfl) ?_
      refine lv_aload_n hx hb dX11_bound_5 rfl (lv_at hl 2 rfl) ?_
      refine hk_geti (L := (.inr (0, 0))) (v := σ (0, 0) 17) hx hb ht hown hK hH kc_12 hM.k0 17 (by decide) rfl tw_709 rfl rfl dX11_bound_6 ?_
      refine lv_icmp_ge (tgt := 58) hx hb dX11_bound_9 (by decide) (fun c_3 => ?_) (fun c_3 => ?_)
      · exfalso; rw [hms.1.2.2] at c_3; first | exact nI_ge (by omega) (by omega) c_3 | exact c_3 (nI_le (by omega) (by omega)) | exact nI_nlt (by omega) (by omega) c_3 | exact c_3 (nI_lt (by omega) (by omega))
      refine lv_aload_n hx hb dX11_bound_12 rfl (lv_at hl 2 rfl) ?_
      refine hk_getr (L := (.inr (0, 0))) (v := .ref (G.1 (.inr (1, 18)))) hx hb ht hown hK hH kc_12 hM.k0 18 (by decide) rfl tw_710 rfl hM.r18 dX11_bound_13 ?_
      refine lv_iload_n hx hb dX11_bound_16 rfl (lv_at hl 0 rfl) ?_
      refine hk_ild (L := (.inr (1, 18))) (v := σ (1, 18) j) hx hb hK hH hM.k18 (vp_in_nI (by omega) (by omega)) (by rw [nI_clamp (by omega)]; rfl) dX11_bound_17 ?_
      refine lv_aload_n hx hb dX11_bound_18 rfl (lv_at hl 2 rfl) ?_
      refine hk_getr (L := (.inr (0, 0))) (v := .ref (G.1 (.inr (1, 20)))) hx hb ht hown hK hH kc_12 hM.k0 20 (by decide) rfl tw_712 rfl hM.r20 dX11_bound_19 ?_
      refine lv_iload_n hx hb dX11_bound_22 rfl (lv_at hl 0 rfl) ?_
      refine hk_ild (L := (.inr (1, 20))) (v := σ (1, 20) j) hx hb hK hH hM.k20 (vp_in_nI (by omega) (by omega)) (by rw [nI_clamp (by omega)]; rfl) dX11_bound_23 ?_
      refine hk_cS (As := [.int (σ (1, 18) j), .int (σ (1, 20) j)]) (rest := []) hx hb hml hl.1 ht hown hK hH hS (c_m_dryingBy l D G τ σ (σ (1, 18) j) (σ (1, 20) j)) ymS_X11_dryingBy tw_845 ⟨rfl, rfl⟩ ⟨Nat.le_of_ble_eq_true rfl, Nat.le_of_ble_eq_true rfl⟩ rfl rfl (Nat.le_of_ble_eq_true rfl) dX11_bound_24 ⟨Nat.le_of_ble_eq_true rfl, Nat.le_of_ble_eq_true rfl⟩ (hk_ea (fun H locs hH hS => ?_))
      refine lv_istore_n (lv' := [(3, .int (F_m_dryingBy (σ (1, 18) j) (σ (1, 20) j))), (2, .int (nI j)), (1, .int sum), (0, .ref (G.1 (.inr (0, 0))))]) hx hb dX11_bound_27 rfl hl (by decide) rfl (fun ls hl => ?_)
      refine lv_iload_n hx hb dX11_bound_28 rfl (lv_at hl 2 rfl) ?_
      refine lv_iload_n hx hb dX11_bound_29 rfl (lv_at hl 0 rfl) ?_
      refine lv_if_ne (tgt := 37) hx hb dX11_bound_30 (by decide) (fun c_4 => ?_) (fun c_4 => ?_)
      · refine lv_aload_n hx hb dX11_bound_37 rfl (lv_at hl 3 rfl) ?_
        refine hk_getr (L := (.inr (0, 0))) (v := .ref (G.1 (.inr (1, 19)))) hx hb ht hown hK hH kc_12 hM.k0 19 (by decide) rfl tw_711 rfl hM.r19 dX11_bound_38 ?_
        refine lv_iload_n hx hb dX11_bound_41 rfl (lv_at hl 1 rfl) ?_
        refine hk_ild (L := (.inr (1, 19))) (v := σ (1, 19) j) hx hb hK hH hM.k19 (vp_in_nI (by omega) (by omega)) (by rw [nI_clamp (by omega)]; rfl) dX11_bound_42 ?_
        refine lv_bipush (v := 59) hx hb dX11_bound_43 (by decide) ?_
        refine lv_iload_n hx hb dX11_bound_45 rfl (lv_at hl 0 rfl) ?_
        refine lv_iadd hx hb dX11_bound_46 ?_
        refine lv_iload_n hx hb dX11_bound_47 rfl (lv_at hl 0 rfl) ?_
        refine lv_idiv hx hb dX11_bound_48 (by assumption) ?_
        refine lv_idiv hx hb dX11_bound_49 (bnd_ne (hdk j (by omega)) (by assumption)) ?_
        refine lv_iadd hx hb dX11_bound_50 ?_
        refine lv_istore_n (lv' := [(1, .int (sum + ((σ (1, 19) j) / ((59 + (F_m_dryingBy (σ (1, 18) j) (σ (1, 20) j))) / (F_m_dryingBy (σ (1, 18) j) (σ (1, 20) j)))))), (3, .int (F_m_dryingBy (σ (1, 18) j) (σ (1, 20) j))), (2, .int (nI j)), (0, .ref (G.1 (.inr (0, 0))))]) hx hb dX11_bound_51 rfl hl (by decide) rfl (fun ls hl => ?_)
        refine lv_iinc (v := nI (j + 1)) (lv' := [(2, .int (nI (j + 1))), (1, .int (sum + ((σ (1, 19) j) / ((59 + (F_m_dryingBy (σ (1, 18) j) (σ (1, 20) j))) / (F_m_dryingBy (σ (1, 18) j) (σ (1, 20) j)))))), (3, .int (F_m_dryingBy (σ (1, 18) j) (σ (1, 20) j))), (0, .ref (G.1 (.inr (0, 0))))]) hx hb dX11_bound_52 hl (k := 2) rfl (nI_1 _) (by decide) rfl (fun ls hl => ?_)
        refine lv_goto (tgt := 4) hx hb dX11_bound_55 (by decide) ?_
        have EB_5 : (B_m_bound σ) j sum = sum + ((σ (1, 19) j) / ((59 + (F_m_dryingBy (σ (1, 18) j) (σ (1, 20) j))) / (F_m_dryingBy (σ (1, 18) j) (σ (1, 20) j)))) := by simp only [B_m_bound, if_neg c_4]
        exact ih (j + 1) (sum + ((σ (1, 19) j) / ((59 + (F_m_dryingBy (σ (1, 18) j) (σ (1, 20) j))) / (F_m_dryingBy (σ (1, 18) j) (σ (1, 20) j))))) _ _ _ QQ (by omega) hH hS (lv_sub hl [0, 1, 3] rfl) (fun H locs ls hH hS hl => kk H locs ls hH hS (by rw [hk_it_s, EB_5]; exact hl))
      · refine lv_iconst (v := 0) hx hb dX11_bound_33 (by decide) ?_
        refine lv_goto (tgt := 50) hx hb dX11_bound_34 (by decide) ?_
        refine lv_iadd hx hb dX11_bound_50 ?_
        refine lv_istore_n (lv' := [(1, .int (sum + 0)), (3, .int (F_m_dryingBy (σ (1, 18) j) (σ (1, 20) j))), (2, .int (nI j)), (0, .ref (G.1 (.inr (0, 0))))]) hx hb dX11_bound_51 rfl hl (by decide) rfl (fun ls hl => ?_)
        refine lv_iinc (v := nI (j + 1)) (lv' := [(2, .int (nI (j + 1))), (1, .int (sum + 0)), (3, .int (F_m_dryingBy (σ (1, 18) j) (σ (1, 20) j))), (0, .ref (G.1 (.inr (0, 0))))]) hx hb dX11_bound_52 hl (k := 2) rfl (nI_1 _) (by decide) rfl (fun ls hl => ?_)
        refine lv_goto (tgt := 4) hx hb dX11_bound_55 (by decide) ?_
        have EB_6 : (B_m_bound σ) j sum = sum + 0 := by simp only [B_m_bound, if_pos c_4]
        exact ih (j + 1) (sum + 0) _ _ _ QQ (by omega) hH hS (lv_sub hl [0, 1, 3] rfl) (fun H locs ls hH hS hl => kk H locs ls hH hS (by rw [hk_it_s, EB_6]; exact hl))
  refine LP_1 (Z.1 2) 0 0 _ _ _ _ (by omega) hH hS (lv_sub hl [0, 1, 2] rfl) (fun H locs ls hH hS hl => ?_)
  refine lv_iload_n hx hb dX11_bound_58 rfl (lv_at hl 1 rfl) ?_
  exact hk_iret hx hb hr hlocks hH hS ⟨(by simp only [F_m_bound]), rfl, rfl⟩ dX11_bound_59
def B_m_c6 (σ : hk_v) (j : Nat) (sum : Int32) : Int32 := sum + (F_m_dutyOn σ (σ (1, 26) j))
def B_m_c7 (σ : hk_v) (j : Nat) (sum : Int32) : Int32 := sum + (σ (1, 7) j)
def B_m_c8 (nw : Nat) (σ : hk_v) (j : Nat) (sum : Int32) : Int32 := sum + (F_m_greenOf σ nw (nI j))
def B_m_c9 (σ : hk_v) (j : Nat) (sum : Int32) : Int32 := sum + (σ (1, 15) j)
def F_m_count (Z : hk_Z) (σ : hk_v) (nw : Nat) (w : Int32) : Int32 := (if w = 0 then σ (0, 0) 0 else (if w = 1 then σ (0, 0) 2 else (if w = 2 then σ (0, 0) 9 else (if w = 3 then σ (0, 0) 17 else (if w = 4 then σ (0, 0) 24 else (if w = 5 then σ (0, 0) 27 else (if w = 6 then (hk_it (B_m_c6 σ) ((F_m_led σ).toNatClampNeg) 0 0) else (if w = 7 then (hk_it (B_m_c7 σ) (Z.1 0) 0 0) else (if w = 8 then (hk_it (B_m_c8 nw σ) (Z.1 0) 0 0) else (if w = 9 then (hk_it (B_m_c9 σ) (Z.1 1) 0 0) else (-1)))))))))))
set_option maxHeartbeats 4000000 in
set_option maxRecDepth 100000 in
theorem c_m_count (l : Launch) (D : hk_D) (G : hk_G) (Z : hk_Z) (τ σ : hk_v) (nw : Nat) (w : Int32) (hM : hk_M G) (hms : hk_mz Z σ) (hnow : σ (0, 0) 0 = nI nw) (hnw : nw ≤ 480) (hmp : hk_mp σ) (hmd : hk_mn σ 32) : Met l yX11_count (hk_ws yX11_count cX11_count 4 (some FieldType.int)) ({ frames := 1, cells := 0, slots := 0, locals := 23 }) (hk_P D G (hk_cm τ σ) [.ref (G.1 (.inr (0, 0))), .int w]) (hk_Q D (hk_e G (some (.int (F_m_count Z σ nw w))) (hk_cm τ σ))) 0 0 (hk_A D) := by
  refine hk_met (by decide +kernel) (Nat.le_of_ble_eq_true rfl) (fun p e s m below meth c hx hb hr hml hlocks ht hown hin hK hH hS ls hl => ?_)
  have hl : lv_has ls 4 [(0, .ref (G.1 (.inr (0, 0)))), (1, .int w)] := hl
  refine lv_iconst (v := 0) hx hb dX11_count_0 (by decide) ?_
  refine lv_istore_n (lv' := [(2, .int 0), (0, .ref (G.1 (.inr (0, 0)))), (1, .int w)]) hx hb dX11_count_1 rfl hl (by decide) rfl (fun ls hl => ?_)
  refine lv_iload_n hx hb dX11_count_2 rfl (lv_at hl 2 rfl) ?_
  rcases hk_sw9 w with (rfl | rfl | rfl | rfl | rfl | rfl | rfl | rfl | rfl | rfl) | hsw
  · refine lv_tableIn (x := 0) (tgt := 56) hx hb dX11_count_3 (by decide) (by decide) rfl (by decide) ?_
    refine lv_aload_n hx hb dX11_count_56 rfl (lv_at hl 1 rfl) ?_
    refine hk_geti (L := (.inr (0, 0))) (v := σ (0, 0) 0) hx hb ht hown hK hH kc_12 hM.k0 0 (by decide) rfl tw_692 rfl rfl dX11_count_57 ?_
    exact hk_iret hx hb hr hlocks hH hS ⟨(by simp [F_m_count]), rfl, rfl⟩ dX11_count_60
  · refine lv_tableIn (x := 1) (tgt := 61) hx hb dX11_count_3 (by decide) (by decide) rfl (by decide) ?_
    refine lv_aload_n hx hb dX11_count_61 rfl (lv_at hl 1 rfl) ?_
    refine hk_geti (L := (.inr (0, 0))) (v := σ (0, 0) 2) hx hb ht hown hK hH kc_12 hM.k0 2 (by decide) rfl tw_694 rfl rfl dX11_count_62 ?_
    exact hk_iret hx hb hr hlocks hH hS ⟨(by simp [F_m_count]), rfl, rfl⟩ dX11_count_65
  · refine lv_tableIn (x := 2) (tgt := 66) hx hb dX11_count_3 (by decide) (by decide) rfl (by decide) ?_
    refine lv_aload_n hx hb dX11_count_66 rfl (lv_at hl 1 rfl) ?_
    refine hk_geti (L := (.inr (0, 0))) (v := σ (0, 0) 9) hx hb ht hown hK hH kc_12 hM.k0 9 (by decide) rfl tw_701 rfl rfl dX11_count_67 ?_
    exact hk_iret hx hb hr hlocks hH hS ⟨(by simp [F_m_count]), rfl, rfl⟩ dX11_count_70
  · refine lv_tableIn (x := 3) (tgt := 71) hx hb dX11_count_3 (by decide) (by decide) rfl (by decide) ?_
    refine lv_aload_n hx hb dX11_count_71 rfl (lv_at hl 1 rfl) ?_
    refine hk_geti (L := (.inr (0, 0))) (v := σ (0, 0) 17) hx hb ht hown hK hH kc_12 hM.k0 17 (by decide) rfl tw_709 rfl rfl dX11_count_72 ?_
    exact hk_iret hx hb hr hlocks hH hS ⟨(by simp [F_m_count]), rfl, rfl⟩ dX11_count_75
  · refine lv_tableIn (x := 4) (tgt := 76) hx hb dX11_count_3 (by decide) (by decide) rfl (by decide) ?_
    refine lv_aload_n hx hb dX11_count_76 rfl (lv_at hl 1 rfl) ?_
    refine hk_geti (L := (.inr (0, 0))) (v := σ (0, 0) 24) hx hb ht hown hK hH kc_12 hM.k0 24 (by decide) rfl tw_716 rfl rfl dX11_count_77 ?_
    exact hk_iret hx hb hr hlocks hH hS ⟨(by simp [F_m_count]), rfl, rfl⟩ dX11_count_80
  · refine lv_tableIn (x := 5) (tgt := 81) hx hb dX11_count_3 (by decide) (by decide) rfl (by decide) ?_
    refine lv_aload_n hx hb dX11_count_81 rfl (lv_at hl 1 rfl) ?_
    refine hk_geti (L := (.inr (0, 0))) (v := σ (0, 0) 27) hx hb ht hown hK hH kc_12 hM.k0 27 (by decide) rfl tw_719 rfl rfl dX11_count_82 ?_
    exact hk_iret hx hb hr hlocks hH hS ⟨(by simp [F_m_count]), rfl, rfl⟩ dX11_count_85
  · refine lv_tableIn (x := 6) (tgt := 86) hx hb dX11_count_3 (by decide) (by decide) rfl (by decide) ?_
    refine lv_iconst (v := 0) hx hb dX11_count_86 (by decide) ?_
    refine lv_istore_n (lv' := [(3, .int 0), (2, .int 0), (0, .ref (G.1 (.inr (0, 0)))), (1, .int 6)]) hx hb dX11_count_87 rfl hl (by decide) rfl (fun ls hl => ?_)
    have LP_1 : ∀ (r j : Nat) (sum : Int32) (H : Heap) (locs : List Loc) (ls : Array Slot) (QQ : State → Prop), j + r = (F_m_led σ).toNatClampNeg → hk_H D G (hk_cm τ σ) H → va_S (hk_A D) s.heap H locs → lv_has ls 4 [(3, .int (nI j)), (2, .int sum), (0, .ref (G.1 (.inr (0, 0)))), (1, .int 6)] → (∀ (H : Heap) (locs : List Loc) (ls : Array Slot), hk_H D G (hk_cm τ σ) H → va_S (hk_A D) s.heap H locs → lv_has ls 4 [(3, .int (nI ((F_m_led σ).toNatClampNeg))), (2, .int (hk_it (B_m_c6 σ) r j sum)), (0, .ref (G.1 (.inr (0, 0)))), (1, .int 6)] → W p l e ({ frames := 1, cells := 0, slots := 0, locals := 23 }) s m ([.ref (G.1 (.inr (0, 0))), .int 6] : List Value).toArray below meth c H locs 0 0 QQ (F0 m 115 ls [])) → W p l e ({ frames := 1, cells := 0, slots := 0, locals := 23 }) s m ([.ref (G.1 (.inr (0, 0))), .int 6] : List Value).toArray below meth c H locs 0 0 QQ (F0 m 88 ls []) := by
      intro r
      induction r with
      | zero =>
        intro j sum H locs ls QQ hn_m_c6 hH hS hl kk
        have hle := (mled_c hmp).2
        refine lv_iload_n hx hb dX11_count_88 rfl (lv_at hl 0 rfl) ?_
        refine lv_aload_n hx hb dX11_count_89 rfl (lv_at hl 2 rfl) ?_
        refine hk_cV (L := (.inr (0, 0))) (As := []) (rest := [.int (nI j)]) hx hb hml hl.1 ht hown hK hH hS (c_m_led l D G Z τ σ hM) ymV_X11_ledPockets kc_12 hM.k0 tw_916 ⟨rfl, rfl⟩ ⟨Nat.le_of_ble_eq_true rfl, Nat.le_of_ble_eq_true rfl⟩ rfl rfl (Nat.le_of_ble_eq_true rfl) dX11_count_90 ⟨Nat.le_of_ble_eq_true rfl, Nat.le_of_ble_eq_true rfl⟩ (hk_ea (fun H locs hH hS => ?_))
        refine lv_icmp_ge (tgt := 115) hx hb dX11_count_93 (by decide) (fun c_2 => ?_) (fun c_2 => ?_)
        rotate_left
        · exfalso; rw [(mled_c hmp).1] at c_2; first | exact nI_ge (by omega) (by omega) c_2 | exact c_2 (nI_le (by omega) (by omega)) | exact nI_nlt (by omega) (by omega) c_2 | exact c_2 (nI_lt (by omega) (by omega))
        have hiN : j = (F_m_led σ).toNatClampNeg := by omega
        rw [hiN] at hl
        exact kk H locs ls hH hS (lv_sub hl [0, 1, 2, 3] rfl)
      | succ r ih =>
        intro j sum H locs ls QQ hn_m_c6 hH hS hl kk
        have hle := (mled_c hmp).2
        refine lv_iload_n hx hb dX11_count_88 rfl (lv_at hl 0 rfl) ?_
        refine lv_aload_n hx hb dX11_count_89 rfl (lv_at hl 2 rfl) ?_
        refine hk_cV (L := (.inr (0, 0))) (As := []) (rest := [.int (nI j)]) hx hb hml hl.1 ht hown hK hH hS (c_m_led l D G Z τ σ hM) ymV_X11_ledPockets kc_12 hM.k0 tw_916 ⟨rfl, rfl⟩ ⟨Nat.le_of_ble_eq_true rfl, Nat.le_of_ble_eq_true rfl⟩ rfl rfl (Nat.le_of_ble_eq_true rfl) dX11_count_90 ⟨Nat.le_of_ble_eq_true rfl, Nat.le_of_ble_eq_true rfl⟩ (hk_ea (fun H locs hH hS => ?_))
        refine lv_icmp_ge (tgt := 115) hx hb dX11_count_93 (by decide) (fun c_3 => ?_) (fun c_3 => ?_)
        · exfalso; rw [(mled_c hmp).1] at c_3; first | exact nI_ge (by omega) (by omega) c_3 | exact c_3 (nI_le (by omega) (by omega)) | exact nI_nlt (by omega) (by omega) c_3 | exact c_3 (nI_lt (by omega) (by omega))
        refine lv_iload_n hx hb dX11_count_96 rfl (lv_at hl 1 rfl) ?_
        refine lv_aload_n hx hb dX11_count_97 rfl (lv_at hl 2 rfl) ?_
        refine lv_aload_n hx hb dX11_count_98 rfl (lv_at hl 2 rfl) ?_
        refine hk_getr (L := (.inr (0, 0))) (v := .ref (G.1 (.inr (1, 26)))) hx hb ht hown hK hH kc_12 hM.k0 26 (by decide) rfl tw_718 rfl hM.r26 dX11_count_99 ?_
        refine lv_iload_n hx hb dX11_count_102 rfl (lv_at hl 0 rfl) ?_
        refine hk_ild (L := (.inr (1, 26))) (v := σ (1, 26) j) hx hb hK hH hM.k26 (vp_in_nI (by omega) (by omega)) (by rw [nI_clamp (by omega)]; rfl) dX11_count_103 ?_
        refine hk_cV (L := (.inr (0, 0))) (As := [.int (σ (1, 26) j)]) (rest := [.int sum]) hx hb hml hl.1 ht hown hK hH hS (c_m_dutyOn l D G Z τ σ (σ (1, 26) j) hM hmd) ymV_X11_dutyOn kc_12 hM.k0 tw_920 ⟨rfl, rfl⟩ ⟨Nat.le_of_ble_eq_true rfl, Nat.le_of_ble_eq_true rfl⟩ rfl rfl (Nat.le_of_ble_eq_true rfl) dX11_count_104 ⟨Nat.le_of_ble_eq_true rfl, Nat.le_of_ble_eq_true rfl⟩ (hk_ea (fun H locs hH hS => ?_))
        refine lv_iadd hx hb dX11_count_107 ?_
        refine lv_istore_n (lv' := [(2, .int (sum + (F_m_dutyOn σ (σ (1, 26) j)))), (3, .int (nI j)), (0, .ref (G.1 (.inr (0, 0)))), (1, .int 6)]) hx hb dX11_count_108 rfl hl (by decide) rfl (fun ls hl => ?_)
        refine lv_iinc (v := nI (j + 1)) (lv' := [(3, .int (nI (j + 1))), (2, .int (sum + (F_m_dutyOn σ (σ (1, 26) j)))), (0, .ref (G.1 (.inr (0, 0)))), (1, .int 6)]) hx hb dX11_count_109 hl (k := 1) rfl (nI_1 _) (by decide) rfl (fun ls hl => ?_)
        refine lv_goto (tgt := 88) hx hb dX11_count_112 (by decide) ?_
        have EB_4 : (B_m_c6 σ) j sum = sum + (F_m_dutyOn σ (σ (1, 26) j)) := by simp only [B_m_c6]
        exact ih (j + 1) (sum + (F_m_dutyOn σ (σ (1, 26) j))) _ _ _ QQ (by omega) hH hS (lv_sub hl [0, 1, 2, 3] rfl) (fun H locs ls hH hS hl => kk H locs ls hH hS (by rw [hk_it_s, EB_4]; exact hl))
    refine LP_1 ((F_m_led σ).toNatClampNeg) 0 0 _ _ _ _ (by omega) hH hS (lv_sub hl [0, 1, 2, 3] rfl) (fun H locs ls hH hS hl => ?_)
    refine lv_iload_n hx hb dX11_count_115 rfl (lv_at hl 1 rfl) ?_
    exact hk_iret hx hb hr hlocks hH hS ⟨(by simp [F_m_count]), rfl, rfl⟩ dX11_count_116
  · refine lv_tableIn (x := 7) (tgt := 117) hx hb dX11_count_3 (by decide) (by decide) rfl (by decide) ?_
    refine lv_iconst (v := 0) hx hb dX11_count_117 (by decide) ?_
    refine lv_istore_n (lv' := [(3, .int 0), (2, .int 0), (0, .ref (G.1 (.inr (0, 0)))), (1, .int 7)]) hx hb dX11_count_118 rfl hl (by decide) rfl (fun ls hl => ?_)
    have LP_5 : ∀ (r j : Nat) (sum : Int32) (H : Heap) (locs : List Loc) (ls : Array Slot) (QQ : State → Prop), j + r = Z.1 0 → hk_H D G (hk_cm τ σ) H → va_S (hk_A D) s.heap H locs → lv_has ls 4 [(3, .int (nI j)), (2, .int sum), (0, .ref (G.1 (.inr (0, 0)))), (1, .int 7)] → (∀ (H : Heap) (locs : List Loc) (ls : Array Slot), hk_H D G (hk_cm τ σ) H → va_S (hk_A D) s.heap H locs → lv_has ls 4 [(3, .int (nI (Z.1 0))), (2, .int (hk_it (B_m_c7 σ) r j sum)), (0, .ref (G.1 (.inr (0, 0)))), (1, .int 7)] → W p l e ({ frames := 1, cells := 0, slots := 0, locals := 23 }) s m ([.ref (G.1 (.inr (0, 0))), .int 7] : List Value).toArray below meth c H locs 0 0 QQ (F0 m 142 ls [])) → W p l e ({ frames := 1, cells := 0, slots := 0, locals := 23 }) s m ([.ref (G.1 (.inr (0, 0))), .int 7] : List Value).toArray below meth c H locs 0 0 QQ (F0 m 119 ls []) := by
      intro r
      induction r with
      | zero =>
        intro j sum H locs ls QQ hn_m_c7 hH hS hl kk
        have hz6 := hms.2
        refine lv_iload_n hx hb dX11_count_119 rfl (lv_at hl 0 rfl) ?_
        refine lv_aload_n hx hb dX11_count_120 rfl (lv_at hl 2 rfl) ?_
        refine hk_geti (L := (.inr (0, 0))) (v := σ (0, 0) 2) hx hb ht hown hK hH kc_12 hM.k0 2 (by decide) rfl tw_694 rfl rfl dX11_count_121 ?_
        refine lv_icmp_ge (tgt := 142) hx hb dX11_count_124 (by decide) (fun c_6 => ?_) (fun c_6 => ?_)
        rotate_left
        · exfalso; rw [hms.1.1] at c_6; first | exact nI_ge (by omega) (by omega) c_6 | exact c_6 (nI_le (by omega) (by omega)) | exact nI_nlt (by omega) (by omega) c_6 | exact c_6 (nI_lt (by omega) (by omega))
        have hiN : j = Z.1 0 := by omega
        rw [hiN] at hl
        exact kk H locs ls hH hS (lv_sub hl [0, 1, 2, 3] rfl)
      | succ r ih =>
        intro j sum H locs ls QQ hn_m_c7 hH hS hl kk
        have hz6 := hms.2
        refine lv_iload_n hx hb dX11_count_119 rfl (lv_at hl 0 rfl) ?_
        refine lv_aload_n hx hb dX11_count_120 rfl (lv_at hl 2 rfl) ?_
        refine hk_geti (L := (.inr (0, 0))) (v := σ (0, 0) 2) hx hb ht hown hK hH kc_12 hM.k0 2 (by decide) rfl tw_694 rfl rfl dX11_count_121 ?_
        refine lv_icmp_ge (tgt := 142) hx hb dX11_count_124 (by decide) (fun c_7 => ?_) (fun c_7 => ?_)
        · exfalso; rw [hms.1.1] at c_7; first | exact nI_ge (by omega) (by omega) c_7 | exact c_7 (nI_le (by omega) (by omega)) | exact nI_nlt (by omega) (by omega) c_7 | exact c_7 (nI_lt (by omega) (by omega))
        refine lv_iload_n hx hb dX11_count_127 rfl (lv_at hl 1 rfl) ?_
        refine lv_aload_n hx hb dX11_count_128 rfl (lv_at hl 2 rfl) ?_
        refine hk_getr (L := (.inr (0, 0))) (v := .ref (G.1 (.inr (1, 7)))) hx hb ht hown hK hH kc_12 hM.k0 7 (by decide) rfl tw_699 rfl hM.r7 dX11_count_129 ?_
        refine lv_iload_n hx hb dX11_count_132 rfl (lv_at hl 0 rfl) ?_
        refine hk_ild (L := (.inr (1, 7))) (v := σ (1, 7) j) hx hb hK hH hM.k7 (vp_in_nI (by omega) (by omega)) (by rw [nI_clamp (by omega)]; rfl) dX11_count_133 ?_
        refine lv_iadd hx hb dX11_count_134 ?_
        refine lv_istore_n (lv' := [(2, .int (sum + (σ (1, 7) j))), (3, .int (nI j)), (0, .ref (G.1 (.inr (0, 0)))), (1, .int 7)]) hx hb dX11_count_135 rfl hl (by decide) rfl (fun ls hl => ?_)
        refine lv_iinc (v := nI (j + 1)) (lv' := [(3, .int (nI (j + 1))), (2, .int (sum + (σ (1, 7) j))), (0, .ref (G.1 (.inr (0, 0)))), (1, .int 7)]) hx hb dX11_count_136 hl (k := 1) rfl (nI_1 _) (by decide) rfl (fun ls hl => ?_)
        refine lv_goto (tgt := 119) hx hb dX11_count_139 (by decide) ?_
        have EB_8 : (B_m_c7 σ) j sum = sum + (σ (1, 7) j) := by simp only [B_m_c7]
        exact ih (j + 1) (sum + (σ (1, 7) j)) _ _ _ QQ (by omega) hH hS (lv_sub hl [0, 1, 2, 3] rfl) (fun H locs ls hH hS hl => kk H locs ls hH hS (by rw [hk_it_s, EB_8]; exact hl))
    refine LP_5 (Z.1 0) 0 0 _ _ _ _ (by omega) hH hS (lv_sub hl [0, 1, 2, 3] rfl) (fun H locs ls hH hS hl => ?_)
    refine lv_iload_n hx hb dX11_count_142 rfl (lv_at hl 1 rfl) ?_
    exact hk_iret hx hb hr hlocks hH hS ⟨(by simp [F_m_count]), rfl, rfl⟩ dX11_count_143
  · refine lv_tableIn (x := 8) (tgt := 144) hx hb dX11_count_3 (by decide) (by decide) rfl (by decide) ?_
    refine lv_iconst (v := 0) hx hb dX11_count_144 (by decide) ?_
    refine lv_istore_n (lv' := [(3, .int 0), (2, .int 0), (0, .ref (G.1 (.inr (0, 0)))), (1, .int 8)]) hx hb dX11_count_145 rfl hl (by decide) rfl (fun ls hl => ?_)
    have LP_9 : ∀ (r j : Nat) (sum : Int32) (H : Heap) (locs : List Loc) (ls : Array Slot) (QQ : State → Prop), j + r = Z.1 0 → hk_H D G (hk_cm τ σ) H → va_S (hk_A D) s.heap H locs → lv_has ls 4 [(3, .int (nI j)), (2, .int sum), (0, .ref (G.1 (.inr (0, 0)))), (1, .int 8)] → (∀ (H : Heap) (locs : List Loc) (ls : Array Slot), hk_H D G (hk_cm τ σ) H → va_S (hk_A D) s.heap H locs → lv_has ls 4 [(3, .int (nI (Z.1 0))), (2, .int (hk_it (B_m_c8 nw σ) r j sum)), (0, .ref (G.1 (.inr (0, 0)))), (1, .int 8)] → W p l e ({ frames := 1, cells := 0, slots := 0, locals := 23 }) s m ([.ref (G.1 (.inr (0, 0))), .int 8] : List Value).toArray below meth c H locs 0 0 QQ (F0 m 168 ls [])) → W p l e ({ frames := 1, cells := 0, slots := 0, locals := 23 }) s m ([.ref (G.1 (.inr (0, 0))), .int 8] : List Value).toArray below meth c H locs 0 0 QQ (F0 m 146 ls []) := by
      intro r
      induction r with
      | zero =>
        intro j sum H locs ls QQ hn_m_c8 hH hS hl kk
        have hz6 := hms.2
        refine lv_iload_n hx hb dX11_count_146 rfl (lv_at hl 0 rfl) ?_
        refine lv_aload_n hx hb dX11_count_147 rfl (lv_at hl 2 rfl) ?_
        refine hk_geti (L := (.inr (0, 0))) (v := σ (0, 0) 2) hx hb ht hown hK hH kc_12 hM.k0 2 (by decide) rfl tw_694 rfl rfl dX11_count_148 ?_
        refine lv_icmp_ge (tgt := 168) hx hb dX11_count_151 (by decide) (fun c_10 => ?_) (fun c_10 => ?_)
        rotate_left
        · exfalso; rw [hms.1.1] at c_10; first | exact nI_ge (by omega) (by omega) c_10 | exact c_10 (nI_le (by omega) (by omega)) | exact nI_nlt (by omega) (by omega) c_10 | exact c_10 (nI_lt (by omega) (by omega))
        have hiN : j = Z.1 0 := by omega
        rw [hiN] at hl
        exact kk H locs ls hH hS (lv_sub hl [0, 1, 2, 3] rfl)
      | succ r ih =>
        intro j sum H locs ls QQ hn_m_c8 hH hS hl kk
        have hz6 := hms.2
        refine lv_iload_n hx hb dX11_count_146 rfl (lv_at hl 0 rfl) ?_
        refine lv_aload_n hx hb dX11_count_147 rfl (lv_at hl 2 rfl) ?_
        refine hk_geti (L := (.inr (0, 0))) (v := σ (0, 0) 2) hx hb ht hown hK hH kc_12 hM.k0 2 (by decide) rfl tw_694 rfl rfl dX11_count_148 ?_
        refine lv_icmp_ge (tgt := 168) hx hb dX11_count_151 (by decide) (fun c_11 => ?_) (fun c_11 => ?_)
        · exfalso; rw [hms.1.1] at c_11; first | exact nI_ge (by omega) (by omega) c_11 | exact c_11 (nI_le (by omega) (by omega)) | exact nI_nlt (by omega) (by omega) c_11 | exact c_11 (nI_lt (by omega) (by omega))
        refine lv_iload_n hx hb dX11_count_154 rfl (lv_at hl 1 rfl) ?_
        refine lv_aload_n hx hb dX11_count_155 rfl (lv_at hl 2 rfl) ?_
        refine lv_iload_n hx hb dX11_count_156 rfl (lv_at hl 0 rfl) ?_
        refine hk_cV (L := (.inr (0, 0))) (As := [.int (nI j)]) (rest := [.int sum]) hx hb hml hl.1 ht hown hK hH hS (c_m_greenOf l D G Z τ σ nw (nI j) hM hnow hnw (vp_in_nI (by omega) (by omega))) ymV_X11_greenOf kc_12 hM.k0 tw_892 ⟨rfl, rfl⟩ ⟨Nat.le_of_ble_eq_true rfl, Nat.le_of_ble_eq_true rfl⟩ rfl rfl (Nat.le_of_ble_eq_true rfl) dX11_count_157 ⟨Nat.le_of_ble_eq_true rfl, Nat.le_of_ble_eq_true rfl⟩ (hk_ea (fun H locs hH hS => ?_))
        refine lv_iadd hx hb dX11_count_160 ?_
        refine lv_istore_n (lv' := [(2, .int (sum + (F_m_greenOf σ nw (nI j)))), (3, .int (nI j)), (0, .ref (G.1 (.inr (0, 0)))), (1, .int 8)]) hx hb dX11_count_161 rfl hl (by decide) rfl (fun ls hl => ?_)
        refine lv_iinc (v := nI (j + 1)) (lv' := [(3, .int (nI (j + 1))), (2, .int (sum + (F_m_greenOf σ nw (nI j)))), (0, .ref (G.1 (.inr (0, 0)))), (1, .int 8)]) hx hb dX11_count_162 hl (k := 1) rfl (nI_1 _) (by decide) rfl (fun ls hl => ?_)
        refine lv_goto (tgt := 146) hx hb dX11_count_165 (by decide) ?_
        have EB_12 : (B_m_c8 nw σ) j sum = sum + (F_m_greenOf σ nw (nI j)) := by simp only [B_m_c8]
        exact ih (j + 1) (sum + (F_m_greenOf σ nw (nI j))) _ _ _ QQ (by omega) hH hS (lv_sub hl [0, 1, 2, 3] rfl) (fun H locs ls hH hS hl => kk H locs ls hH hS (by rw [hk_it_s, EB_12]; exact hl))
    refine LP_9 (Z.1 0) 0 0 _ _ _ _ (by omega) hH hS (lv_sub hl [0, 1, 2, 3] rfl) (fun H locs ls hH hS hl => ?_)
    refine lv_iload_n hx hb dX11_count_168 rfl (lv_at hl 1 rfl) ?_
    exact hk_iret hx hb hr hlocks hH hS ⟨(by simp [F_m_count]), rfl, rfl⟩ dX11_count_169
  · refine lv_tableIn (x := 9) (tgt := 170) hx hb dX11_count_3 (by decide) (by decide) rfl (by decide) ?_
    refine lv_iconst (v := 0) hx hb dX11_count_170 (by decide) ?_
    refine lv_istore_n (lv' := [(3, .int 0), (2, .int 0), (0, .ref (G.1 (.inr (0, 0)))), (1, .int 9)]) hx hb dX11_count_171 rfl hl (by decide) rfl (fun ls hl => ?_)
    have LP_13 : ∀ (r j : Nat) (sum : Int32) (H : Heap) (locs : List Loc) (ls : Array Slot) (QQ : State → Prop), j + r = Z.1 1 → hk_H D G (hk_cm τ σ) H → va_S (hk_A D) s.heap H locs → lv_has ls 4 [(3, .int (nI j)), (2, .int sum), (0, .ref (G.1 (.inr (0, 0)))), (1, .int 9)] → (∀ (H : Heap) (locs : List Loc) (ls : Array Slot), hk_H D G (hk_cm τ σ) H → va_S (hk_A D) s.heap H locs → lv_has ls 4 [(3, .int (nI (Z.1 1))), (2, .int (hk_it (B_m_c9 σ) r j sum)), (0, .ref (G.1 (.inr (0, 0)))), (1, .int 9)] → W p l e ({ frames := 1, cells := 0, slots := 0, locals := 23 }) s m ([.ref (G.1 (.inr (0, 0))), .int 9] : List Value).toArray below meth c H locs 0 0 QQ (F0 m 195 ls [])) → W p l e ({ frames := 1, cells := 0, slots := 0, locals := 23 }) s m ([.ref (G.1 (.inr (0, 0))), .int 9] : List Value).toArray below meth c H locs 0 0 QQ (F0 m 172 ls []) := by
      intro r
      induction r with
      | zero =>
        intro j sum H locs ls QQ hn_m_c9 hH hS hl kk
        have hz6 := hms.2
        refine lv_iload_n hx hb dX11_count_172 rfl (lv_at hl 0 rfl) ?_
        refine lv_aload_n hx hb dX11_count_173 rfl (lv_at hl 2 rfl) ?_
        refine hk_geti (L := (.inr (0, 0))) (v := σ (0, 0) 9) hx hb ht hown hK hH kc_12 hM.k0 9 (by decide) rfl tw_701 rfl rfl dX11_count_174 ?_
        refine lv_icmp_ge (tgt := 195) hx hb dX11_count_177 (by decide) (fun c_14 => ?_) (fun c_14 => ?_)
        rotate_left
        · exfalso; rw [hms.1.2.1] at c_14; first | exact nI_ge (by omega) (by omega) c_14 | exact c_14 (nI_le (by omega) (by omega)) | exact nI_nlt (by omega) (by omega) c_14 | exact c_14 (nI_lt (by omega) (by omega))
        have hiN : j = Z.1 1 := by omega
        rw [hiN] at hl
        exact kk H locs ls hH hS (lv_sub hl [0, 1, 2, 3] rfl)
      | succ r ih =>
        intro j sum H locs ls QQ hn_m_c9 hH hS hl kk
        have hz6 := hms.2
        refine lv_iload_n hx hb dX11_count_172 rfl (lv_at hl 0 rfl) ?_
        refine lv_aload_n hx hb dX11_count_173 rfl (lv_at hl 2 rfl) ?_
        refine hk_geti (L := (.inr (0, 0))) (v := σ (0, 0) 9) hx hb ht hown hK hH kc_12 hM.k0 9 (by decide) rfl tw_701 rfl rfl dX11_count_174 ?_
        refine lv_icmp_ge (tgt := 195) hx hb dX11_count_177 (by decide) (fun c_15 => ?_) (fun c_15 => ?_)
        · exfalso; rw [hms.1.2.1] at c_15; first | exact nI_ge (by omega) (by omega) c_15 | exact c_15 (nI_le (by omega) (by omega)) | exact nI_nlt (by omega) (by omega) c_15 | exact c_15 (nI_lt (by omega) (by omega))
        refine lv_iload_n hx hb dX11_count_180 rfl (lv_at hl 1 rfl) ?_
        refine lv_aload_n hx hb dX11_count_181 rfl (lv_at hl 2 rfl) ?_
        refine hk_getr (L := (.inr (0, 0))) (v := .ref (G.1 (.inr (1, 15)))) hx hb ht hown hK hH kc_12 hM.k0 15 (by decide) rfl tw_707 rfl hM.r15 dX11_count_182 ?_
        refine lv_iload_n hx hb dX11_count_185 rfl (lv_at hl 0 rfl) ?_
        refine hk_ild (L := (.inr (1, 15))) (v := σ (1, 15) j) hx hb hK hH hM.k15 (vp_in_nI (by omega) (by omega)) (by rw [nI_clamp (by omega)]; rfl) dX11_count_186 ?_
        refine lv_iadd hx hb dX11_count_187 ?_
        refine lv_istore_n (lv' := [(2, .int (sum + (σ (1, 15) j))), (3, .int (nI j)), (0, .ref (G.1 (.inr (0, 0)))), (1, .int 9)]) hx hb dX11_count_188 rfl hl (by decide) rfl (fun ls hl => ?_)
        refine lv_iinc (v := nI (j + 1)) (lv' := [(3, .int (nI (j + 1))), (2, .int (sum + (σ (1, 15) j))), (0, .ref (G.1 (.inr (0, 0)))), (1, .int 9)]) hx hb dX11_count_189 hl (k := 1) rfl (nI_1 _) (by decide) rfl (fun ls hl => ?_)
        refine lv_goto (tgt := 172) hx hb dX11_count_192 (by decide) ?_
        have EB_16 : (B_m_c9 σ) j sum = sum + (σ (1, 15) j) := by simp only [B_m_c9]
        exact ih (j + 1) (sum + (σ (1, 15) j)) _ _ _ QQ (by omega) hH hS (lv_sub hl [0, 1, 2, 3] rfl) (fun H locs ls hH hS hl => kk H locs ls hH hS (by rw [hk_it_s, EB_16]; exact hl))
    refine LP_13 (Z.1 1) 0 0 _ _ _ _ (by omega) hH hS (lv_sub hl [0, 1, 2, 3] rfl) (fun H locs ls hH hS hl => ?_)
    refine lv_iload_n hx hb dX11_count_195 rfl (lv_at hl 1 rfl) ?_
    exact hk_iret hx hb hr hlocks hH hS ⟨(by simp [F_m_count]), rfl, rfl⟩ dX11_count_196
  · refine lv_tableOut (tgt := 197) hx hb dX11_count_3 hsw.1 (by decide) ?_
    refine lv_iconst (v := -1) hx hb dX11_count_197 (by decide) ?_
    exact hk_iret hx hb hr hlocks hH hS ⟨(by simp [F_m_count, hsw]), rfl, rfl⟩ dX11_count_198
