def hk_N (G : hk_G) (Z : hk_Z) : Prop := (∀ i, Z.1 0 ≤ i → G.2.1 (.inl (9, i)) = none) ∧ (∀ i, Z.1 1 ≤ i → G.2.1 (.inl (10, i)) = none) ∧ (∀ i, Z.1 2 ≤ i → G.2.1 (.inl (11, i)) = none) ∧ (∀ i, Z.1 2 ≤ i → G.2.1 (.inl (12, i)) = none) ∧ (∀ i, Z.1 2 ≤ i → G.2.1 (.inl (13, i)) = none) ∧ (∀ i, Z.1 2 ≤ i → G.2.1 (.inl (14, i)) = none) ∧ (Z.1 0 = 0 → G.2.1 (.inl (2, 0)) = none) ∧ (Z.1 1 = 0 → G.2.1 (.inl (2, 1)) = none) ∧ (Z.1 2 = 0 → G.2.1 (.inl (2, 2)) = none)
def hk_W (D : hk_D) (G : hk_G) (Z : hk_Z) (x y : Int64) : Prop := hk_Y D G Z ∧ hk_M G ∧ G.2.2 (.inl (0, 0)) 10 = .long x ∧ G.2.2 (.inr (0, 0)) 35 = .long y ∧ hk_N G Z
def hk_w (D : hk_D) (G : hk_G) (Z : hk_Z) (x y : Int64) (v : Option Value) (iv : hk_V) : Option Value → hk_G → hk_V → Prop := fun v' G' iv' => v = v' ∧ iv = iv' ∧ hk_W D G' Z x y ∧ G'.1 (.inl (0, 0)) = G.1 (.inl (0, 0)) ∧ G'.1 (.inr (0, 0)) = G.1 (.inr (0, 0))
theorem hk_W.tl {D : hk_D} {G : hk_G} {Z : hk_Z} {x y : Int64} (h : hk_W D G Z x y) (v : Int64) : hk_W D (hk_rf G (.inl (0, 0)) 10 (.long v)) Z v y := by
  obtain ⟨h1, h2, h3, h4, h5⟩ := h
  refine ⟨?_, ?_, by simp [hk_rf], by simp [hk_rf, h4], h5⟩
  · simp only [hk_Y] at h1 ⊢
    simpa [hk_rf] using h1
  · simp only [hk_M] at h2 ⊢
    simpa [hk_rf] using h2
theorem hk_W.tr {D : hk_D} {G : hk_G} {Z : hk_Z} {x y : Int64} (h : hk_W D G Z x y) (v : Int64) : hk_W D (hk_rf G (.inr (0, 0)) 35 (.long v)) Z x v := by
  obtain ⟨h1, h2, h3, h4, h5⟩ := h
  refine ⟨?_, ?_, by simp [hk_rf, h3], by simp [hk_rf], h5⟩
  · simp only [hk_Y] at h1 ⊢
    simpa [hk_rf] using h1
  · simp only [hk_M] at h2 ⊢
    simpa [hk_rf] using h2
def F_drying (Z : hk_Z) (τ : hk_v) (k : Int32) (v : Int32) : Int32 := (if hk_in k 0 (τ (1, 2) 2 - 1) = 0 then (-1) else (if (hk_in v 0 100) = 0 then (-1) else hk_dries (Z.2.1 k.toNatClampNeg) k.toNatClampNeg v))
def X_drying (Z : hk_Z) (τ σ : hk_v) (x : Int64) (k : Int32) (v : Int32) : Int64 := (if hk_in k 0 (τ (1, 2) 2 - 1) = 0 then x else (if (hk_in v 0 100) = 0 then x else x + ((hk_marks (Z.2.1 k.toNatClampNeg) k.toNatClampNeg).toInt64)))
set_option maxHeartbeats 4000000 in
set_option maxRecDepth 100000 in
theorem c_drying (l : Launch) (D : hk_D) (G : hk_G) (Z : hk_Z) (τ σ : hk_v) (k : Int32) (v : Int32) (x y : Int64) (hW : hk_W D G Z x y) (hs : hk_sz Z τ) : Met l yX10_drying (hk_ws yX10_drying cX10_drying 4 (some FieldType.int)) ({ frames := 4, cells := 0, slots := 0, locals := 85 }) (hk_P D G (hk_cm τ σ) [.ref (G.1 (.inl (0, 0))), .int k, .int v]) (hk_Q D (hk_w D G Z (X_drying Z τ σ x k v) y (some (.int (F_drying Z τ k v))) (hk_cm τ σ))) 0 0 (hk_A D) := by
  refine hk_met (by decide +kernel) (Nat.le_of_ble_eq_true rfl) (fun p e s m below meth c hx hb hr hml hlocks ht hown hin hK hH hS ls hl => ?_)
  have hG := hW.1
  have hM := hW.2.1
  have hl : lv_has ls 4 [(0, .ref (G.1 (.inl (0, 0)))), (1, .int k), (2, .int v)] := hl
  refine lv_aload_n hx hb dX10_drying_0 rfl (lv_at hl 0 rfl) ?_
  refine lv_iload_n hx hb dX10_drying_1 rfl (lv_at hl 1 rfl) ?_
  by_cases ho_1 : hk_in k 0 (τ (1, 2) 2 - 1) = 0
  · refine hk_cV (L := (.inl (0, 0))) (As := [.int k]) (rest := []) hx hb hml hl.1 ht hown hK hH hS (c_kilnOf_out l D G Z τ σ k hG hs ho_1) ymV_X10_kilnOf kc_11 hG.k0 tw_431 ⟨rfl, rfl⟩ ⟨Nat.le_of_ble_eq_true rfl, Nat.le_of_ble_eq_true rfl⟩ rfl rfl (Nat.le_of_ble_eq_true rfl) dX10_drying_2 ⟨Nat.le_of_ble_eq_true rfl, Nat.le_of_ble_eq_true rfl⟩ (hk_ea (fun H locs hH hS => ?_))
    refine lv_astore_nN (lv' := [(3, .null), (0, .ref (G.1 (.inl (0, 0)))), (1, .int k), (2, .int v)]) hx hb dX10_drying_5 rfl hl (by decide) rfl (fun ls hl => ?_)
    refine lv_aload_nN hx hb dX10_drying_6 rfl (lv_at hl 0 rfl) ?_
    refine lv_ifnullN (tgt := 20) hx hb dX10_drying_7 (by decide) ?_
    refine lv_iconst (v := -1) hx hb dX10_drying_20 (by decide) ?_
    exact hk_iret hx hb hr hlocks hH hS ⟨(by simp only [F_drying, if_pos ho_1]), rfl, (by simp only [X_drying, if_pos ho_1]; exact hW), rfl, rfl⟩ dX10_drying_21
  · refine hk_cV (L := (.inl (0, 0))) (As := [.int k]) (rest := []) hx hb hml hl.1 ht hown hK hH hS (c_kilnOf_in l D G Z τ σ k hG hs ho_1) ymV_X10_kilnOf kc_11 hG.k0 tw_431 ⟨rfl, rfl⟩ ⟨Nat.le_of_ble_eq_true rfl, Nat.le_of_ble_eq_true rfl⟩ rfl rfl (Nat.le_of_ble_eq_true rfl) dX10_drying_2 ⟨Nat.le_of_ble_eq_true rfl, Nat.le_of_ble_eq_true rfl⟩ (hk_ea (fun H locs hH hS => ?_))
    refine lv_astore_n (lv' := [(3, .ref (G.1 (.inl (11, k.toNatClampNeg)))), (0, .ref (G.1 (.inl (0, 0)))), (1, .int k), (2, .int v)]) hx hb dX10_drying_5 rfl hl (by decide) rfl (fun ls hl => ?_)
    refine lv_aload_n hx hb dX10_drying_6 rfl (lv_at hl 0 rfl) ?_
    refine lv_ifnull hx hb dX10_drying_7 ?_
    refine lv_iload_n hx hb dX10_drying_10 rfl (lv_at hl 3 rfl) ?_
    refine lv_iconst (v := 0) hx hb dX10_drying_11 (by decide) ?_
    refine lv_bipush (v := 100) hx hb dX10_drying_12 (by decide) ?_
    refine hk_cS (As := [.int v, .int 0, .int 100]) (rest := []) hx hb hml hl.1 ht hown hK hH hS (c_within l D G τ σ v 0 100) ymS_X10_within tw_206 ⟨rfl, rfl⟩ ⟨Nat.le_of_ble_eq_true rfl, Nat.le_of_ble_eq_true rfl⟩ rfl rfl (Nat.le_of_ble_eq_true rfl) dX10_drying_14 ⟨Nat.le_of_ble_eq_true rfl, Nat.le_of_ble_eq_true rfl⟩ (hk_ea (fun H locs hH hS => ?_))
    refine lv_if_ne (tgt := 22) hx hb dX10_drying_17 (by decide) (fun c_2 => ?_) (fun c_2 => ?_)
    · refine lv_aload_n hx hb dX10_drying_22 rfl (lv_at hl 1 rfl) ?_
      refine lv_dup hx hb dX10_drying_23 rfl ?_
      refine hk_getr (L := (.inl (0, 0))) (v := .long x) hx hb ht hown hK hH kc_11 hG.k0 10 (by decide) rfl tw_178 rfl hW.2.2.1 dX10_drying_24 ?_
      refine lv_aload_n hx hb dX10_drying_27 rfl (lv_at hl 0 rfl) ?_
      refine hk_getr (L := (.inl (11, k.toNatClampNeg))) (v := .ref (G.1 (.inl (12, k.toNatClampNeg)))) hx hb ht hown hK hH kc_7 (hG.k11 k.toNatClampNeg (hk_in_sz hs.1.2.2 (by have := hs.2; omega) ho_1).1) 0 (by decide) rfl tw_396 rfl (hG.r11_0 k.toNatClampNeg (hk_in_sz hs.1.2.2 (by have := hs.2; omega) ho_1).1) dX10_drying_28 ?_
      refine hk_vmarks (i := k.toNatClampNeg) hG (hk_in_sz hs.1.2.2 (by have := hs.2; omega) ho_1).1 hx hb hml hl.1 ht hown hK hH hS tw_439 ⟨Nat.le_of_ble_eq_true rfl, Nat.le_of_ble_eq_true rfl⟩ (Nat.le_of_ble_eq_true rfl) ⟨Nat.zero_le _, Nat.zero_le _⟩ dX10_drying_31 (fun H locs hH hS => ?_)
      refine lv_i2l hx hb dX10_drying_34 rfl ?_
      refine lv_ladd hx hb dX10_drying_35 ?_
      refine hk_putr (L := (.inl (0, 0))) (v := .long (x + ((hk_marks (Z.2.1 k.toNatClampNeg) k.toNatClampNeg).toInt64))) hx hb ht hown hK hH hS kc_11 hG.k0 10 (by decide) rfl tw_178 rfl (Or.inl rfl) rfl rfl dX10_drying_36 (fun H locs hH hS => ?_)
      have hWX := hW.tl (x + ((hk_marks (Z.2.1 k.toNatClampNeg) k.toNatClampNeg).toInt64))
      have hGX := hWX.1
      have hMX := hWX.2.1
      refine lv_aload_n hx hb dX10_drying_39 rfl (lv_at hl 0 rfl) ?_
      refine hk_getr (G := (hk_rf G (.inl (0, 0)) 10 (.long (x + ((hk_marks (Z.2.1 k.toNatClampNeg) k.toNatClampNeg).toInt64))))) (L := (.inl (11, k.toNatClampNeg))) (v := .ref ((hk_rf G (.inl (0, 0)) 10 (.long (x + ((hk_marks (Z.2.1 k.toNatClampNeg) k.toNatClampNeg).toInt64)))).1 (.inl (12, k.toNatClampNeg)))) hx hb ht hown hK hH kc_7 (hGX.k11 k.toNatClampNeg (hk_in_sz hs.1.2.2 (by have := hs.2; omega) ho_1).1) 0 (by decide) rfl tw_396 rfl (hGX.r11_0 k.toNatClampNeg (hk_in_sz hs.1.2.2 (by have := hs.2; omega) ho_1).1) dX10_drying_40 ?_
      refine lv_iload_n hx hb dX10_drying_43 rfl (lv_at hl 3 rfl) ?_
      refine hk_vdries (G := (hk_rf G (.inl (0, 0)) 10 (.long (x + ((hk_marks (Z.2.1 k.toNatClampNeg) k.toNatClampNeg).toInt64))))) (i := k.toNatClampNeg) hGX (hk_in_sz hs.1.2.2 (by have := hs.2; omega) ho_1).1 hx hb hml hl.1 ht hown hK hH hS tw_452 ⟨Nat.le_of_ble_eq_true rfl, Nat.le_of_ble_eq_true rfl⟩ (Nat.le_of_ble_eq_true rfl) ⟨Nat.zero_le _, Nat.zero_le _⟩ dX10_drying_44 (fun H locs hH hS => ?_)
      exact hk_iret hx hb hr hlocks hH hS ⟨(by simp only [F_drying, if_neg ho_1, if_neg c_2]), rfl, (by simp only [X_drying, if_neg ho_1, if_neg c_2]; exact hWX), rfl, rfl⟩ dX10_drying_47
    · refine lv_iconst (v := -1) hx hb dX10_drying_20 (by decide) ?_
      exact hk_iret hx hb hr hlocks hH hS ⟨(by simp only [F_drying, if_neg ho_1, if_pos c_2]), rfl, (by simp only [X_drying, if_neg ho_1, if_pos c_2]; exact hW), rfl, rfl⟩ dX10_drying_21
set_option maxHeartbeats 4000000 in
set_option maxRecDepth 100000 in
theorem c_trace (l : Launch) (D : hk_D) (G : hk_G) (Z : hk_Z) (τ σ : hk_v)  (x y : Int64) (hW : hk_W D G Z x y)  : Met l yX10_trace (hk_ws yX10_trace cX10_trace 1 (some FieldType.long)) ({ frames := 0, cells := 0, slots := 0, locals := 0 }) (hk_P D G (hk_cm τ σ) [.ref (G.1 (.inl (0, 0)))]) (hk_Q D (hk_e G (some (.long x)) (hk_cm τ σ))) 0 0 (hk_A D) := by
  refine hk_met (by decide +kernel) (Nat.le_of_ble_eq_true rfl) (fun p e s m below meth c hx hb hr hml hlocks ht hown hin hK hH hS ls hl => ?_)
  have hG := hW.1
  have hM := hW.2.1
  have hl : lv_has ls 1 [(0, .ref (G.1 (.inl (0, 0))))] := hl
  refine lv_aload_n hx hb dX10_trace_0 rfl (lv_at hl 0 rfl) ?_
  refine hk_getr (L := (.inl (0, 0))) (v := .long x) hx hb ht hown hK hH kc_11 hG.k0 10 (by decide) rfl tw_178 rfl hW.2.2.1 dX10_trace_1 ?_
  exact hk_lret hx hb hr hlocks hH hS ⟨rfl, rfl, rfl⟩ dX10_trace_4
def F_m_drying (σ : hk_v) (k : Int32) (v : Int32) : Int32 := (if (hk_in k 0 (σ (0, 0) 17 - 1)) = 0 then (-1) else (if (hk_in v 0 100) = 0 then (-1) else F_m_dryingBy (σ (1, 18) k.toNatClampNeg) v))
def X_m_drying (Z : hk_Z) (τ σ : hk_v) (y : Int64) (k : Int32) (v : Int32) : Int64 := (if (hk_in k 0 (σ (0, 0) 17 - 1)) = 0 then y else (if (hk_in v 0 100) = 0 then y else (if (σ (1, 18) k.toNatClampNeg) = 0 then y + 1 else (if (σ (1, 18) k.toNatClampNeg) = 1 then y + 11 else y + 111))))
set_option maxHeartbeats 4000000 in
set_option maxRecDepth 100000 in
theorem c_m_drying (l : Launch) (D : hk_D) (G : hk_G) (Z : hk_Z) (τ σ : hk_v) (k : Int32) (v : Int32) (x y : Int64) (hW : hk_W D G Z x y) (hms : hk_mz Z σ) : Met l yX11_drying (hk_ws yX11_drying cX11_drying 3 (some FieldType.int)) ({ frames := 2, cells := 0, slots := 0, locals := 43 }) (hk_P D G (hk_cm τ σ) [.ref (G.1 (.inr (0, 0))), .int k, .int v]) (hk_Q D (hk_w D G Z x (X_m_drying Z τ σ y k v) (some (.int (F_m_drying σ k v))) (hk_cm τ σ))) 0 0 (hk_A D) := by
  refine hk_met (by decide +kernel) (Nat.le_of_ble_eq_true rfl) (fun p e s m below meth c hx hb hr hml hlocks ht hown hin hK hH hS ls hl => ?_)
  have hG := hW.1
  have hM := hW.2.1
  have hl : lv_has ls 3 [(0, .ref (G.1 (.inr (0, 0)))), (1, .int k), (2, .int v)] := hl
  refine lv_aload_n hx hb dX11_drying_0 rfl (lv_at hl 0 rfl) ?_
  refine lv_iload_n hx hb dX11_drying_1 rfl (lv_at hl 1 rfl) ?_
  refine hk_cV (L := (.inr (0, 0))) (As := [.int k]) (rest := []) hx hb hml hl.1 ht hown hK hH hS (c_m_isKiln l D G Z τ σ k hM) ymV_X11_isKiln kc_12 hM.k0 tw_835 ⟨rfl, rfl⟩ ⟨Nat.le_of_ble_eq_true rfl, Nat.le_of_ble_eq_true rfl⟩ rfl rfl (Nat.le_of_ble_eq_true rfl) dX11_drying_2 ⟨Nat.le_of_ble_eq_true rfl, Nat.le_of_ble_eq_true rfl⟩ (hk_ea (fun H locs hH hS => ?_))
  refine lv_if_eq (tgt := 18) hx hb dX11_drying_5 (by decide) (fun c_1 => ?_) (fun c_1 => ?_)
  · refine lv_iconst (v := -1) hx hb dX11_drying_18 (by decide) ?_
    exact hk_iret hx hb hr hlocks hH hS ⟨(by simp only [F_m_drying, if_pos c_1]), rfl, (by simp only [X_m_drying, if_pos c_1]; exact hW), rfl, rfl⟩ dX11_drying_19
  · refine lv_iload_n hx hb dX11_drying_8 rfl (lv_at hl 2 rfl) ?_
    refine lv_iconst (v := 0) hx hb dX11_drying_9 (by decide) ?_
    refine lv_bipush (v := 100) hx hb dX11_drying_10 (by decide) ?_
    refine hk_cS (As := [.int v, .int 0, .int 100]) (rest := []) hx hb hml hl.1 ht hown hK hH hS (c_isIn l D G τ σ v 0 100) ymS_X11_isIn tw_808 ⟨rfl, rfl⟩ ⟨Nat.le_of_ble_eq_true rfl, Nat.le_of_ble_eq_true rfl⟩ rfl rfl (Nat.le_of_ble_eq_true rfl) dX11_drying_12 ⟨Nat.le_of_ble_eq_true rfl, Nat.le_of_ble_eq_true rfl⟩ (hk_ea (fun H locs hH hS => ?_))
    refine lv_if_ne (tgt := 20) hx hb dX11_drying_15 (by decide) (fun c_2 => ?_) (fun c_2 => ?_)
    · refine lv_aload_n hx hb dX11_drying_20 rfl (lv_at hl 0 rfl) ?_
      refine lv_dup hx hb dX11_drying_21 rfl ?_
      refine hk_getr (L := (.inr (0, 0))) (v := .long y) hx hb ht hown hK hH kc_12 hM.k0 35 (by decide) rfl tw_727 rfl hW.2.2.2.1 dX11_drying_22 ?_
      refine lv_aload_n hx hb dX11_drying_25 rfl (lv_at hl 0 rfl) ?_
      refine hk_getr (L := (.inr (0, 0))) (v := .ref (G.1 (.inr (1, 18)))) hx hb ht hown hK hH kc_12 hM.k0 18 (by decide) rfl tw_710 rfl hM.r18 dX11_drying_26 ?_
      refine lv_iload_n hx hb dX11_drying_29 rfl (lv_at hl 1 rfl) ?_
      refine hk_ild (L := (.inr (1, 18))) (v := σ (1, 18) k.toNatClampNeg) hx hb hK hH hM.k18 (hk_min (n := Z.1 2) hms.1.2.2 (by have := hms.2; omega) (by have := hms.2; omega) (by omega) (by assumption)) rfl dX11_drying_30 ?_
      refine lv_if_ne (tgt := 38) hx hb dX11_drying_31 (by decide) (fun c_3 => ?_) (fun c_3 => ?_)
      · refine lv_aload_n hx hb dX11_drying_38 rfl (lv_at hl 0 rfl) ?_
        refine hk_getr (L := (.inr (0, 0))) (v := .ref (G.1 (.inr (1, 18)))) hx hb ht hown hK hH kc_12 hM.k0 18 (by decide) rfl tw_710 rfl hM.r18 dX11_drying_39 ?_
        refine lv_iload_n hx hb dX11_drying_42 rfl (lv_at hl 1 rfl) ?_
        refine hk_ild (L := (.inr (1, 18))) (v := σ (1, 18) k.toNatClampNeg) hx hb hK hH hM.k18 (hk_min (n := Z.1 2) hms.1.2.2 (by have := hms.2; omega) (by have := hms.2; omega) (by omega) (by assumption)) rfl dX11_drying_43 ?_
        refine lv_iconst (v := 1) hx hb dX11_drying_44 (by decide) ?_
        refine lv_icmp_ne (tgt := 54) hx hb dX11_drying_45 (by decide) (fun c_4 => ?_) (fun c_4 => ?_)
        · refine lv_ldc2 (v := 111) hx hb hown (ht _ tw_844) dX11_drying_54 ?_
          refine lv_ladd hx hb dX11_drying_57 ?_
          refine hk_putr (L := (.inr (0, 0))) (v := .long (y + 111)) hx hb ht hown hK hH hS kc_12 hM.k0 35 (by decide) rfl tw_727 rfl (Or.inl rfl) rfl rfl dX11_drying_58 (fun H locs hH hS => ?_)
          have hWX := hW.tr (y + 111)
          have hGX := hWX.1
          have hMX := hWX.2.1
          refine lv_aload_n hx hb dX11_drying_61 rfl (lv_at hl 0 rfl) ?_
          refine hk_getr (G := (hk_rf G (.inr (0, 0)) 35 (.long (y + 111)))) (L := (.inr (0, 0))) (v := .ref ((hk_rf G (.inr (0, 0)) 35 (.long (y + 111))).1 (.inr (1, 18)))) hx hb ht hown hK hH kc_12 hMX.k0 18 (by decide) rfl tw_710 rfl hMX.r18 dX11_drying_62 ?_
          refine lv_iload_n hx hb dX11_drying_65 rfl (lv_at hl 1 rfl) ?_
          refine hk_ild (G := (hk_rf G (.inr (0, 0)) 35 (.long (y + 111)))) (L := (.inr (1, 18))) (v := σ (1, 18) k.toNatClampNeg) hx hb hK hH hMX.k18 (hk_min (n := Z.1 2) hms.1.2.2 (by have := hms.2; omega) (by have := hms.2; omega) (by omega) (by assumption)) rfl dX11_drying_66 ?_
          refine lv_iload_n hx hb dX11_drying_67 rfl (lv_at hl 2 rfl) ?_
          refine hk_cS (G := (hk_rf G (.inr (0, 0)) 35 (.long (y + 111)))) (As := [.int (σ (1, 18) k.toNatClampNeg), .int v]) (rest := []) hx hb hml hl.1 ht hown hK hH hS (c_m_dryingBy l D (hk_rf G (.inr (0, 0)) 35 (.long (y + 111))) τ σ (σ (1, 18) k.toNatClampNeg) v) ymS_X11_dryingBy tw_845 ⟨rfl, rfl⟩ ⟨Nat.le_of_ble_eq_true rfl, Nat.le_of_ble_eq_true rfl⟩ rfl rfl (Nat.le_of_ble_eq_true rfl) dX11_drying_68 ⟨Nat.le_of_ble_eq_true rfl, Nat.le_of_ble_eq_true rfl⟩ (hk_ea (fun H locs hH hS => ?_))
          exact hk_iret hx hb hr hlocks hH hS ⟨(by simp only [F_m_drying, if_neg c_1, if_neg c_2, if_neg c_3, if_neg c_4]), rfl, (by simp only [X_m_drying, if_neg c_1, if_neg c_2, if_neg c_3, if_neg c_4]; exact hWX), rfl, rfl⟩ dX11_drying_71
        · refine lv_ldc2 (v := 11) hx hb hown (ht _ tw_843) dX11_drying_48 ?_
          refine lv_goto (tgt := 57) hx hb dX11_drying_51 (by decide) ?_
          refine lv_ladd hx hb dX11_drying_57 ?_
          refine hk_putr (L := (.inr (0, 0))) (v := .long (y + 11)) hx hb ht hown hK hH hS kc_12 hM.k0 35 (by decide) rfl tw_727 rfl (Or.inl rfl) rfl rfl dX11_drying_58 (fun H locs hH hS => ?_)
          have hWX := hW.tr (y + 11)
          have hGX := hWX.1
          have hMX := hWX.2.1
          refine lv_aload_n hx hb dX11_drying_61 rfl (lv_at hl 0 rfl) ?_
          refine hk_getr (G := (hk_rf G (.inr (0, 0)) 35 (.long (y + 11)))) (L := (.inr (0, 0))) (v := .ref ((hk_rf G (.inr (0, 0)) 35 (.long (y + 11))).1 (.inr (1, 18)))) hx hb ht hown hK hH kc_12 hMX.k0 18 (by decide) rfl tw_710 rfl hMX.r18 dX11_drying_62 ?_
          refine lv_iload_n hx hb dX11_drying_65 rfl (lv_at hl 1 rfl) ?_
          refine hk_ild (G := (hk_rf G (.inr (0, 0)) 35 (.long (y + 11)))) (L := (.inr (1, 18))) (v := σ (1, 18) k.toNatClampNeg) hx hb hK hH hMX.k18 (hk_min (n := Z.1 2) hms.1.2.2 (by have := hms.2; omega) (by have := hms.2; omega) (by omega) (by assumption)) rfl dX11_drying_66 ?_
          refine lv_iload_n hx hb dX11_drying_67 rfl (lv_at hl 2 rfl) ?_
          refine hk_cS (G := (hk_rf G (.inr (0, 0)) 35 (.long (y + 11)))) (As := [.int (σ (1, 18) k.toNatClampNeg), .int v]) (rest := []) hx hb hml hl.1 ht hown hK hH hS (c_m_dryingBy l D (hk_rf G (.inr (0, 0)) 35 (.long (y + 11))) τ σ (σ (1, 18) k.toNatClampNeg) v) ymS_X11_dryingBy tw_845 ⟨rfl, rfl⟩ ⟨Nat.le_of_ble_eq_true rfl, Nat.le_of_ble_eq_true rfl⟩ rfl rfl (Nat.le_of_ble_eq_true rfl) dX11_drying_68 ⟨Nat.le_of_ble_eq_true rfl, Nat.le_of_ble_eq_true rfl⟩ (hk_ea (fun H locs hH hS => ?_))
          exact hk_iret hx hb hr hlocks hH hS ⟨(by simp only [F_m_drying, if_neg c_1, if_neg c_2, if_neg c_3, if_pos c_4]), rfl, (by simp only [X_m_drying, if_neg c_1, if_neg c_2, if_neg c_3, if_pos c_4]; exact hWX), rfl, rfl⟩ dX11_drying_71
      · refine lv_lconst (v := 1) hx hb dX11_drying_34 (by decide) ?_
        refine lv_goto (tgt := 57) hx hb dX11_drying_35 (by decide) ?_
        refine lv_ladd hx hb dX11_drying_57 ?_
        refine hk_putr (L := (.inr (0, 0))) (v := .long (y + 1)) hx hb ht hown hK hH hS kc_12 hM.k0 35 (by decide) rfl tw_727 rfl (Or.inl rfl) rfl rfl dX11_drying_58 (fun H locs hH hS => ?_)
        have hWX := hW.tr (y + 1)
        have hGX := hWX.1
        have hMX := hWX.2.1
        refine lv_aload_n hx hb dX11_drying_61 rfl (lv_at hl 0 rfl) ?_
        refine hk_getr (G := (hk_rf G (.inr (0, 0)) 35 (.long (y + 1)))) (L := (.inr (0, 0))) (v := .ref ((hk_rf G (.inr (0, 0)) 35 (.long (y + 1))).1 (.inr (1, 18)))) hx hb ht hown hK hH kc_12 hMX.k0 18 (by decide) rfl tw_710 rfl hMX.r18 dX11_drying_62 ?_
        refine lv_iload_n hx hb dX11_drying_65 rfl (lv_at hl 1 rfl) ?_
        refine hk_ild (G := (hk_rf G (.inr (0, 0)) 35 (.long (y + 1)))) (L := (.inr (1, 18))) (v := σ (1, 18) k.toNatClampNeg) hx hb hK hH hMX.k18 (hk_min (n := Z.1 2) hms.1.2.2 (by have := hms.2; omega) (by have := hms.2; omega) (by omega) (by assumption)) rfl dX11_drying_66 ?_
        refine lv_iload_n hx hb dX11_drying_67 rfl (lv_at hl 2 rfl) ?_
        refine hk_cS (G := (hk_rf G (.inr (0, 0)) 35 (.long (y + 1)))) (As := [.int (σ (1, 18) k.toNatClampNeg), .int v]) (rest := []) hx hb hml hl.1 ht hown hK hH hS (c_m_dryingBy l D (hk_rf G (.inr (0, 0)) 35 (.long (y + 1))) τ σ (σ (1, 18) k.toNatClampNeg) v) ymS_X11_dryingBy tw_845 ⟨rfl, rfl⟩ ⟨Nat.le_of_ble_eq_true rfl, Nat.le_of_ble_eq_true rfl⟩ rfl rfl (Nat.le_of_ble_eq_true rfl) dX11_drying_68 ⟨Nat.le_of_ble_eq_true rfl, Nat.le_of_ble_eq_true rfl⟩ (hk_ea (fun H locs hH hS => ?_))
        exact hk_iret hx hb hr hlocks hH hS ⟨(by simp only [F_m_drying, if_neg c_1, if_neg c_2, if_pos c_3]), rfl, (by simp only [X_m_drying, if_neg c_1, if_neg c_2, if_pos c_3]; exact hWX), rfl, rfl⟩ dX11_drying_71
    · refine lv_iconst (v := -1) hx hb dX11_drying_18 (by decide) ?_
      exact hk_iret hx hb hr hlocks hH hS ⟨(by simp only [F_m_drying, if_neg c_1, if_pos c_2]), rfl, (by simp only [X_m_drying, if_neg c_1, if_pos c_2]; exact hW), rfl, rfl⟩ dX11_drying_19
set_option maxHeartbeats 4000000 in
set_option maxRecDepth 100000 in
theorem c_m_trace (l : Launch) (D : hk_D) (G : hk_G) (Z : hk_Z) (τ σ : hk_v)  (x y : Int64) (hW : hk_W D G Z x y)  : Met l yX11_trace (hk_ws yX11_trace cX11_trace 1 (some FieldType.long)) ({ frames := 0, cells := 0, slots := 0, locals := 0 }) (hk_P D G (hk_cm τ σ) [.ref (G.1 (.inr (0, 0)))]) (hk_Q D (hk_e G (some (.long y)) (hk_cm τ σ))) 0 0 (hk_A D) := by
  refine hk_met (by decide +kernel) (Nat.le_of_ble_eq_true rfl) (fun p e s m below meth c hx hb hr hml hlocks ht hown hin hK hH hS ls hl => ?_)
  have hG := hW.1
  have hM := hW.2.1
  have hl : lv_has ls 1 [(0, .ref (G.1 (.inr (0, 0))))] := hl
  refine lv_aload_n hx hb dX11_trace_0 rfl (lv_at hl 0 rfl) ?_
  refine hk_getr (L := (.inr (0, 0))) (v := .long y) hx hb ht hown hK hH kc_12 hM.k0 35 (by decide) rfl tw_727 rfl hW.2.2.2.1 dX11_trace_1 ?_
  exact hk_lret hx hb hr hlocks hH hS ⟨rfl, rfl, rfl⟩ dX11_trace_4
