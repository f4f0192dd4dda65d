theorem ymS_X5_place : hk_mS yX5_place cX5_place 2 (some FieldType.int) 2 := ⟨tw_507, tw_506, tw_38, by decide, by decide, by decide +kernel⟩
def T_glay (τ : hk_v) (h : Int32) (g : Int32) (b : Int32) : hk_v := (if (hk_in g 0 5) = 0 then τ else (hk_u (hk_u τ (3, 1) ((F_place h g).toNatClampNeg) ((τ (3, 1) ((F_place h g).toNatClampNeg)) + b)) (3, 0) 1 ((τ (3, 0) 1) + b)))
set_option maxHeartbeats 4000000 in
set_option maxRecDepth 100000 in
theorem c_glay (l : Launch) (D : hk_D) (G : hk_G) (Z : hk_Z) (τ σ : hk_v) (h : Int32) (g : Int32) (b : Int32) (hG : hk_Y D G Z)  : Met l yX5_lay (hk_ws yX5_lay cX5_lay 4 none) ({ frames := 2, cells := 0, slots := 0, locals := 43 }) (hk_P D G (hk_cm τ σ) [.ref (G.1 (.inl (3, 0))), .int h, .int g, .int b]) (hk_Q D (hk_e G (none) (hk_cm (T_glay τ h g b) σ))) 0 0 (hk_A D) := by
  refine hk_met (by decide +kernel) (Nat.le_of_ble_eq_true rfl) (fun p e s m below meth c hx hb hr hml hlocks ht hown hin hK hH hS ls hl => ?_)
  have hl : lv_has ls 4 [(0, .ref (G.1 (.inl (3, 0)))), (1, .int h), (2, .int g), (3, .int b)] := hl
  refine lv_iload_n hx hb dX5_lay_0 rfl (lv_at hl 2 rfl) ?_
  refine lv_iconst (v := 0) hx hb dX5_lay_1 (by decide) ?_
  refine lv_iconst (v := 5) hx hb dX5_lay_2 (by decide) ?_
  refine hk_cSN (As := [.int g, .int 0, .int 5]) (rest := []) hx hb hml hl.1 ht hown hK hH hS (c_within l D G τ σ g 0 5) ymS_X10_within (List.mem_filter.mpr ⟨tw_504, rfl⟩) ⟨rfl, rfl⟩ ⟨Nat.le_of_ble_eq_true rfl, Nat.le_of_ble_eq_true rfl⟩ rfl rfl (Nat.le_of_ble_eq_true rfl) dX5_lay_3 ⟨Nat.le_of_ble_eq_true rfl, Nat.le_of_ble_eq_true rfl⟩ (hk_ea (fun H locs hH hS => ?_))
  refine lv_if_ne (tgt := 10) hx hb dX5_lay_6 (by decide) (fun c_1 => ?_) (fun c_1 => ?_)
  · refine lv_aload_n hx hb dX5_lay_10 rfl (lv_at hl 0 rfl) ?_
    refine hk_getr (L := (.inl (3, 0))) (v := .ref (G.1 (.inl (3, 1)))) hx hb ht hown hK hH kc_6 hG.k3_0 0 (by decide) rfl tw_95 rfl hG.r3 dX5_lay_11 ?_
    refine lv_iload_n hx hb dX5_lay_14 rfl (lv_at hl 1 rfl) ?_
    refine lv_iload_n hx hb dX5_lay_15 rfl (lv_at hl 2 rfl) ?_
    refine hk_cS (As := [.int h, .int g]) (rest := [.ref (G.1 (.inl (3, 1)))]) hx hb hml hl.1 ht hown hK hH hS (c_place l D G τ σ h g) ymS_X5_place tw_505 ⟨rfl, rfl⟩ ⟨Nat.le_of_ble_eq_true rfl, Nat.le_of_ble_eq_true rfl⟩ rfl rfl (Nat.le_of_ble_eq_true rfl) dX5_lay_16 ⟨Nat.le_of_ble_eq_true rfl, Nat.le_of_ble_eq_true rfl⟩ (hk_ea (fun H locs hH hS => ?_))
    refine lv_dup2_11 hx hb dX5_lay_19 rfl rfl ?_
    refine hk_ild (L := (.inl (3, 1))) (v := τ (3, 1) ((F_place h g).toNatClampNeg)) hx hb hK hH hG.k3_1 (hk_place_in c_1) rfl dX5_lay_20 ?_
    refine lv_iload_n hx hb dX5_lay_21 rfl (lv_at hl 3 rfl) ?_
    refine lv_iadd hx hb dX5_lay_22 ?_
    refine hk_ist (L := (.inl (3, 1))) hx hb hK hH hS hG.k3_1 (hk_place_in c_1) dX5_lay_23 (fun H locs hH hS => ?_)
    rw [hk_up_l] at hH
    refine lv_aload_n hx hb dX5_lay_24 rfl (lv_at hl 0 rfl) ?_
    refine lv_dup hx hb dX5_lay_25 rfl ?_
    refine hk_geti (L := (.inl (3, 0))) (v := τ (3, 0) 1) hx hb ht hown hK hH kc_6 hG.k3_0 1 (by decide) rfl tw_96 rfl (by simp [hk_cm, hk_u_ap]) dX5_lay_26 ?_
    refine lv_iload_n hx hb dX5_lay_29 rfl (lv_at hl 3 rfl) ?_
    refine lv_iadd hx hb dX5_lay_30 ?_
    refine hk_puti (L := (.inl (3, 0))) hx hb ht hown hK hH hS kc_6 hG.k3_0 1 (by decide) rfl tw_96 rfl (Or.inl rfl) rfl dX5_lay_31 (fun H locs hH hS => ?_)
    rw [hk_up_l] at hH
    exact hk_vret hx hb hr hlocks hH hS ⟨rfl, rfl, (by simp only [T_glay, if_neg c_1])⟩ dX5_lay_34
  · exact hk_vret hx hb hr hlocks hH hS ⟨rfl, rfl, (by simp only [T_glay, if_pos c_1])⟩ dX5_lay_9
def F_give (τ : hk_v) (h : Int32) (g : Int32) (b : Int32) : Int32 := (if (hk_in g 0 5) = 0 then 0 else if b < (τ (3, 1) ((F_place h g).toNatClampNeg)) then b else (τ (3, 1) ((F_place h g).toNatClampNeg)))
def T_give (τ : hk_v) (h : Int32) (g : Int32) (b : Int32) : hk_v := (if (hk_in g 0 5) = 0 then τ else (hk_u (hk_u τ (3, 1) ((F_place h g).toNatClampNeg) ((τ (3, 1) ((F_place h g).toNatClampNeg)) - (if b < (τ (3, 1) ((F_place h g).toNatClampNeg)) then b else (τ (3, 1) ((F_place h g).toNatClampNeg))))) (3, 0) 1 ((τ (3, 0) 1) - (if b < (τ (3, 1) ((F_place h g).toNatClampNeg)) then b else (τ (3, 1) ((F_place h g).toNatClampNeg))))))
set_option maxHeartbeats 4000000 in
set_option maxRecDepth 100000 in
theorem c_give (l : Launch) (D : hk_D) (G : hk_G) (Z : hk_Z) (τ σ : hk_v) (h : Int32) (g : Int32) (b : Int32) (hG : hk_Y D G Z)  : Met l yX5_give (hk_ws yX5_give cX5_give 6 (some FieldType.int)) ({ frames := 2, cells := 0, slots := 0, locals := 43 }) (hk_P D G (hk_cm τ σ) [.ref (G.1 (.inl (3, 0))), .int h, .int g, .int b]) (hk_Q D (hk_e G (some (.int (F_give τ h g b))) (hk_cm (T_give τ h g b) σ))) 0 0 (hk_A D) := by
  refine hk_met (by decide +kernel) (Nat.le_of_ble_eq_true rfl) (fun p e s m below meth c hx hb hr hml hlocks ht hown hin hK hH hS ls hl => ?_)
  have hl : lv_has ls 6 [(0, .ref (G.1 (.inl (3, 0)))), (1, .int h), (2, .int g), (3, .int b)] := hl
  refine lv_iload_n hx hb dX5_give_0 rfl (lv_at hl 2 rfl) ?_
  refine lv_iconst (v := 0) hx hb dX5_give_1 (by decide) ?_
  refine lv_iconst (v := 5) hx hb dX5_give_2 (by decide) ?_
  refine hk_cSN (As := [.int g, .int 0, .int 5]) (rest := []) hx hb hml hl.1 ht hown hK hH hS (c_within l D G τ σ g 0 5) ymS_X10_within (List.mem_filter.mpr ⟨tw_504, rfl⟩) ⟨rfl, rfl⟩ ⟨Nat.le_of_ble_eq_true rfl, Nat.le_of_ble_eq_true rfl⟩ rfl rfl (Nat.le_of_ble_eq_true rfl) dX5_give_3 ⟨Nat.le_of_ble_eq_true rfl, Nat.le_of_ble_eq_true rfl⟩ (hk_ea (fun H locs hH hS => ?_))
  refine lv_if_ne (tgt := 11) hx hb dX5_give_6 (by decide) (fun c_1 => ?_) (fun c_1 => ?_)
  · refine lv_iload_n hx hb dX5_give_11 rfl (lv_at hl 1 rfl) ?_
    refine lv_iload_n hx hb dX5_give_12 rfl (lv_at hl 2 rfl) ?_
    refine hk_cS (As := [.int h, .int g]) (rest := []) hx hb hml hl.1 ht hown hK hH hS (c_place l D G τ σ h g) ymS_X5_place tw_505 ⟨rfl, rfl⟩ ⟨Nat.le_of_ble_eq_true rfl, Nat.le_of_ble_eq_true rfl⟩ rfl rfl (Nat.le_of_ble_eq_true rfl) dX5_give_13 ⟨Nat.le_of_ble_eq_true rfl, Nat.le_of_ble_eq_true rfl⟩ (hk_ea (fun H locs hH hS => ?_))
    refine lv_istore (lv' := [(4, .int (F_place h g)), (0, .ref (G.1 (.inl (3, 0)))), (1, .int h), (2, .int g), (3, .int b)]) hx hb dX5_give_16 hl (by decide) rfl (fun ls hl => ?_)
    refine lv_aload_n hx hb dX5_give_18 rfl (lv_at hl 1 rfl) ?_
    refine hk_getr (L := (.inl (3, 0))) (v := .ref (G.1 (.inl (3, 1)))) hx hb ht hown hK hH kc_6 hG.k3_0 0 (by decide) rfl tw_95 rfl hG.r3 dX5_give_19 ?_
    refine lv_iload hx hb dX5_give_22 (lv_at hl 0 rfl) ?_
    refine hk_ild (L := (.inl (3, 1))) (v := τ (3, 1) ((F_place h g).toNatClampNeg)) hx hb hK hH hG.k3_1 (hk_place_in c_1) rfl dX5_give_24 ?_
    refine lv_iload_n hx hb dX5_give_25 rfl (lv_at hl 4 rfl) ?_
    refine va_mmin hx hb (hml.trans hl.1.symm) hown (ht _ tw_543) (ht _ tw_293) (ht _ tw_45) (ht _ tw_294) (Nat.le_of_ble_eq_true rfl) (Nat.le_of_ble_eq_true rfl) (Nat.zero_le _) (Nat.zero_le _) dX5_give_26 ?_
    refine lv_istore (lv' := [(5, .int (if b < (τ (3, 1) ((F_place h g).toNatClampNeg)) then b else (τ (3, 1) ((F_place h g).toNatClampNeg)))), (4, .int (F_place h g)), (0, .ref (G.1 (.inl (3, 0)))), (1, .int h), (2, .int g), (3, .int b)]) hx hb dX5_give_29 hl (by decide) rfl (fun ls hl => ?_)
    refine lv_aload_n hx hb dX5_give_31 rfl (lv_at hl 2 rfl) ?_
    refine hk_getr (L := (.inl (3, 0))) (v := .ref (G.1 (.inl (3, 1)))) hx hb ht hown hK hH kc_6 hG.k3_0 0 (by decide) rfl tw_95 rfl hG.r3 dX5_give_32 ?_
    refine lv_iload hx hb dX5_give_35 (lv_at hl 1 rfl) ?_
    refine lv_dup2_11 hx hb dX5_give_37 rfl rfl ?_
    refine hk_ild (L := (.inl (3, 1))) (v := τ (3, 1) ((F_place h g).toNatClampNeg)) hx hb hK hH hG.k3_1 (hk_place_in c_1) rfl dX5_give_38 ?_
    refine lv_iload hx hb dX5_give_39 (lv_at hl 0 rfl) ?_
    refine lv_isub hx hb dX5_give_41 ?_
    refine hk_ist (L := (.inl (3, 1))) hx hb hK hH hS hG.k3_1 (hk_place_in c_1) dX5_give_42 (fun H locs hH hS => ?_)
    rw [hk_up_l] at hH
    refine lv_aload_n hx hb dX5_give_43 rfl (lv_at hl 2 rfl) ?_
    refine lv_dup hx hb dX5_give_44 rfl ?_
    refine hk_geti (L := (.inl (3, 0))) (v := τ (3, 0) 1) hx hb ht hown hK hH kc_6 hG.k3_0 1 (by decide) rfl tw_96 rfl (by simp [hk_cm, hk_u_ap]) dX5_give_45 ?_
    refine lv_iload hx hb dX5_give_48 (lv_at hl 0 rfl) ?_
    refine lv_isub hx hb dX5_give_50 ?_
    refine hk_puti (L := (.inl (3, 0))) hx hb ht hown hK hH hS kc_6 hG.k3_0 1 (by decide) rfl tw_96 rfl (Or.inl rfl) rfl dX5_give_51 (fun H locs hH hS => ?_)
    rw [hk_up_l] at hH
    refine lv_iload hx hb dX5_give_54 (lv_at hl 0 rfl) ?_
    exact hk_iret hx hb hr hlocks hH hS ⟨(by simp only [F_give, if_neg c_1]), rfl, (by simp only [T_give, if_neg c_1])⟩ dX5_give_56
  · refine lv_iconst (v := 0) hx hb dX5_give_9 (by decide) ?_
    exact hk_iret hx hb hr hlocks hH hS ⟨(by simp only [F_give, if_pos c_1]), rfl, (by simp only [T_give, if_pos c_1])⟩ dX5_give_10
def B_ofHour (h : Int32) (τ : hk_v) (j : Nat) (sum : Int32) : Int32 := sum + (τ (3, 1) ((F_place h (nI j)).toNatClampNeg))
def F_ofHour (τ : hk_v) (h : Int32) : Int32 := (hk_it (B_ofHour h τ) 6 0 0)
set_option maxHeartbeats 4000000 in
set_option maxRecDepth 100000 in
theorem c_ofHour (l : Launch) (D : hk_D) (G : hk_G) (Z : hk_Z) (τ σ : hk_v) (h : Int32) (hG : hk_Y D G Z)  : Met l yX5_ofHour (hk_ws yX5_ofHour cX5_ofHour 4 (some FieldType.int)) ({ frames := 2, cells := 0, slots := 0, locals := 43 }) (hk_P D G (hk_cm τ σ) [.ref (G.1 (.inl (3, 0))), .int h]) (hk_Q D (hk_e G (some (.int (F_ofHour τ h))) (hk_cm τ σ))) 0 0 (hk_A D) := by
  refine hk_met (by decide +kernel) (Nat.le_of_ble_eq_true rfl) (fun p e s m below meth c hx hb hr hml hlocks ht hown hin hK hH hS ls hl => ?_)
  have hl : lv_has ls 4 [(0, .ref (G.1 (.inl (3, 0)))), (1, .int h)] := hl
  refine lv_iconst (v := 0) hx hb dX5_ofHour_0 (by decide) ?_
  refine lv_istore_n (lv' := [(2, .int 0), (0, .ref (G.1 (.inl (3, 0)))), (1, .int h)]) hx hb dX5_ofHour_1 rfl hl (by decide) rfl (fun ls hl => ?_)
  refine lv_iconst (v := 0) hx hb dX5_ofHour_2 (by decide) ?_
  refine lv_istore_n (lv' := [(3, .int 0), (2, .int 0), (0, .ref (G.1 (.inl (3, 0)))), (1, .int h)]) hx hb dX5_ofHour_3 rfl hl (by decide) rfl (fun ls hl => ?_)
  have LP_1 : ∀ (r j : Nat) (sum : Int32) (H : Heap) (locs : List Loc) (ls : Array Slot) (QQ : State → Prop), j + r = 6 → hk_H D G (hk_cm τ σ) H → va_S (hk_A D) s.heap H locs → lv_has ls 4 [(3, .int (nI j)), (2, .int sum), (0, .ref (G.1 (.inl (3, 0)))), (1, .int h)] → (∀ (H : Heap) (locs : List Loc) (ls : Array Slot), hk_H D G (hk_cm τ σ) H → va_S (hk_A D) s.heap H locs → lv_has ls 4 [(3, .int (nI 6)), (2, .int (hk_it (B_ofHour h τ) r j sum)), (0, .ref (G.1 (.inl (3, 0)))), (1, .int h)] → W p l e ({ frames := 2, cells := 0, slots := 0, locals := 43 }) s m ([.ref (G.1 (.inl (3, 0))), .int h] : List Value).toArray below meth c H locs 0 0 QQ (F0 m 29 ls [])) → W p l e ({ frames := 2, cells := 0, slots := 0, locals := 43 }) s m ([.ref (G.1 (.inl (3, 0))), .int h] : List Value).toArray below meth c H locs 0 0 QQ (F0 m 4 ls []) := by
    intro r
    induction r with
    | zero =>
      intro j sum H locs ls QQ hn_ofHour hH hS hl kk
      refine lv_iload_n hx hb dX5_ofHour_4 rfl (lv_at hl 0 rfl) ?_
      refine lv_bipush (v := 6) hx hb dX5_ofHour_5 (by decide) ?_
      refine lv_icmp_ge (tgt := 29) hx hb dX5_ofHour_7 (by decide) (fun c_2 => ?_) (fun c_2 => ?_)
      rotate_left
      · exfalso; rw [show (6 : Int32) = nI 6 from rfl] at c_2; first | exact nI_ge (by omega) (by omega) c_2 | exact c_2 (nI_le (by omega) (by omega)) | exact nI_nlt (by omega) (by omega) c_2 | exact c_2 (nI_lt (by omega) (by omega))
      have hiN : j = 6 := by omega
      rw [hiN] at hl
      exact kk H locs ls hH hS (lv_sub hl [0, 1, 2, 3] rfl)
    | succ r ih =>
      intro j sum H locs ls QQ hn_ofHour hH hS hl kk
      refine lv_iload_n hx hb dX5_ofHour_4 rfl (lv_at hl 0 rfl) ?_
      refine lv_bipush (v := 6) hx hb dX5_ofHour_5 (by decide) ?_
      refine lv_icmp_ge (tgt := 29) hx hb dX5_ofHour_7 (by decide) (fun c_3 => ?_) (fun c_3 => ?_)
      · exfalso; rw [show (6 : Int32) = nI 6 from rfl] at c_3; first | exact nI_ge (by omega) (by omega) c_3 | exact c_3 (nI_le (by omega) (by omega)) | exact nI_nlt (by omega) (by omega) c_3 | exact c_3 (nI_lt (by omega) (by omega))
      refine lv_iload_n hx hb dX5_ofHour_10 rfl (lv_at hl 1 rfl) ?_
      refine lv_aload_n hx hb dX5_ofHour_11 rfl (lv_at hl 2 rfl) ?_
      refine hk_getr (L := (.inl (3, 0))) (v := .ref (G.1 (.inl (3, 1)))) hx hb ht hown hK hH kc_6 hG.k3_0 0 (by decide) rfl tw_95 rfl hG.r3 dX5_ofHour_12 ?_
      refine lv_iload_n hx hb dX5_ofHour_15 rfl (lv_at hl 3 rfl) ?_
      refine lv_iload_n hx hb dX5_ofHour_16 rfl (lv_at hl 0 rfl) ?_
      refine hk_cS (As := [.int h, .int (nI j)]) (rest := [.ref (G.1 (.inl (3, 1))), .int sum]) hx hb hml hl.1 ht hown hK hH hS (c_place l D G τ σ h (nI j)) ymS_X5_place tw_505 ⟨rfl, rfl⟩ ⟨Nat.le_of_ble_eq_true rfl, Nat.le_of_ble_eq_true rfl⟩ rfl rfl (Nat.le_of_ble_eq_true rfl) dX5_ofHour_17 ⟨Nat.le_of_ble_eq_true rfl, Nat.le_of_ble_eq_true rfl⟩ (hk_ea (fun H locs hH hS => ?_))
      refine hk_ild (L := (.inl (3, 1))) (v := τ (3, 1) ((F_place h (nI j)).toNatClampNeg)) hx hb hK hH hG.k3_1 (hk_place_j _ (by omega)) rfl dX5_ofHour_20 ?_
      refine lv_iadd hx hb dX5_ofHour_21 ?_
      refine lv_istore_n (lv' := [(2, .int (sum + (τ (3, 1) ((F_place h (nI j)).toNatClampNeg)))), (3, .int (nI j)), (0, .ref (G.1 (.inl (3, 0)))), (1, .int h)]) hx hb dX5_ofHour_22 rfl hl (by decide) rfl (fun ls hl => ?_)
      refine lv_iinc (v := nI (j + 1)) (lv' := [(3, .int (nI (j + 1))), (2, .int (sum + (τ (3, 1) ((F_place h (nI j)).toNatClampNeg)))), (0, .ref (G.1 (.inl (3, 0)))), (1, .int h)]) hx hb dX5_ofHour_23 hl (k := 1) rfl (nI_1 _) (by decide) rfl (fun ls hl => ?_)
      refine lv_goto (tgt := 4) hx hb dX5_ofHour_26 (by decide) ?_
      have EB_4 : (B_ofHour h τ) j sum = sum + (τ (3, 1) ((F_place h (nI j)).toNatClampNeg)) := by simp only [B_ofHour]
      exact ih (j + 1) (sum + (τ (3, 1) ((F_place h (nI j)).toNatClampNeg))) _ _ _ QQ (by omega) hH hS (lv_sub hl [0, 1, 2, 3] rfl) (fun H locs ls hH hS hl => kk H locs ls hH hS (by rw [hk_it_s, EB_4]; exact hl))
  refine LP_1 6 0 0 _ _ _ _ (by omega) hH hS (lv_sub hl [0, 1, 2, 3] rfl) (fun H locs ls hH hS hl => ?_)
  refine lv_iload_n hx hb dX5_ofHour_29 rfl (lv_at hl 1 rfl) ?_
  exact hk_iret hx hb hr hlocks hH hS ⟨(by simp only [F_ofHour]), rfl, rfl⟩ dX5_ofHour_30
def B_gofGarden (g : Int32) (τ : hk_v) (j : Nat) (sum : Int32) : Int32 := sum + (τ (3, 1) ((F_place (nI j) g).toNatClampNeg))
def F_gofGarden (τ : hk_v) (g : Int32) : Int32 := (if (hk_in g 0 5) = 0 then 0 else (hk_it (B_gofGarden g τ) 25 0 0))
set_option maxHeartbeats 4000000 in
set_option maxRecDepth 100000 in
theorem c_gofGarden (l : Launch) (D : hk_D) (G : hk_G) (Z : hk_Z) (τ σ : hk_v) (g : Int32) (hG : hk_Y D G Z)  : Met l yX5_ofGarden (hk_ws yX5_ofGarden cX5_ofGarden 4 (some FieldType.int)) ({ frames := 2, cells := 0, slots := 0, locals := 43 }) (hk_P D G (hk_cm τ σ) [.ref (G.1 (.inl (3, 0))), .int g]) (hk_Q D (hk_e G (some (.int (F_gofGarden τ g))) (hk_cm τ σ))) 0 0 (hk_A D) := by
  refine hk_met (by decide +kernel) (Nat.le_of_ble_eq_true rfl) (fun p e s m below meth c hx hb hr hml hlocks ht hown hin hK hH hS ls hl => ?_)
  have hl : lv_has ls 4 [(0, .ref (G.1 (.inl (3, 0)))), (1, .int g)] := hl
  refine lv_iload_n hx hb dX5_ofGarden_0 rfl (lv_at hl 1 rfl) ?_
  refine lv_iconst (v := 0) hx hb dX5_ofGarden_1 (by decide) ?_
  refine lv_iconst (v := 5) hx hb dX5_ofGarden_2 (by decide) ?_
  refine hk_cSN (As := [.int g, .int 0, .int 5]) (rest := []) hx hb hml hl.1 ht hown hK hH hS (c_within l D G τ σ g 0 5) ymS_X10_within (List.mem_filter.mpr ⟨tw_504, rfl⟩) ⟨rfl, rfl⟩ ⟨Nat.le_of_ble_eq_true rfl, Nat.le_of_ble_eq_true rfl⟩ rfl rfl (Nat.le_of_ble_eq_true rfl) dX5_ofGarden_3 ⟨Nat.le_of_ble_eq_true rfl, Nat.le_of_ble_eq_true rfl⟩ (hk_ea (fun H locs hH hS => ?_))
  refine lv_if_ne (tgt := 11) hx hb dX5_ofGarden_6 (by decide) (fun c_1 => ?_) (fun c_1 => ?_)
  · refine lv_iconst (v := 0) hx hb dX5_ofGarden_11 (by decide) ?_
    refine lv_istore_n (lv' := [(2, .int 0), (0, .ref (G.1 (.inl (3, 0)))), (1, .int g)]) hx hb dX5_ofGarden_12 rfl hl (by decide) rfl (fun ls hl => ?_)
    refine lv_iconst (v := 0) hx hb dX5_ofGarden_13 (by decide) ?_
    refine lv_istore_n (lv' := [(3, .int 0), (2, .int 0), (0, .ref (G.1 (.inl (3, 0)))), (1, .int g)]) hx hb dX5_ofGarden_14 rfl hl (by decide) rfl (fun ls hl => ?_)
    have LP_2 : ∀ (r j : Nat) (sum : Int32) (H : Heap) (locs : List Loc) (ls : Array Slot) (QQ : State → Prop), j + r = 25 → hk_H D G (hk_cm τ σ) H → va_S (hk_A D) s.heap H locs → lv_has ls 4 [(3, .int (nI j)), (2, .int sum), (0, .ref (G.1 (.inl (3, 0)))), (1, .int g)] → (∀ (H : Heap) (locs : List Loc) (ls : Array Slot), hk_H D G (hk_cm τ σ) H → va_S (hk_A D) s.heap H locs → lv_has ls 4 [(3, .int (nI 25)), (2, .int (hk_it (B_gofGarden g τ) r j sum)), (0, .ref (G.1 (.inl (3, 0)))), (1, .int g)] → W p l e ({ frames := 2, cells := 0, slots := 0, locals := 43 }) s m ([.ref (G.1 (.inl (3, 0))), .int g] : List Value).toArray below meth c H locs 0 0 QQ (F0 m 40 ls [])) → W p l e ({ frames := 2, cells := 0, slots := 0, locals := 43 }) s m ([.ref (G.1 (.inl (3, 0))), .int g] : List Value).toArray below meth c H locs 0 0 QQ (F0 m 15 ls []) := by
      intro r
      induction r with
      | zero =>
        intro j sum H locs ls QQ hn_gofGarden hH hS hl kk
        refine lv_iload_n hx hb dX5_ofGarden_15 rfl (lv_at hl 0 rfl) ?_
        refine lv_bipush (v := 25) hx hb dX5_ofGarden_16 (by decide) ?_
        refine lv_icmp_ge (tgt := 40) hx hb dX5_ofGarden_18 (by decide) (fun c_3 => ?_) (fun c_3 => ?_)
        rotate_left
        · exfalso; rw [show (25 : Int32) = nI 25 from rfl] at c_3; first | exact nI_ge (by omega) (by omega) c_3 | exact c_3 (nI_le (by omega) (by omega)) | exact nI_nlt (by omega) (by omega) c_3 | exact c_3 (nI_lt (by omega) (by omega))
        have hiN : j = 25 := by omega
        rw [hiN] at hl
        exact kk H locs ls hH hS (lv_sub hl [0, 1, 2, 3] rfl)
      | succ r ih =>
        intro j sum H locs ls QQ hn_gofGarden hH hS hl kk
        refine lv_iload_n hx hb dX5_ofGarden_15 rfl (lv_at hl 0 rfl) ?_
        refine lv_bipush (v := 25) hx hb dX5_ofGarden_16 (by decide) ?_
        refine lv_icmp_ge (tgt := 40) hx hb dX5_ofGarden_18 (by decide) (fun c_4 => ?_) (fun c_4 => ?_)
        · exfalso; rw [show (25 : Int32) = nI 25 from rfl] at c_4; first | exact nI_ge (by omega) (by omega) c_4 | exact c_4 (nI_le (by omega) (by omega)) | exact nI_nlt (by omega) (by omega) c_4 | exact c_4 (nI_lt (by omega) (by omega))
        refine lv_iload_n hx hb dX5_ofGarden_21 rfl (lv_at hl 1 rfl) ?_
        refine lv_aload_n hx hb dX5_ofGarden_22 rfl (lv_at hl 2 rfl) ?_
        refine hk_getr (L := (.inl (3, 0))) (v := .ref (G.1 (.inl (3, 1)))) hx hb ht hown hK hH kc_6 hG.k3_0 0 (by decide) rfl tw_95 rfl hG.r3 dX5_ofGarden_23 ?_
        refine lv_iload_n hx hb dX5_ofGarden_26 rfl (lv_at hl 0 rfl) ?_
        refine lv_iload_n hx hb dX5_ofGarden_27 rfl (lv_at hl 3 rfl) ?_
        refine hk_cS (As := [.int (nI j), .int g]) (rest := [.ref (G.1 (.inl (3, 1))), .int sum]) hx hb hml hl.1 ht hown hK hH hS (c_place l D G τ σ (nI j) g) ymS_X5_place tw_505 ⟨rfl, rfl⟩ ⟨Nat.le_of_ble_eq_true rfl, Nat.le_of_ble_eq_true rfl⟩ rfl rfl (Nat.le_of_ble_eq_true rfl) dX5_ofGarden_28 ⟨Nat.le_of_ble_eq_true rfl, Nat.le_of_ble_eq_true rfl⟩ (hk_ea (fun H locs hH hS => ?_))
        refine hk_ild (L := (.inl (3, 1))) (v := τ (3, 1) ((F_place (nI j) g).toNatClampNeg)) hx hb hK hH hG.k3_1 (hk_place_in c_1) rfl dX5_ofGarden_31 ?_
        refine lv_iadd hx hb dX5_ofGarden_32 ?_
        refine lv_istore_n (lv' := [(2, .int (sum + (τ (3, 1) ((F_place (nI j) g).toNatClampNeg)))), (3, .int (nI j)), (0, .ref (G.1 (.inl (3, 0)))), (1, .int g)]) hx hb dX5_ofGarden_33 rfl hl (by decide) rfl (fun ls hl => ?_)
        refine lv_iinc (v := nI (j + 1)) (lv' := [(3, .int (nI (j + 1))), (2, .int (sum + (τ (3, 1) ((F_place (nI j) g).toNatClampNeg)))), (0, .ref (G.1 (.inl (3, 0)))), (1, .int g)]) hx hb dX5_ofGarden_34 hl (k := 1) rfl (nI_1 _) (by decide) rfl (fun ls hl => ?_)
        refine lv_goto (tgt := 15) hx hb dX5_ofGarden_37 (by decide) ?_
        have EB_5 : (B_gofGarden g τ) j sum = sum + (τ (3, 1) ((F_place (nI j) g).toNatClampNeg)) := by simp only [B_gofGarden]
        exact ih (j + 1) (sum + (τ (3, 1) ((F_place (nI j) g).toNatClampNeg))) _ _ _ QQ (by omega) hH hS (lv_sub hl [0, 1, 2, 3] rfl) (fun H locs ls hH hS hl => kk H locs ls hH hS (by rw [hk_it_s, EB_5]; exact hl))
    refine LP_2 25 0 0 _ _ _ _ (by omega) hH hS (lv_sub hl [0, 1, 2, 3] rfl) (fun H locs ls hH hS hl => ?_)
    refine lv_iload_n hx hb dX5_ofGarden_40 rfl (lv_at hl 1 rfl) ?_
    exact hk_iret hx hb hr hlocks hH hS ⟨(by simp only [F_gofGarden, if_neg c_1]), rfl, rfl⟩ dX5_ofGarden_41
  · refine lv_iconst (v := 0) hx hb dX5_ofGarden_9 (by decide) ?_
    exact hk_iret hx hb hr hlocks hH hS ⟨(by simp only [F_gofGarden, if_pos c_1]), rfl, rfl⟩ dX5_ofGarden_10
theorem pressOne_3 (t : hk_v) (d : Int32) : T_pressOne t d (4, 0) 3 = t (4, 0) 3 := by
  unfold T_pressOne
  split <;> simp [hk_u_ap]
theorem pressOne_2 (t : hk_v) (d : Int32) : T_pressOne t d (4, 0) 2 = t (4, 0) 2 + 1 := by
  unfold T_pressOne
  split <;> simp [hk_u_ap]
theorem plw_step {t : hk_v} (d : Int32) {k p n : Nat} (hk : t (4, 0) 3 = nI k) (hk20 : 20 ≤ k) (hkn : k < 20 * (n + 1)) (hp : t (4, 0) 2 = nI p) (hpn : p + (n + 1) < 2 ^ 30) : ∃ k p : Nat, T_pressOne t d (4, 0) 3 - 20 = nI k ∧ k < 20 * n ∧ T_pressOne t d (4, 0) 2 = nI p ∧ p + n < 2 ^ 30 := by
  refine ⟨k - 20, p + 1, ?_, by omega, ?_, by omega⟩
  · rw [pressOne_3, hk, show (20 : Int32) = nI 20 from rfl, pk_sub hk20]
  · rw [pressOne_2, hp, nI_1]
theorem ymV_X9_pressOne : hk_mV yX9_pressOne cX9_pressOne 2 none RX9 1 := ⟨tw_530, tw_528, tw_529, tw_39, rfl, by decide, by decide, by decide +kernel⟩
def B_plw (g : Int32) (day : Int32)  (t : hk_v) : Option hk_v := (if (t (4, 0) 3) < 20 then none else some (hk_u (hk_u (T_pressOne t day) (4, 0) 4 (1 <<< (g &&& 31))) (4, 0) 3 (((T_pressOne t day) (4, 0) 3) - 20)))
def T_play (τ : hk_v) (g : Int32) (b : Int32) (day : Int32) : hk_v := (if 0 < b then (if ((hk_wh (B_plw g day) 200 (hk_u (hk_u τ (4, 0) 4 ((τ (4, 0) 4) ||| (1 <<< (g &&& 31)))) (4, 0) 3 ((τ (4, 0) 3) + b))) (4, 0) 3) = 0 then (hk_u (hk_wh (B_plw g day) 200 (hk_u (hk_u τ (4, 0) 4 ((τ (4, 0) 4) ||| (1 <<< (g &&& 31)))) (4, 0) 3 ((τ (4, 0) 3) + b))) (4, 0) 4 0) else (hk_wh (B_plw g day) 200 (hk_u (hk_u τ (4, 0) 4 ((τ (4, 0) 4) ||| (1 <<< (g &&& 31)))) (4, 0) 3 ((τ (4, 0) 3) + b)))) else τ)
set_option maxHeartbeats 4000000 in
set_option maxRecDepth 100000 in
theorem c_play (l : Launch) (D : hk_D) (G : hk_G) (Z : hk_Z) (τ σ : hk_v) (g : Int32) (b : Int32) (day : Int32) (hG : hk_Y D G Z) (hI : ∃ k p : Nat, τ (4, 0) 3 + b = nI k ∧ k < 4000 ∧ τ (4, 0) 2 = nI p ∧ p + 200 < 2 ^ 30) : Met l yX9_lay (hk_ws yX9_lay cX9_lay 4 none) ({ frames := 1, cells := 0, slots := 0, locals := 21 }) (hk_P D G (hk_cm τ σ) [.ref (G.1 (.inl (4, 0))), .int g, .int b, .int day]) (hk_Q D (hk_e G (none) (hk_cm (T_play τ g b day) σ))) 0 0 (hk_A D) := by
  refine hk_met (by decide +kernel) (Nat.le_of_ble_eq_true rfl) (fun p e s m below meth c hx hb hr hml hlocks ht hown hin hK hH hS ls hl => ?_)
  have hl : lv_has ls 4 [(0, .ref (G.1 (.inl (4, 0)))), (1, .int g), (2, .int b), (3, .int day)] := hl
  refine lv_iload_n hx hb dX9_lay_0 rfl (lv_at hl 2 rfl) ?_
  refine lv_if_gt (tgt := 5) hx hb dX9_lay_1 (by decide) (fun c_1 => ?_) (fun c_1 => ?_)
  · refine lv_aload_n hx hb dX9_lay_5 rfl (lv_at hl 0 rfl) ?_
    refine lv_dup hx hb dX9_lay_6 rfl ?_
    refine hk_geti (L := (.inl (4, 0))) (v := τ (4, 0) 4) hx hb ht hown hK hH kc_10 hG.k4_0 4 (by decide) rfl tw_118 rfl rfl dX9_lay_7 ?_
    refine lv_iconst (v := 1) hx hb dX9_lay_10 (by decide) ?_
    refine lv_iload_n hx hb dX9_lay_11 rfl (lv_at hl 1 rfl) ?_
    refine lv_ishl hx hb dX9_lay_12 ?_
    refine lv_ior hx hb dX9_lay_13 ?_
    refine hk_puti (L := (.inl (4, 0))) hx hb ht hown hK hH hS kc_10 hG.k4_0 4 (by decide) rfl tw_118 rfl (Or.inl rfl) rfl dX9_lay_14 (fun H locs hH hS => ?_)
    rw [hk_up_l] at hH
    refine lv_aload_n hx hb dX9_lay_17 rfl (lv_at hl 0 rfl) ?_
    refine lv_dup hx hb dX9_lay_18 rfl ?_
    refine hk_geti (L := (.inl (4, 0))) (v := τ (4, 0) 3) hx hb ht hown hK hH kc_10 hG.k4_0 3 (by decide) rfl tw_116 rfl (by simp [hk_cm, hk_u_ap]) dX9_lay_19 ?_
    refine lv_iload_n hx hb dX9_lay_22 rfl (lv_at hl 2 rfl) ?_
    refine lv_iadd hx hb dX9_lay_23 ?_
    refine hk_puti (L := (.inl (4, 0))) hx hb ht hown hK hH hS kc_10 hG.k4_0 3 (by decide) rfl tw_116 rfl (Or.inl rfl) rfl dX9_lay_24 (fun H locs hH hS => ?_)
    rw [hk_up_l] at hH
    have LP_2 : ∀ (n : Nat) (t : hk_v) (H : Heap) (locs : List Loc) (ls : Array Slot) (QQ : State → Prop), ((∃ k p : Nat, t (4, 0) 3 = nI k ∧ k < 20 * n ∧ t (4, 0) 2 = nI p ∧ p + n < 2 ^ 30)) → hk_H D G (hk_cm t σ) H → va_S (hk_A D) s.heap H locs → lv_has ls 4 [(0, .ref (G.1 (.inl (4, 0)))), (1, .int g), (2, .int b), (3, .int day)] → (∀ (H : Heap) (locs : List Loc) (ls : Array Slot), hk_H D G (hk_cm (hk_wh (B_plw g day) n t) σ) H → va_S (hk_A D) s.heap H locs → lv_has ls 4 [(0, .ref (G.1 (.inl (4, 0)))), (1, .int g), (2, .int b), (3, .int day)] → W p l e ({ frames := 1, cells := 0, slots := 0, locals := 21 }) s m ([.ref (G.1 (.inl (4, 0))), .int g, .int b, .int day] : List Value).toArray below meth c H locs 0 0 QQ (F0 m 62 ls [])) → W p l e ({ frames := 1, cells := 0, slots := 0, locals := 21 }) s m ([.ref (G.1 (.inl (4, 0))), .int g, .int b, .int day] : List Value).toArray below meth c H locs 0 0 QQ (F0 m 27 ls []) := by
      intro n
      induction n with
      | zero =>
        intro t H locs ls QQ hI hH hS hl kk
        obtain ⟨k, p, -, hk, -⟩ := hI; omega
      | succ n ih =>
        intro t H locs ls QQ hI hH hS hl kk
        obtain ⟨k, pp, hk, hkn, hp, hpn⟩ := hI; have hp0 : ¬ t (4, 0) 2 < 0 := by rw [hp]; exact nI_pos (by omega)
        refine lv_aload_n hx hb dX9_lay_27 rfl (lv_at hl 0 rfl) ?_
        refine hk_geti (L := (.inl (4, 0))) (v := t (4, 0) 3) hx hb ht hown hK hH kc_10 hG.k4_0 3 (by decide) rfl tw_116 rfl rfl dX9_lay_28 ?_
        refine lv_bipush (v := 20) hx hb dX9_lay_31 (by decide) ?_
        refine lv_icmp_lt (tgt := 62) hx hb dX9_lay_33 (by decide) (fun c_3 => ?_) (fun c_3 => ?_)
        · have EB_4 : (B_plw g day) t = none := by simp only [B_plw, if_pos c_3]
          exact kk H locs ls (by rw [hk_wh_n EB_4]; exact hH) hS (lv_sub hl [0, 1, 2, 3] rfl)
        · refine lv_aload_n hx hb dX9_lay_36 rfl (lv_at hl 0 rfl) ?_
          refine lv_iload_n hx hb dX9_lay_37 rfl (lv_at hl 3 rfl) ?_
          refine hk_cV (L := (.inl (4, 0))) (As := [.int day]) (rest := []) hx hb hml hl.1 ht hown hK hH hS (c_pressOne l D G Z t σ day hG hp0) ymV_X9_pressOne kc_10 hG.k4_0 tw_527 ⟨rfl, rfl⟩ ⟨Nat.le_of_ble_eq_true rfl, Nat.le_of_ble_eq_true rfl⟩ rfl rfl (Nat.le_of_ble_eq_true rfl) dX9_lay_38 ⟨Nat.le_of_ble_eq_true rfl, Nat.le_of_ble_eq_true rfl⟩ (hk_ev (fun H locs hH hS => ?_))
          refine lv_aload_n hx hb dX9_lay_41 rfl (lv_at hl 0 rfl) ?_
          refine lv_iconst (v := 1) hx hb dX9_lay_42 (by decide) ?_
          refine lv_iload_n hx hb dX9_lay_43 rfl (lv_at hl 1 rfl) ?_
          refine lv_ishl hx hb dX9_lay_44 ?_
          refine hk_puti (L := (.inl (4, 0))) hx hb ht hown hK hH hS kc_10 hG.k4_0 4 (by decide) rfl tw_118 rfl (Or.inl rfl) rfl dX9_lay_45 (fun H locs hH hS => ?_)
          rw [hk_up_l] at hH
          refine lv_aload_n hx hb dX9_lay_48 rfl (lv_at hl 0 rfl) ?_
          refine lv_dup hx hb dX9_lay_49 rfl ?_
          refine hk_geti (L := (.inl (4, 0))) (v := (T_pressOne t day) (4, 0) 3) hx hb ht hown hK hH kc_10 hG.k4_0 3 (by decide) rfl tw_116 rfl (by simp [hk_cm, hk_u_ap]) dX9_lay_50 ?_
          refine lv_bipush (v := 20) hx hb dX9_lay_53 (by decide) ?_
          refine lv_isub hx hb dX9_lay_55 ?_
          refine hk_puti (L := (.inl (4, 0))) hx hb ht hown hK hH hS kc_10 hG.k4_0 3 (by decide) rfl tw_116 rfl (Or.inl rfl) rfl dX9_lay_56 (fun H locs hH hS => ?_)
          rw [hk_up_l] at hH
          refine lv_goto (tgt := 27) hx hb dX9_lay_59 (by decide) ?_
          have EB_5 : (B_plw g day) t = some (hk_u (hk_u (T_pressOne t day) (4, 0) 4 (1 <<< (g &&& 31))) (4, 0) 3 (((T_pressOne t day) (4, 0) 3) - 20)) := by simp only [B_plw, if_neg c_3]
          have hk20 : 20 ≤ k := by
            rcases Nat.lt_or_ge k 20 with q | q
            · exact absurd (by rw [hk]; exact (show nI k < nI 20 from nI_lt q (by omega))) c_3
            · exact q
          have hI2 := plw_step day hk hk20 hkn hp hpn
          exact ih (hk_u (hk_u (T_pressOne t day) (4, 0) 4 (1 <<< (g &&& 31))) (4, 0) 3 (((T_pressOne t day) (4, 0) 3) - 20)) _ _ _ QQ hI2 hH hS (lv_sub hl [0, 1, 2, 3] rfl) (fun H locs ls hH hS hl => kk H locs ls (by rw [hk_wh_s EB_5]; exact hH) hS hl)
    refine LP_2 200 (hk_u (hk_u τ (4, 0) 4 ((τ (4, 0) 4) ||| (1 <<< (g &&& 31)))) (4, 0) 3 ((τ (4, 0) 3) + b)) _ _ _ _ (by obtain ⟨k, p, h1, h2, h3, h4⟩ := hI; exact ⟨k, p, by simpa [hk_u_ap] using h1, by omega, by simpa [hk_u_ap] using h3, h4⟩) hH hS (lv_sub hl [0, 1, 2, 3] rfl) (fun H locs ls hH hS hl => ?_)
    refine lv_aload_n hx hb dX9_lay_62 rfl (lv_at hl 0 rfl) ?_
    refine hk_geti (L := (.inl (4, 0))) (v := (hk_wh (B_plw g day) 200 (hk_u (hk_u τ (4, 0) 4 ((τ (4, 0) 4) ||| (1 <<< (g &&& 31)))) (4, 0) 3 ((τ (4, 0) 3) + b))) (4, 0) 3) hx hb ht hown hK hH kc_10 hG.k4_0 3 (by decide) rfl tw_116 rfl rfl dX9_lay_63 ?_
    refine lv_if_ne (tgt := 74) hx hb dX9_lay_66 (by decide) (fun c_6 => ?_) (fun c_6 => ?_)
    · exact hk_vret hx hb hr hlocks hH hS ⟨rfl, rfl, (by simp only [T_play, if_pos c_1, if_neg c_6])⟩ dX9_lay_74
    · refine lv_aload_n hx hb dX9_lay_69 rfl (lv_at hl 0 rfl) ?_
      refine lv_iconst (v := 0) hx hb dX9_lay_70 (by decide) ?_
      refine hk_puti (L := (.inl (4, 0))) hx hb ht hown hK hH hS kc_10 hG.k4_0 4 (by decide) rfl tw_118 rfl (Or.inl rfl) rfl dX9_lay_71 (fun H locs hH hS => ?_)
      rw [hk_up_l] at hH
      exact hk_vret hx hb hr hlocks hH hS ⟨rfl, rfl, (by simp only [T_play, if_pos c_1, if_pos c_6])⟩ dX9_lay_74
  · exact hk_vret hx hb hr hlocks hH hS ⟨rfl, rfl, (by simp only [T_play, if_neg c_1])⟩ dX9_lay_4
