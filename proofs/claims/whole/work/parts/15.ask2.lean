theorem ymV_X6_ofGarden : hk_mV yX6_ofGarden cX6_ofGarden 4 (some FieldType.int) RX6 1 := ⟨tw_575, tw_573, tw_574, tw_51, rfl, by decide, by decide, by decide +kernel⟩
def B_inKilnsOf (g : Int32) (Z : hk_Z) (τ : hk_v) (j : Nat) (sum : Int32) : Int32 := sum + (F_ofGarden τ j (τ (11, j) 4).toNatClampNeg g)
def F_inKilnsOf (Z : hk_Z) (τ : hk_v) (g : Int32) : Int32 := (hk_it (B_inKilnsOf g Z τ) (Z.1 2) 0 0)
set_option maxHeartbeats 4000000 in
set_option maxRecDepth 100000 in
theorem c_inKilnsOf (l : Launch) (D : hk_D) (G : hk_G) (Z : hk_Z) (τ σ : hk_v) (g : Int32) (hG : hk_Y D G Z) (hs : hk_sz Z τ) (hlo : hk_lo Z τ) : Met l yX10_inKilnsOf (hk_ws yX10_inKilnsOf cX10_inKilnsOf 4 (some FieldType.int)) ({ frames := 3, cells := 0, slots := 0, locals := 64 }) (hk_P D G (hk_cm τ σ) [.ref (G.1 (.inl (0, 0))), .int g]) (hk_Q D (hk_e G (some (.int (F_inKilnsOf Z τ g))) (hk_cm τ σ))) 0 0 (hk_A D) := by
  refine hk_met (by decide +kernel) (Nat.le_of_ble_eq_true rfl) (fun p e s m below meth c hx hb hr hml hlocks ht hown hin hK hH hS ls hl => ?_)
  have hl : lv_has ls 4 [(0, .ref (G.1 (.inl (0, 0)))), (1, .int g)] := hl
  refine lv_iconst (v := 0) hx hb dX10_inKilnsOf_0 (by decide) ?_
  refine lv_istore_n (lv' := [(2, .int 0), (0, .ref (G.1 (.inl (0, 0)))), (1, .int g)]) hx hb dX10_inKilnsOf_1 rfl hl (by decide) rfl (fun ls hl => ?_)
  refine lv_iconst (v := 0) hx hb dX10_inKilnsOf_2 (by decide) ?_
  refine lv_istore_n (lv' := [(3, .int 0), (2, .int 0), (0, .ref (G.1 (.inl (0, 0)))), (1, .int g)]) hx hb dX10_inKilnsOf_3 rfl hl (by decide) rfl (fun ls hl => ?_)
  have LP_1 : ∀ (r j : Nat) (sum : Int32) (H : Heap) (locs : List Loc) (ls : Array Slot) (QQ : State → Prop), j + r = Z.1 2 → hk_H D G (hk_cm τ σ) H → va_S (hk_A D) s.heap H locs → lv_has ls 4 [(3, .int (nI j)), (2, .int sum), (0, .ref (G.1 (.inl (0, 0)))), (1, .int g)] → (∀ (H : Heap) (locs : List Loc) (ls : Array Slot), hk_H D G (hk_cm τ σ) H → va_S (hk_A D) s.heap H locs → lv_has ls 4 [(3, .int (nI (Z.1 2))), (2, .int (hk_it (B_inKilnsOf g Z τ) r j sum)), (0, .ref (G.1 (.inl (0, 0)))), (1, .int g)] → W p l e ({ frames := 3, cells := 0, slots := 0, locals := 64 }) s m ([.ref (G.1 (.inl (0, 0))), .int g] : List Value).toArray below meth c H locs 0 0 QQ (F0 m 39 ls [])) → W p l e ({ frames := 3, cells := 0, slots := 0, locals := 64 }) s m ([.ref (G.1 (.inl (0, 0))), .int g] : List Value).toArray below meth c H locs 0 0 QQ (F0 m 4 ls []) := by
    intro r
    induction r with
    | zero =>
      intro j sum H locs ls QQ hn_inKilnsOf hH hS hl kk
      have hz6 := hs.2
      refine lv_iload_n hx hb dX10_inKilnsOf_4 rfl (lv_at hl 0 rfl) ?_
      refine lv_aload_n hx hb dX10_inKilnsOf_5 rfl (lv_at hl 2 rfl) ?_
      refine hk_getr (L := (.inl (0, 0))) (v := .ref (G.1 (.inl (1, 2)))) hx hb ht hown hK hH kc_11 hG.k0 2 (by decide) rfl tw_170 rfl hG.r0_2 dX10_inKilnsOf_6 ?_
      refine hk_cV (L := (.inl (1, 2))) (As := []) (rest := [.int (nI j)]) hx hb hml hl.1 ht hown hK hH hS (c_size l D G τ σ 2 hG.k1_2) ymV_Jx4a65c_size_8abf5 kc_0 hG.k1_2 tw_209 ⟨rfl, rfl⟩ ⟨Nat.le_of_ble_eq_true rfl, Nat.le_of_ble_eq_true rfl⟩ rfl rfl (Nat.le_of_ble_eq_true rfl) dX10_inKilnsOf_9 ⟨Nat.le_of_ble_eq_true rfl, Nat.le_of_ble_eq_true rfl⟩ (hk_ea (fun H locs hH hS => ?_))
      rw [show F_size τ 2 = τ (1, 2) 2 from rfl]
      refine lv_icmp_ge (tgt := 39) hx hb dX10_inKilnsOf_12 (by decide) (fun c_2 => ?_) (fun c_2 => ?_)
      rotate_left
      · exfalso; rw [hs.1.2.2] at c_2; first | exact nI_ge (by omega) (by omega) c_2 | exact c_2 (nI_le (by omega) (by omega)) | exact nI_nlt (by omega) (by omega) c_2 | exact c_2 (nI_lt (by omega) (by omega))
      have hiN : j = Z.1 2 := by omega
      rw [hiN] at hl
      exact kk H locs ls hH hS (lv_sub hl [0, 1, 2, 3] rfl)
    | succ r ih =>
      intro j sum H locs ls QQ hn_inKilnsOf hH hS hl kk
      have hz6 := hs.2
      refine lv_iload_n hx hb dX10_inKilnsOf_4 rfl (lv_at hl 0 rfl) ?_
      refine lv_aload_n hx hb dX10_inKilnsOf_5 rfl (lv_at hl 2 rfl) ?_
      refine hk_getr (L := (.inl (0, 0))) (v := .ref (G.1 (.inl (1, 2)))) hx hb ht hown hK hH kc_11 hG.k0 2 (by decide) rfl tw_170 rfl hG.r0_2 dX10_inKilnsOf_6 ?_
      refine hk_cV (L := (.inl (1, 2))) (As := []) (rest := [.int (nI j)]) hx hb hml hl.1 ht hown hK hH hS (c_size l D G τ σ 2 hG.k1_2) ymV_Jx4a65c_size_8abf5 kc_0 hG.k1_2 tw_209 ⟨rfl, rfl⟩ ⟨Nat.le_of_ble_eq_true rfl, Nat.le_of_ble_eq_true rfl⟩ rfl rfl (Nat.le_of_ble_eq_true rfl) dX10_inKilnsOf_9 ⟨Nat.le_of_ble_eq_true rfl, Nat.le_of_ble_eq_true rfl⟩ (hk_ea (fun H locs hH hS => ?_))
      rw [show F_size τ 2 = τ (1, 2) 2 from rfl]
      refine lv_icmp_ge (tgt := 39) hx hb dX10_inKilnsOf_12 (by decide) (fun c_3 => ?_) (fun c_3 => ?_)
      · exfalso; rw [hs.1.2.2] at c_3; first | exact nI_ge (by omega) (by omega) c_3 | exact c_3 (nI_le (by omega) (by omega)) | exact nI_nlt (by omega) (by omega) c_3 | exact c_3 (nI_lt (by omega) (by omega))
      refine lv_iload_n hx hb dX10_inKilnsOf_15 rfl (lv_at hl 1 rfl) ?_
      refine lv_aload_n hx hb dX10_inKilnsOf_16 rfl (lv_at hl 2 rfl) ?_
      refine hk_getr (L := (.inl (0, 0))) (v := .ref (G.1 (.inl (1, 2)))) hx hb ht hown hK hH kc_11 hG.k0 2 (by decide) rfl tw_170 rfl hG.r0_2 dX10_inKilnsOf_17 ?_
      refine lv_iload_n hx hb dX10_inKilnsOf_20 rfl (lv_at hl 0 rfl) ?_
      refine hk_cV (L := (.inl (1, 2))) (As := [.int (nI j)]) (rest := [.int sum]) hx hb hml hl.1 ht hown hK hH hS (c_lget l D G τ σ 2 j (Z.1 2) (nI j) (.ref (G.1 (.inl (11, j)))) hG.k1_2 (hG.a1_2 (by omega)) (hG.k2_2 (by omega)) rfl (by omega) (by have := hs.2; omega) (hG.a2_2 _ (by omega)) ⟨_, rfl⟩ hs.1.2.2) ymV_Jx4a65c_get_915e3 kc_0 hG.k1_2 tw_343 ⟨rfl, rfl⟩ ⟨Nat.le_of_ble_eq_true rfl, Nat.le_of_ble_eq_true rfl⟩ rfl rfl (Nat.le_of_ble_eq_true rfl) dX10_inKilnsOf_21 ⟨Nat.le_of_ble_eq_true rfl, Nat.le_of_ble_eq_true rfl⟩ (hk_ea (fun H locs hH hS => ?_))
      refine hk_cast (L := (.inl (11, j))) hx hb ht hown hK hH kc_7 (hG.k11 j (by omega)) tw_365 dX10_inKilnsOf_24 ?_
      refine lv_iload_n hx hb dX10_inKilnsOf_27 rfl (lv_at hl 3 rfl) ?_
      refine hk_cV (L := (.inl (11, j))) (As := [.int g]) (rest := [.int sum]) hx hb hml hl.1 ht hown hK hH hS (c_ofGarden l D G Z τ σ j (τ (11, j) 4).toNatClampNeg g hG (by omega) (hlo j (by omega)).1 (hlo j (by omega)).2.1 (by have := (hlo j (by omega)).2.2; omega)) ymV_X6_ofGarden kc_7 (hG.k11 j (by omega)) tw_572 ⟨rfl, rfl⟩ ⟨Nat.le_of_ble_eq_true rfl, Nat.le_of_ble_eq_true rfl⟩ rfl rfl (Nat.le_of_ble_eq_true rfl) dX10_inKilnsOf_28 ⟨Nat.le_of_ble_eq_true rfl, Nat.le_of_ble_eq_true rfl⟩ (hk_ea (fun H locs hH hS => ?_))
      refine lv_iadd hx hb dX10_inKilnsOf_31 ?_
      refine lv_istore_n (lv' := [(2, .int (sum + (F_ofGarden τ j (τ (11, j) 4).toNatClampNeg g))), (3, .int (nI j)), (0, .ref (G.1 (.inl (0, 0)))), (1, .int g)]) hx hb dX10_inKilnsOf_32 rfl hl (by decide) rfl (fun ls hl => ?_)
      refine lv_iinc (v := nI (j + 1)) (lv' := [(3, .int (nI (j + 1))), (2, .int (sum + (F_ofGarden τ j (τ (11, j) 4).toNatClampNeg g))), (0, .ref (G.1 (.inl (0, 0)))), (1, .int g)]) hx hb dX10_inKilnsOf_33 hl (k := 1) rfl (nI_1 _) (by decide) rfl (fun ls hl => ?_)
      refine lv_goto (tgt := 4) hx hb dX10_inKilnsOf_36 (by decide) ?_
      have EB_4 : (B_inKilnsOf g Z τ) j sum = sum + (F_ofGarden τ j (τ (11, j) 4).toNatClampNeg g) := by simp only [B_inKilnsOf]
      exact ih (j + 1) (sum + (F_ofGarden τ j (τ (11, j) 4).toNatClampNeg g)) _ _ _ QQ (by omega) hH hS (lv_sub hl [0, 1, 2, 3] rfl) (fun H locs ls hH hS hl => kk H locs ls hH hS (by rw [hk_it_s, EB_4]; exact hl))
  refine LP_1 (Z.1 2) 0 0 _ _ _ _ (by omega) hH hS (lv_sub hl [0, 1, 2, 3] rfl) (fun H locs ls hH hS hl => ?_)
  refine lv_iload_n hx hb dX10_inKilnsOf_39 rfl (lv_at hl 1 rfl) ?_
  exact hk_iret hx hb hr hlocks hH hS ⟨(by simp only [F_inKilnsOf]), rfl, rfl⟩ dX10_inKilnsOf_40
def B_lostInAll (Z : hk_Z) (τ : hk_v) (j : Nat) (sum : Int32) : Int32 := sum + (τ (9, j) 4)
def F_lostInAll (Z : hk_Z) (τ : hk_v)  : Int32 := (hk_it (B_lostInAll Z τ) (Z.1 0) 0 0)
set_option maxHeartbeats 4000000 in
set_option maxRecDepth 100000 in
theorem c_lostInAll (l : Launch) (D : hk_D) (G : hk_G) (Z : hk_Z) (τ σ : hk_v)  (hG : hk_Y D G Z) (hs : hk_sz Z τ) : Met l yX10_lostInAll (hk_ws yX10_lostInAll cX10_lostInAll 3 (some FieldType.int)) ({ frames := 3, cells := 0, slots := 0, locals := 64 }) (hk_P D G (hk_cm τ σ) [.ref (G.1 (.inl (0, 0)))]) (hk_Q D (hk_e G (some (.int (F_lostInAll Z τ))) (hk_cm τ σ))) 0 0 (hk_A D) := by
  refine hk_met (by decide +kernel) (Nat.le_of_ble_eq_true rfl) (fun p e s m below meth c hx hb hr hml hlocks ht hown hin hK hH hS ls hl => ?_)
  have hl : lv_has ls 3 [(0, .ref (G.1 (.inl (0, 0))))] := hl
  refine lv_iconst (v := 0) hx hb dX10_lostInAll_0 (by decide) ?_
  refine lv_istore_n (lv' := [(1, .int 0), (0, .ref (G.1 (.inl (0, 0))))]) hx hb dX10_lostInAll_1 rfl hl (by decide) rfl (fun ls hl => ?_)
  refine lv_iconst (v := 0) hx hb dX10_lostInAll_2 (by decide) ?_
  refine lv_istore_n (lv' := [(2, .int 0), (1, .int 0), (0, .ref (G.1 (.inl (0, 0))))]) hx hb dX10_lostInAll_3 rfl hl (by decide) rfl (fun ls hl => ?_)
  have LP_1 : ∀ (r j : Nat) (sum : Int32) (H : Heap) (locs : List Loc) (ls : Array Slot) (QQ : State → Prop), j + r = Z.1 0 → hk_H D G (hk_cm τ σ) H → va_S (hk_A D) s.heap H locs → lv_has ls 3 [(2, .int (nI j)), (1, .int sum), (0, .ref (G.1 (.inl (0, 0))))] → (∀ (H : Heap) (locs : List Loc) (ls : Array Slot), hk_H D G (hk_cm τ σ) H → va_S (hk_A D) s.heap H locs → lv_has ls 3 [(2, .int (nI (Z.1 0))), (1, .int (hk_it (B_lostInAll Z τ) r j sum)), (0, .ref (G.1 (.inl (0, 0))))] → W p l e ({ frames := 3, cells := 0, slots := 0, locals := 64 }) s m ([.ref (G.1 (.inl (0, 0)))] : List Value).toArray below meth c H locs 0 0 QQ (F0 m 38 ls [])) → W p l e ({ frames := 3, cells := 0, slots := 0, locals := 64 }) s m ([.ref (G.1 (.inl (0, 0)))] : List Value).toArray below meth c H locs 0 0 QQ (F0 m 4 ls []) := by
    intro r
    induction r with
    | zero =>
      intro j sum H locs ls QQ hn_lostInAll hH hS hl kk
      have hz6 := hs.2
      refine lv_iload_n hx hb dX10_lostInAll_4 rfl (lv_at hl 0 rfl) ?_
      refine lv_aload_n hx hb dX10_lostInAll_5 rfl (lv_at hl 2 rfl) ?_
      refine hk_getr (L := (.inl (0, 0))) (v := .ref (G.1 (.inl (1, 0)))) hx hb ht hown hK hH kc_11 hG.k0 0 (by decide) rfl tw_168 rfl hG.r0_0 dX10_lostInAll_6 ?_
      refine hk_cV (L := (.inl (1, 0))) (As := []) (rest := [.int (nI j)]) hx hb hml hl.1 ht hown hK hH hS (c_size l D G τ σ 0 hG.k1_0) ymV_Jx4a65c_size_8abf5 kc_0 hG.k1_0 tw_209 ⟨rfl, rfl⟩ ⟨Nat.le_of_ble_eq_true rfl, Nat.le_of_ble_eq_true rfl⟩ rfl rfl (Nat.le_of_ble_eq_true rfl) dX10_lostInAll_9 ⟨Nat.le_of_ble_eq_true rfl, Nat.le_of_ble_eq_true rfl⟩ (hk_ea (fun H locs hH hS => ?_))
      rw [show F_size τ 0 = τ (1, 0) 2 from rfl]
      refine lv_icmp_ge (tgt := 38) hx hb dX10_lostInAll_12 (by decide) (fun c_2 => ?_) (fun c_2 => ?_)
      rotate_left
      · exfalso; rw [hs.1.1] at c_2; first | exact nI_ge (by omega) (by omega) c_2 | exact c_2 (nI_le (by omega) (by omega)) | exact nI_nlt (by omega) (by omega) c_2 | exact c_2 (nI_lt (by omega) (by omega))
      have hiN : j = Z.1 0 := by omega
      rw [hiN] at hl
      exact kk H locs ls hH hS (lv_sub hl [0, 1, 2] rfl)
    | succ r ih =>
      intro j sum H locs ls QQ hn_lostInAll hH hS hl kk
      have hz6 := hs.2
      refine lv_iload_n hx hb dX10_lostInAll_4 rfl (lv_at hl 0 rfl) ?_
      refine lv_aload_n hx hb dX10_lostInAll_5 rfl (lv_at hl 2 rfl) ?_
      refine hk_getr (L := (.inl (0, 0))) (v := .ref (G.1 (.inl (1, 0)))) hx hb ht hown hK hH kc_11 hG.k0 0 (by decide) rfl tw_168 rfl hG.r0_0 dX10_lostInAll_6 ?_
      refine hk_cV (L := (.inl (1, 0))) (As := []) (rest := [.int (nI j)]) hx hb hml hl.1 ht hown hK hH hS (c_size l D G τ σ 0 hG.k1_0) ymV_Jx4a65c_size_8abf5 kc_0 hG.k1_0 tw_209 ⟨rfl, rfl⟩ ⟨Nat.le_of_ble_eq_true rfl, Nat.le_of_ble_eq_true rfl⟩ rfl rfl (Nat.le_of_ble_eq_true rfl) dX10_lostInAll_9 ⟨Nat.le_of_ble_eq_true rfl, Nat.le_of_ble_eq_true rfl⟩ (hk_ea (fun H locs hH hS => ?_))
      rw [show F_size τ 0 = τ (1, 0) 2 from rfl]
      refine lv_icmp_ge (tgt := 38) hx hb dX10_lostInAll_12 (by decide) (fun c_3 => ?_) (fun c_3 => ?_)
      · exfalso; rw [hs.1.1] at c_3; first | exact nI_ge (by omega) (by omega) c_3 | exact c_3 (nI_le (by omega) (by omega)) | exact nI_nlt (by omega) (by omega) c_3 | exact c_3 (nI_lt (by omega) (by omega))
      refine lv_iload_n hx hb dX10_lostInAll_15 rfl (lv_at hl 1 rfl) ?_
      refine lv_aload_n hx hb dX10_lostInAll_16 rfl (lv_at hl 2 rfl) ?_
      refine hk_getr (L := (.inl (0, 0))) (v := .ref (G.1 (.inl (1, 0)))) hx hb ht hown hK hH kc_11 hG.k0 0 (by decide) rfl tw_168 rfl hG.r0_0 dX10_lostInAll_17 ?_
      refine lv_iload_n hx hb dX10_lostInAll_20 rfl (lv_at hl 0 rfl) ?_
      refine hk_cV (L := (.inl (1, 0))) (As := [.int (nI j)]) (rest := [.int sum]) hx hb hml hl.1 ht hown hK hH hS (c_lget l D G τ σ 0 j (Z.1 0) (nI j) (.ref (G.1 (.inl (9, j)))) hG.k1_0 (hG.a1_0 (by omega)) (hG.k2_0 (by omega)) rfl (by omega) (by have := hs.2; omega) (hG.a2_0 _ (by omega)) ⟨_, rfl⟩ hs.1.1) ymV_Jx4a65c_get_915e3 kc_0 hG.k1_0 tw_343 ⟨rfl, rfl⟩ ⟨Nat.le_of_ble_eq_true rfl, Nat.le_of_ble_eq_true rfl⟩ rfl rfl (Nat.le_of_ble_eq_true rfl) dX10_lostInAll_21 ⟨Nat.le_of_ble_eq_true rfl, Nat.le_of_ble_eq_true rfl⟩ (hk_ea (fun H locs hH hS => ?_))
      refine hk_cast (L := (.inl (9, j))) hx hb ht hown hK hH kc_5 (hG.k9 j (by omega)) tw_213 dX10_lostInAll_24 ?_
      refine hk_geti (L := (.inl (9, j))) (v := τ (9, j) 4) hx hb ht hown hK hH kc_5 (hG.k9 j (by omega)) 4 (by decide) rfl tw_225 rfl rfl dX10_lostInAll_27 ?_
      refine lv_iadd hx hb dX10_lostInAll_30 ?_
      refine lv_istore_n (lv' := [(1, .int (sum + (τ (9, j) 4))), (2, .int (nI j)), (0, .ref (G.1 (.inl (0, 0))))]) hx hb dX10_lostInAll_31 rfl hl (by decide) rfl (fun ls hl => ?_)
      refine lv_iinc (v := nI (j + 1)) (lv' := [(2, .int (nI (j + 1))), (1, .int (sum + (τ (9, j) 4))), (0, .ref (G.1 (.inl (0, 0))))]) hx hb dX10_lostInAll_32 hl (k := 1) rfl (nI_1 _) (by decide) rfl (fun ls hl => ?_)
      refine lv_goto (tgt := 4) hx hb dX10_lostInAll_35 (by decide) ?_
      have EB_4 : (B_lostInAll Z τ) j sum = sum + (τ (9, j) 4) := by simp only [B_lostInAll]
      exact ih (j + 1) (sum + (τ (9, j) 4)) _ _ _ QQ (by omega) hH hS (lv_sub hl [0, 1, 2] rfl) (fun H locs ls hH hS hl => kk H locs ls hH hS (by rw [hk_it_s, EB_4]; exact hl))
  refine LP_1 (Z.1 0) 0 0 _ _ _ _ (by omega) hH hS (lv_sub hl [0, 1, 2] rfl) (fun H locs ls hH hS hl => ?_)
  refine lv_iload_n hx hb dX10_lostInAll_38 rfl (lv_at hl 1 rfl) ?_
  exact hk_iret hx hb hr hlocks hH hS ⟨(by simp only [F_lostInAll]), rfl, rfl⟩ dX10_lostInAll_39
def B_payInAll (Z : hk_Z) (τ : hk_v) (j : Nat) (sum : Int32) : Int32 := sum + (τ (10, j) 5)
def F_payInAll (Z : hk_Z) (τ : hk_v)  : Int32 := (hk_it (B_payInAll Z τ) (Z.1 1) 0 0)
set_option maxHeartbeats 4000000 in
set_option maxRecDepth 100000 in
theorem c_payInAll (l : Launch) (D : hk_D) (G : hk_G) (Z : hk_Z) (τ σ : hk_v)  (hG : hk_Y D G Z) (hs : hk_sz Z τ) : Met l yX10_payInAll (hk_ws yX10_payInAll cX10_payInAll 3 (some FieldType.int)) ({ frames := 3, cells := 0, slots := 0, locals := 64 }) (hk_P D G (hk_cm τ σ) [.ref (G.1 (.inl (0, 0)))]) (hk_Q D (hk_e G (some (.int (F_payInAll Z τ))) (hk_cm τ σ))) 0 0 (hk_A D) := by
  refine hk_met (by decide +kernel) (Nat.le_of_ble_eq_true rfl) (fun p e s m below meth c hx hb hr hml hlocks ht hown hin hK hH hS ls hl => ?_)
  have hl : lv_has ls 3 [(0, .ref (G.1 (.inl (0, 0))))] := hl
  refine lv_iconst (v := 0) hx hb dX10_payInAll_0 (by decide) ?_
  refine lv_istore_n (lv' := [(1, .int 0), (0, .ref (G.1 (.inl (0, 0))))]) hx hb dX10_payInAll_1 rfl hl (by decide) rfl (fun ls hl => ?_)
  refine lv_iconst (v := 0) hx hb dX10_payInAll_2 (by decide) ?_
  refine lv_istore_n (lv' := [(2, .int 0), (1, .int 0), (0, .ref (G.1 (.inl (0, 0))))]) hx hb dX10_payInAll_3 rfl hl (by decide) rfl (fun ls hl => ?_)
  have LP_1 : ∀ (r j : Nat) (sum : Int32) (H : Heap) (locs : List Loc) (ls : Array Slot) (QQ : State → Prop), j + r = Z.1 1 → hk_H D G (hk_cm τ σ) H → va_S (hk_A D) s.heap H locs → lv_has ls 3 [(2, .int (nI j)), (1, .int sum), (0, .ref (G.1 (.inl (0, 0))))] → (∀ (H : Heap) (locs : List Loc) (ls : Array Slot), hk_H D G (hk_cm τ σ) H → va_S (hk_A D) s.heap H locs → lv_has ls 3 [(2, .int (nI (Z.1 1))), (1, .int (hk_it (B_payInAll Z τ) r j sum)), (0, .ref (G.1 (.inl (0, 0))))] → W p l e ({ frames := 3, cells := 0, slots := 0, locals := 64 }) s m ([.ref (G.1 (.inl (0, 0)))] : List Value).toArray below meth c H locs 0 0 QQ (F0 m 38 ls [])) → W p l e ({ frames := 3, cells := 0, slots := 0, locals := 64 }) s m ([.ref (G.1 (.inl (0, 0)))] : List Value).toArray below meth c H locs 0 0 QQ (F0 m 4 ls []) := by
    intro r
    induction r with
    | zero =>
      intro j sum H locs ls QQ hn_payInAll hH hS hl kk
      have hz6 := hs.2
      refine lv_iload_n hx hb dX10_payInAll_4 rfl (lv_at hl 0 rfl) ?_
      refine lv_aload_n hx hb dX10_payInAll_5 rfl (lv_at hl 2 rfl) ?_
      refine hk_getr (L := (.inl (0, 0))) (v := .ref (G.1 (.inl (1, 1)))) hx hb ht hown hK hH kc_11 hG.k0 1 (by decide) rfl tw_169 rfl hG.r0_1 dX10_payInAll_6 ?_
      refine hk_cV (L := (.inl (1, 1))) (As := []) (rest := [.int (nI j)]) hx hb hml hl.1 ht hown hK hH hS (c_size l D G τ σ 1 hG.k1_1) ymV_Jx4a65c_size_8abf5 kc_0 hG.k1_1 tw_209 ⟨rfl, rfl⟩ ⟨Nat.le_of_ble_eq_true rfl, Nat.le_of_ble_eq_true rfl⟩ rfl rfl (Nat.le_of_ble_eq_true rfl) dX10_payInAll_9 ⟨Nat.le_of_ble_eq_true rfl, Nat.le_of_ble_eq_true rfl⟩ (hk_ea (fun H locs hH hS => ?_))
      rw [show F_size τ 1 = τ (1, 1) 2 from rfl]
      refine lv_icmp_ge (tgt := 38) hx hb dX10_payInAll_12 (by decide) (fun c_2 => ?_) (fun c_2 => ?_)
      rotate_left
      · exfalso; rw [hs.1.2.1] at c_2; first | exact nI_ge (by omega) (by omega) c_2 | exact c_2 (nI_le (by omega) (by omega)) | exact nI_nlt (by omega) (by omega) c_2 | exact c_2 (nI_lt (by omega) (by omega))
      have hiN : j = Z.1 1 := by omega
      rw [hiN] at hl
      exact kk H locs ls hH hS (lv_sub hl [0, 1, 2] rfl)
    | succ r ih =>
      intro j sum H locs ls QQ hn_payInAll hH hS hl kk
      have hz6 := hs.2
      refine lv_iload_n hx hb dX10_payInAll_4 rfl (lv_at hl 0 rfl) ?_
      refine lv_aload_n hx hb dX10_payInAll_5 rfl (lv_at hl 2 rfl) ?_
      refine hk_getr (L := (.inl (0, 0))) (v := .ref (G.1 (.inl (1, 1)))) hx hb ht hown hK hH kc_11 hG.k0 1 (by decide) rfl tw_169 rfl hG.r0_1 dX10_payInAll_6 ?_
      refine hk_cV (L := (.inl (1, 1))) (As := []) (rest := [.int (nI j)]) hx hb hml hl.1 ht hown hK hH hS (c_size l D G τ σ 1 hG.k1_1) ymV_Jx4a65c_size_8abf5 kc_0 hG.k1_1 tw_209 ⟨rfl, rfl⟩ ⟨Nat.le_of_ble_eq_true rfl, Nat.le_of_ble_eq_true rfl⟩ rfl rfl (Nat.le_of_ble_eq_true rfl) dX10_payInAll_9 ⟨Nat.le_of_ble_eq_true rfl, Nat.le_of_ble_eq_true rfl⟩ (hk_ea (fun H locs hH hS => ?_))
      rw [show F_size τ 1 = τ (1, 1) 2 from rfl]
      refine lv_icmp_ge (tgt := 38) hx hb dX10_payInAll_12 (by decide) (fun c_3 => ?_) (fun c_3 => ?_)
      · exfalso; rw [hs.1.2.1] at c_3; first | exact nI_ge (by omega) (by omega) c_3 | exact c_3 (nI_le (by omega) (by omega)) | exact nI_nlt (by omega) (by omega) c_3 | exact c_3 (nI_lt (by omega) (by omega))
      refine lv_iload_n hx hb dX10_payInAll_15 rfl (lv_at hl 1 rfl) ?_
      refine lv_aload_n hx hb dX10_payInAll_16 rfl (lv_at hl 2 rfl) ?_
      refine hk_getr (L := (.inl (0, 0))) (v := .ref (G.1 (.inl (1, 1)))) hx hb ht hown hK hH kc_11 hG.k0 1 (by decide) rfl tw_169 rfl hG.r0_1 dX10_payInAll_17 ?_
      refine lv_iload_n hx hb dX10_payInAll_20 rfl (lv_at hl 0 rfl) ?_
      refine hk_cV (L := (.inl (1, 1))) (As := [.int (nI j)]) (rest := [.int sum]) hx hb hml hl.1 ht hown hK hH hS (c_lget l D G τ σ 1 j (Z.1 1) (nI j) (.ref (G.1 (.inl (10, j)))) hG.k1_1 (hG.a1_1 (by omega)) (hG.k2_1 (by omega)) rfl (by omega) (by have := hs.2; omega) (hG.a2_1 _ (by omega)) ⟨_, rfl⟩ hs.1.2.1) ymV_Jx4a65c_get_915e3 kc_0 hG.k1_1 tw_343 ⟨rfl, rfl⟩ ⟨Nat.le_of_ble_eq_true rfl, Nat.le_of_ble_eq_true rfl⟩ rfl rfl (Nat.le_of_ble_eq_true rfl) dX10_payInAll_21 ⟨Nat.le_of_ble_eq_true rfl, Nat.le_of_ble_eq_true rfl⟩ (hk_ea (fun H locs hH hS => ?_))
      refine hk_cast (L := (.inl (10, j))) hx hb ht hown hK hH kc_4 (hG.k10 j (by omega)) tw_304 dX10_payInAll_24 ?_
      refine hk_geti (L := (.inl (10, j))) (v := τ (10, j) 5) hx hb ht hown hK hH kc_4 (hG.k10 j (by omega)) 5 (by decide) rfl tw_321 rfl rfl dX10_payInAll_27 ?_
      refine lv_iadd hx hb dX10_payInAll_30 ?_
      refine lv_istore_n (lv' := [(1, .int (sum + (τ (10, j) 5))), (2, .int (nI j)), (0, .ref (G.1 (.inl (0, 0))))]) hx hb dX10_payInAll_31 rfl hl (by decide) rfl (fun ls hl => ?_)
      refine lv_iinc (v := nI (j + 1)) (lv' := [(2, .int (nI (j + 1))), (1, .int (sum + (τ (10, j) 5))), (0, .ref (G.1 (.inl (0, 0))))]) hx hb dX10_payInAll_32 hl (k := 1) rfl (nI_1 _) (by decide) rfl (fun ls hl => ?_)
      refine lv_goto (tgt := 4) hx hb dX10_payInAll_35 (by decide) ?_
      have EB_4 : (B_payInAll Z τ) j sum = sum + (τ (10, j) 5) := by simp only [B_payInAll]
      exact ih (j + 1) (sum + (τ (10, j) 5)) _ _ _ QQ (by omega) hH hS (lv_sub hl [0, 1, 2] rfl) (fun H locs ls hH hS hl => kk H locs ls hH hS (by rw [hk_it_s, EB_4]; exact hl))
  refine LP_1 (Z.1 1) 0 0 _ _ _ _ (by omega) hH hS (lv_sub hl [0, 1, 2] rfl) (fun H locs ls hH hS hl => ?_)
  refine lv_iload_n hx hb dX10_payInAll_38 rfl (lv_at hl 1 rfl) ?_
  exact hk_iret hx hb hr hlocks hH hS ⟨(by simp only [F_payInAll]), rfl, rfl⟩ dX10_payInAll_39
theorem ymV_X6_bears : hk_mV yX6_bears cX6_bears 3 (some FieldType.int) RX6 0 := ⟨tw_648, tw_646, tw_647, tw_51, rfl, by decide, by decide, by decide +kernel⟩
def B_bound (Z : hk_Z) (τ : hk_v) (j : Nat) (sum : Int32) : Int32 := sum + (F_bears Z τ j)
def F_bound (Z : hk_Z) (τ : hk_v)  : Int32 := (hk_it (B_bound Z τ) (Z.1 2) 0 0)
set_option maxHeartbeats 4000000 in
set_option maxRecDepth 100000 in
theorem c_bound (l : Launch) (D : hk_D) (G : hk_G) (Z : hk_Z) (τ σ : hk_v)  (hG : hk_Y D G Z) (hs : hk_sz Z τ) : Met l yX10_bound (hk_ws yX10_bound cX10_bound 3 (some FieldType.int)) ({ frames := 4, cells := 0, slots := 0, locals := 86 }) (hk_P D G (hk_cm τ σ) [.ref (G.1 (.inl (0, 0)))]) (hk_Q D (hk_e G (some (.int (F_bound Z τ))) (hk_cm τ σ))) 0 0 (hk_A D) := by
  refine hk_met (by decide +kernel) (Nat.le_of_ble_eq_true rfl) (fun p e s m below meth c hx hb hr hml hlocks ht hown hin hK hH hS ls hl => ?_)
  have hl : lv_has ls 3 [(0, .ref (G.1 (.inl (0, 0))))] := hl
  refine lv_iconst (v := 0) hx hb dX10_bound_0 (by decide) ?_
  refine lv_istore_n (lv' := [(1, .int 0), (0, .ref (G.1 (.inl (0, 0))))]) hx hb dX10_bound_1 rfl hl (by decide) rfl (fun ls hl => ?_)
  refine lv_iconst (v := 0) hx hb dX10_bound_2 (by decide) ?_
  refine lv_istore_n (lv' := [(2, .int 0), (1, .int 0), (0, .ref (G.1 (.inl (0, 0))))]) hx hb dX10_bound_3 rfl hl (by decide) rfl (fun ls hl => ?_)
  have LP_1 : ∀ (r j : Nat) (sum : Int32) (H : Heap) (locs : List Loc) (ls : Array Slot) (QQ : State → Prop), j + r = Z.1 2 → hk_H D G (hk_cm τ σ) H → va_S (hk_A D) s.heap H locs → lv_has ls 3 [(2, .int (nI j)), (1, .int sum), (0, .ref (G.1 (.inl (0, 0))))] → (∀ (H : Heap) (locs : List Loc) (ls : Array Slot), hk_H D G (hk_cm τ σ) H → va_S (hk_A D) s.heap H locs → lv_has ls 3 [(2, .int (nI (Z.1 2))), (1, .int (hk_it (B_bound Z τ) r j sum)), (0, .ref (G.1 (.inl (0, 0))))] → W p l e ({ frames := 4, cells := 0, slots := 0, locals := 86 }) s m ([.ref (G.1 (.inl (0, 0)))] : List Value).toArray below meth c H locs 0 0 QQ (F0 m 38 ls [])) → W p l e ({ frames := 4, cells := 0, slots := 0, locals := 86 }) s m ([.ref (G.1 (.inl (0, 0)))] : List Value).toArray below meth c H locs 0 0 QQ (F0 m 4 ls []) := by
    intro r
    induction r with
    | zero =>
      intro j sum H locs ls QQ hn_bound hH hS hl kk
      have hz6 := hs.2
      refine lv_iload_n hx hb dX10_bound_4 rfl (lv_at hl 0 rfl) ?_
      refine lv_aload_n hx hb dX10_bound_5 rfl (lv_at hl 2 rfl) ?_
      refine hk_getr (L := (.inl (0, 0))) (v := .ref (G.1 (.inl (1, 2)))) hx hb ht hown hK hH kc_11 hG.k0 2 (by decide) rfl tw_170 rfl hG.r0_2 dX10_bound_6 ?_
      refine hk_cV (L := (.inl (1, 2))) (As := []) (rest := [.int (nI j)]) hx hb hml hl.1 ht hown hK hH hS (c_size l D G τ σ 2 hG.k1_2) ymV_Jx4a65c_size_8abf5 kc_0 hG.k1_2 tw_209 ⟨rfl, rfl⟩ ⟨Nat.le_of_ble_eq_true rfl, Nat.le_of_ble_eq_true rfl⟩ rfl rfl (Nat.le_of_ble_eq_true rfl) dX10_bound_9 ⟨Nat.le_of_ble_eq_true rfl, Nat.le_of_ble_eq_true rfl⟩ (hk_ea (fun H locs hH hS => ?_))
      rw [show F_size τ 2 = τ (1, 2) 2 from rfl]
      refine lv_icmp_ge (tgt := 38) hx hb dX10_bound_12 (by decide) (fun c_2 => ?_) (fun c_2 => ?_)
      rotate_left
      · exfalso; rw [hs.1.2.2] at c_2; first | exact nI_ge (by omega) (by omega) c_2 | exact c_2 (nI_le (by omega) (by omega)) | exact nI_nlt (by omega) (by omega) c_2 | exact c_2 (nI_lt (by omega) (by omega))
      have hiN : j = Z.1 2 := by omega
      rw [hiN] at hl
      exact kk H locs ls hH hS (lv_sub hl [0, 1, 2] rfl)
    | succ r ih =>
      intro j sum H locs ls QQ hn_bound hH hS hl kk
      have hz6 := hs.2
      refine lv_iload_n hx hb dX10_bound_4 rfl (lv_at hl 0 rfl) ?_
      refine lv_aload_n hx hb dX10_bound_5 rfl (lv_at hl 2 rfl) ?_
      refine hk_getr (L := (.inl (0, 0))) (v := .ref (G.1 (.inl (1, 2)))) hx hb ht hown hK hH kc_11 hG.k0 2 (by decide) rfl tw_170 rfl hG.r0_2 dX10_bound_6 ?_
      refine hk_cV (L := (.inl (1, 2))) (As := []) (rest := [.int (nI j)]) hx hb hml hl.1 ht hown hK hH hS (c_size l D G τ σ 2 hG.k1_2) ymV_Jx4a65c_size_8abf5 kc_0 hG.k1_2 tw_209 ⟨rfl, rfl⟩ ⟨Nat.le_of_ble_eq_true rfl, Nat.le_of_ble_eq_true rfl⟩ rfl rfl (Nat.le_of_ble_eq_true rfl) dX10_bound_9 ⟨Nat.le_of_ble_eq_true rfl, Nat.le_of_ble_eq_true rfl⟩ (hk_ea (fun H locs hH hS => ?_))
      rw [show F_size τ 2 = τ (1, 2) 2 from rfl]
      refine lv_icmp_ge (tgt := 38) hx hb dX10_bound_12 (by decide) (fun c_3 => ?_) (fun c_3 => ?_)
      · exfalso; rw [hs.1.2.2] at c_3; first | exact nI_ge (by omega) (by omega) c_3 | exact c_3 (nI_le (by omega) (by omega)) | exact nI_nlt (by omega) (by omega) c_3 | exact c_3 (nI_lt (by omega) (by omega))
      refine lv_iload_n hx hb dX10_bound_15 rfl (lv_at hl 1 rfl) ?_
      refine lv_aload_n hx hb dX10_bound_16 rfl (lv_at hl 2 rfl) ?_
      refine hk_getr (L := (.inl (0, 0))) (v := .ref (G.1 (.inl (1, 2)))) hx hb ht hown hK hH kc_11 hG.k0 2 (by decide) rfl tw_170 rfl hG.r0_2 dX10_bound_17 ?_
      refine lv_iload_n hx hb dX10_bound_20 rfl (lv_at hl 0 rfl) ?_
      refine hk_cV (L := (.inl (1, 2))) (As := [.int (nI j)]) (rest := [.int sum]) hx hb hml hl.1 ht hown hK hH hS (c_lget l D G τ σ 2 j (Z.1 2) (nI j) (.ref (G.1 (.inl (11, j)))) hG.k1_2 (hG.a1_2 (by omega)) (hG.k2_2 (by omega)) rfl (by omega) (by have := hs.2; omega) (hG.a2_2 _ (by omega)) ⟨_, rfl⟩ hs.1.2.2) ymV_Jx4a65c_get_915e3 kc_0 hG.k1_2 tw_343 ⟨rfl, rfl⟩ ⟨Nat.le_of_ble_eq_true rfl, Nat.le_of_ble_eq_true rfl⟩ rfl rfl (Nat.le_of_ble_eq_true rfl) dX10_bound_21 ⟨Nat.le_of_ble_eq_true rfl, Nat.le_of_ble_eq_true rfl⟩ (hk_ea (fun H locs hH hS => ?_))
      refine hk_cast (L := (.inl (11, j))) hx hb ht hown hK hH kc_7 (hG.k11 j (by omega)) tw_365 dX10_bound_24 ?_
      refine hk_cV (L := (.inl (11, j))) (As := []) (rest := [.int sum]) hx hb hml hl.1 ht hown hK hH hS (c_bears l D G Z τ σ j hG (by omega)) ymV_X6_bears kc_7 (hG.k11 j (by omega)) tw_645 ⟨rfl, rfl⟩ ⟨Nat.le_of_ble_eq_true rfl, Nat.le_of_ble_eq_true rfl⟩ rfl rfl (Nat.le_of_ble_eq_true rfl) dX10_bound_27 ⟨Nat.le_of_ble_eq_true rfl, Nat.le_of_ble_eq_true rfl⟩ (hk_ea (fun H locs hH hS => ?_))
      refine lv_iadd hx hb dX10_bound_30 ?_
      refine lv_istore_n (lv' := [(1, .int (sum + (F_bears Z τ j))), (2, .int (nI j)), (0, .ref (G.1 (.inl (0, 0))))]) hx hb dX10_bound_31 rfl hl (by decide) rfl (fun ls hl => ?_)
      refine lv_iinc (v := nI (j + 1)) (lv' := [(2, .int (nI (j + 1))), (1, .int (sum + (F_bears Z τ j))), (0, .ref (G.1 (.inl (0, 0))))]) hx hb dX10_bound_32 hl (k := 1) rfl (nI_1 _) (by decide) rfl (fun ls hl => ?_)
      refine lv_goto (tgt := 4) hx hb dX10_bound_35 (by decide) ?_
      have EB_4 : (B_bound Z τ) j sum = sum + (F_bears Z τ j) := by simp only [B_bound]
      exact ih (j + 1) (sum + (F_bears Z τ j)) _ _ _ QQ (by omega) hH hS (lv_sub hl [0, 1, 2] rfl) (fun H locs ls hH hS hl => kk H locs ls hH hS (by rw [hk_it_s, EB_4]; exact hl))
  refine LP_1 (Z.1 2) 0 0 _ _ _ _ (by omega) hH hS (lv_sub hl [0, 1, 2] rfl) (fun H locs ls hH hS hl => ?_)
  refine lv_iload_n hx hb dX10_bound_38 rfl (lv_at hl 1 rfl) ?_
  exact hk_iret hx hb hr hlocks hH hS ⟨(by simp only [F_bound]), rfl, rfl⟩ dX10_bound_39
theorem hk_led_c {τ : hk_v} (h : hk_pr τ) : F_led τ = nI (F_led τ).toNatClampNeg ∧ (F_led τ).toNatClampNeg ≤ 100 := by
  obtain ⟨n, hn, e⟩ := hk_led_n h
  rw [e, nI_clamp (by omega)]
  exact ⟨rfl, hn⟩
def B_chargedInAll (τ : hk_v) (j : Nat) (sum : Int32) : Int32 := sum + (F_inForce τ 1 (τ (5, 1) 3).toNatClampNeg (τ (4, 2) j))
def F_chargedInAll (τ : hk_v)  : Int32 := (hk_it (B_chargedInAll τ) ((F_led τ).toNatClampNeg) 0 0)
set_option maxHeartbeats 4000000 in
set_option maxRecDepth 100000 in
theorem c_chargedInAll (l : Launch) (D : hk_D) (G : hk_G) (Z : hk_Z) (τ σ : hk_v)  (hG : hk_Y D G Z) (hn1 : hk_nt τ 1) (hpr : hk_pr τ) : Met l yX10_chargedInAll (hk_ws yX10_chargedInAll cX10_chargedInAll 3 (some FieldType.int)) ({ frames := 2, cells := 0, slots := 0, locals := 33 }) (hk_P D G (hk_cm τ σ) [.ref (G.1 (.inl (0, 0)))]) (hk_Q D (hk_e G (some (.int (F_chargedInAll τ))) (hk_cm τ σ))) 0 0 (hk_A D) := by
  refine hk_met (by decide +kernel) (Nat.le_of_ble_eq_true rfl) (fun p e s m below meth c hx hb hr hml hlocks ht hown hin hK hH hS ls hl => ?_)
  have hl : lv_has ls 3 [(0, .ref (G.1 (.inl (0, 0))))] := hl
  refine lv_iconst (v := 0) hx hb dX10_chargedInAll_0 (by decide) ?_
  refine lv_istore_n (lv' := [(1, .int 0), (0, .ref (G.1 (.inl (0, 0))))]) hx hb dX10_chargedInAll_1 rfl hl (by decide) rfl (fun ls hl => ?_)
  refine lv_iconst (v := 0) hx hb dX10_chargedInAll_2 (by decide) ?_
  refine lv_istore_n (lv' := [(2, .int 0), (1, .int 0), (0, .ref (G.1 (.inl (0, 0))))]) hx hb dX10_chargedInAll_3 rfl hl (by decide) rfl (fun ls hl => ?_)
  have LP_1 : ∀ (r j : Nat) (sum : Int32) (H : Heap) (locs : List Loc) (ls : Array Slot) (QQ : State → Prop), j + r = (F_led τ).toNatClampNeg → hk_H D G (hk_cm τ σ) H → va_S (hk_A D) s.heap H locs → lv_has ls 3 [(2, .int (nI j)), (1, .int sum), (0, .ref (G.1 (.inl (0, 0))))] → (∀ (H : Heap) (locs : List Loc) (ls : Array Slot), hk_H D G (hk_cm τ σ) H → va_S (hk_A D) s.heap H locs → lv_has ls 3 [(2, .int (nI ((F_led τ).toNatClampNeg))), (1, .int (hk_it (B_chargedInAll τ) r j sum)), (0, .ref (G.1 (.inl (0, 0))))] → W p l e ({ frames := 2, cells := 0, slots := 0, locals := 33 }) s m ([.ref (G.1 (.inl (0, 0)))] : List Value).toArray below meth c H locs 0 0 QQ (F0 m 40 ls [])) → W p l e ({ frames := 2, cells := 0, slots := 0, locals := 33 }) s m ([.ref (G.1 (.inl (0, 0)))] : List Value).toArray below meth c H locs 0 0 QQ (F0 m 4 ls []) := by
    intro r
    induction r with
    | zero =>
      intro j sum H locs ls QQ hn_chargedInAll hH hS hl kk
      have hle := (hk_led_c hpr).2
      refine lv_iload_n hx hb dX10_chargedInAll_4 rfl (lv_at hl 0 rfl) ?_
      refine lv_aload_n hx hb dX10_chargedInAll_5 rfl (lv_at hl 2 rfl) ?_
      refine hk_getr (L := (.inl (0, 0))) (v := .ref (G.1 (.inl (4, 0)))) hx hb ht hown hK hH kc_11 hG.k0 4 (by decide) rfl tw_172 rfl hG.r0_4 dX10_chargedInAll_6 ?_
      refine hk_cV (L := (.inl (4, 0))) (As := []) (rest := [.int (nI j)]) hx hb hml hl.1 ht hown hK hH hS (c_led l D G Z τ σ hG) ymV_X9_led kc_10 hG.k4_0 tw_600 ⟨rfl, rfl⟩ ⟨Nat.le_of_ble_eq_true rfl, Nat.le_of_ble_eq_true rfl⟩ rfl rfl (Nat.le_of_ble_eq_true rfl) dX10_chargedInAll_9 ⟨Nat.le_of_ble_eq_true rfl, Nat.le_of_ble_eq_true rfl⟩ (hk_ea (fun H locs hH hS => ?_))
      refine lv_icmp_ge (tgt := 40) hx hb dX10_chargedInAll_12 (by decide) (fun c_2 => ?_) (fun c_2 => ?_)
      rotate_left
      · exfalso; rw [(hk_led_c hpr).1] at c_2; first | exact nI_ge (by omega) (by omega) c_2 | exact c_2 (nI_le (by omega) (by omega)) | exact nI_nlt (by omega) (by omega) c_2 | exact c_2 (nI_lt (by omega) (by omega))
      have hiN : j = (F_led τ).toNatClampNeg := by omega
      rw [hiN] at hl
      exact kk H locs ls hH hS (lv_sub hl [0, 1, 2] rfl)
    | succ r ih =>
      intro j sum H locs ls QQ hn_chargedInAll hH hS hl kk
      have hle := (hk_led_c hpr).2
      refine lv_iload_n hx hb dX10_chargedInAll_4 rfl (lv_at hl 0 rfl) ?_
      refine lv_aload_n hx hb dX10_chargedInAll_5 rfl (lv_at hl 2 rfl) ?_
      refine hk_getr (L := (.inl (0, 0))) (v := .ref (G.1 (.inl (4, 0)))) hx hb ht hown hK hH kc_11 hG.k0 4 (by decide) rfl tw_172 rfl hG.r0_4 dX10_chargedInAll_6 ?_
      refine hk_cV (L := (.inl (4, 0))) (As := []) (rest := [.int (nI j)]) hx hb hml hl.1 ht hown hK hH hS (c_led l D G Z τ σ hG) ymV_X9_led kc_10 hG.k4_0 tw_600 ⟨rfl, rfl⟩ ⟨Nat.le_of_ble_eq_true rfl, Nat.le_of_ble_eq_true rfl⟩ rfl rfl (Nat.le_of_ble_eq_true rfl) dX10_chargedInAll_9 ⟨Nat.le_of_ble_eq_true rfl, Nat.le_of_ble_eq_true rfl⟩ (hk_ea (fun H locs hH hS => ?_))
      refine lv_icmp_ge (tgt := 40) hx hb dX10_chargedInAll_12 (by decide) (fun c_3 => ?_) (fun c_3 => ?_)
      · exfalso; rw [(hk_led_c hpr).1] at c_3; first | exact nI_ge (by omega) (by omega) c_3 | exact c_3 (nI_le (by omega) (by omega)) | exact nI_nlt (by omega) (by omega) c_3 | exact c_3 (nI_lt (by omega) (by omega))
      refine lv_iload_n hx hb dX10_chargedInAll_15 rfl (lv_at hl 1 rfl) ?_
      refine lv_aload_n hx hb dX10_chargedInAll_16 rfl (lv_at hl 2 rfl) ?_
      refine hk_getr (L := (.inl (0, 0))) (v := .ref (G.1 (.inl (5, 1)))) hx hb ht hown hK hH kc_11 hG.k0 6 (by decide) rfl tw_174 rfl hG.r0_6 dX10_chargedInAll_17 ?_
      refine lv_aload_n hx hb dX10_chargedInAll_20 rfl (lv_at hl 2 rfl) ?_
      refine hk_getr (L := (.inl (0, 0))) (v := .ref (G.1 (.inl (4, 0)))) hx hb ht hown hK hH kc_11 hG.k0 4 (by decide) rfl tw_172 rfl hG.r0_4 dX10_chargedInAll_21 ?_
      refine hk_getr (L := (.inl (4, 0))) (v := .ref (G.1 (.inl (4, 2)))) hx hb ht hown hK hH kc_10 hG.k4_0 1 (by decide) rfl tw_113 rfl hG.r4_1 dX10_chargedInAll_24 ?_
      refine lv_iload_n hx hb dX10_chargedInAll_27 rfl (lv_at hl 0 rfl) ?_
      refine hk_ild (L := (.inl (4, 2))) (v := τ (4, 2) j) hx hb hK hH hG.k4_2 (vp_in_nI (by omega) (by omega)) (by rw [nI_clamp (by omega)]; rfl) dX10_chargedInAll_28 ?_
      refine hk_cV (L := (.inl (5, 1))) (As := [.int (τ (4, 2) j)]) (rest := [.int sum]) hx hb hml hl.1 ht hown hK hH hS (c_inForce l D G Z τ σ 1 (τ (5, 1) 3).toNatClampNeg (τ (4, 2) j) hG (by decide) hn1.1 hn1.2) ymV_X7_inForce kc_8 (hG.k5 1 (by decide)) tw_482 ⟨rfl, rfl⟩ ⟨Nat.le_of_ble_eq_true rfl, Nat.le_of_ble_eq_true rfl⟩ rfl rfl (Nat.le_of_ble_eq_true rfl) dX10_chargedInAll_29 ⟨Nat.le_of_ble_eq_true rfl, Nat.le_of_ble_eq_true rfl⟩ (hk_ea (fun H locs hH hS => ?_))
      refine lv_iadd hx hb dX10_chargedInAll_32 ?_
      refine lv_istore_n (lv' := [(1, .int (sum + (F_inForce τ 1 (τ (5, 1) 3).toNatClampNeg (τ (4, 2) j)))), (2, .int (nI j)), (0, .ref (G.1 (.inl (0, 0))))]) hx hb dX10_chargedInAll_33 rfl hl (by decide) rfl (fun ls hl => ?_)
      refine lv_iinc (v := nI (j + 1)) (lv' := [(2, .int (nI (j + 1))), (1, .int (sum + (F_inForce τ 1 (τ (5, 1) 3).toNatClampNeg (τ (4, 2) j)))), (0, .ref (G.1 (.inl (0, 0))))]) hx hb dX10_chargedInAll_34 hl (k := 1) rfl (nI_1 _) (by decide) rfl (fun ls hl => ?_)
      refine lv_goto (tgt := 4) hx hb dX10_chargedInAll_37 (by decide) ?_
      have EB_4 : (B_chargedInAll τ) j sum = sum + (F_inForce τ 1 (τ (5, 1) 3).toNatClampNeg (τ (4, 2) j)) := by simp only [B_chargedInAll]
      exact ih (j + 1) (sum + (F_inForce τ 1 (τ (5, 1) 3).toNatClampNeg (τ (4, 2) j))) _ _ _ QQ (by omega) hH hS (lv_sub hl [0, 1, 2] rfl) (fun H locs ls hH hS hl => kk H locs ls hH hS (by rw [hk_it_s, EB_4]; exact hl))
  refine LP_1 ((F_led τ).toNatClampNeg) 0 0 _ _ _ _ (by omega) hH hS (lv_sub hl [0, 1, 2] rfl) (fun H locs ls hH hS hl => ?_)
  refine lv_iload_n hx hb dX10_chargedInAll_40 rfl (lv_at hl 1 rfl) ?_
  exact hk_iret hx hb hr hlocks hH hS ⟨(by simp only [F_chargedInAll]), rfl, rfl⟩ dX10_chargedInAll_41
theorem ymV_X5_ofGarden : hk_mV yX5_ofGarden cX5_ofGarden 4 (some FieldType.int) RX5 1 := ⟨tw_567, tw_565, tw_566, tw_38, rfl, by decide, by decide, by decide +kernel⟩
theorem ymV_X10_inKilnsOf : hk_mV yX10_inKilnsOf cX10_inKilnsOf 4 (some FieldType.int) RX10 1 := ⟨tw_571, tw_570, tw_13, tw_34, rfl, by decide, by decide, by decide +kernel⟩
def F_about (Z : hk_Z) (τ : hk_v) (g : Int32) (w : Int32) : Int32 := (if hk_in g 0 (τ (1, 0) 2 - 1) = 0 then (-1) else (if w = 0 then τ (9, g.toNatClampNeg) 2 else (if w = 1 then τ (9, g.toNatClampNeg) 3 else (if w = 2 then F_gofGarden τ g else (if w = 3 then F_inKilnsOf Z τ g else (if w = 4 then τ (9, g.toNatClampNeg) 4 else (if w = 5 then τ (9, g.toNatClampNeg) 5 else (-1))))))))
set_option maxHeartbeats 4000000 in
set_option maxRecDepth 100000 in
theorem c_about (l : Launch) (D : hk_D) (G : hk_G) (Z : hk_Z) (τ σ : hk_v) (g : Int32) (w : Int32) (hG : hk_Y D G Z) (hs : hk_sz Z τ) (hlo : hk_lo Z τ) : Met l yX10_about (hk_ws yX10_about cX10_about 4 (some FieldType.int)) ({ frames := 4, cells := 0, slots := 0, locals := 87 }) (hk_P D G (hk_cm τ σ) [.ref (G.1 (.inl (0, 0))), .int g, .int w]) (hk_Q D (hk_e G (some (.int (F_about Z τ g w))) (hk_cm τ σ))) 0 0 (hk_A D) := by
  refine hk_met (by decide +kernel) (Nat.le_of_ble_eq_true rfl) (fun p e s m below meth c hx hb hr hml hlocks ht hown hin hK hH hS ls hl => ?_)
  have hl : lv_has ls 4 [(0, .ref (G.1 (.inl (0, 0)))), (1, .int g), (2, .int w)] := hl
  refine lv_aload_n hx hb dX10_about_0 rfl (lv_at hl 0 rfl) ?_
  refine lv_iload_n hx hb dX10_about_1 rfl (lv_at hl 1 rfl) ?_
  by_cases ho_1 : hk_in g 0 (τ (1, 0) 2 - 1) = 0
  · refine hk_cV (L := (.inl (0, 0))) (As := [.int g]) (rest := []) hx hb hml hl.1 ht hown hK hH hS (c_gardenOf_out l D G Z τ σ g hG hs ho_1) ymV_X10_gardenOf kc_11 hG.k0 tw_357 ⟨rfl, rfl⟩ ⟨Nat.le_of_ble_eq_true rfl, Nat.le_of_ble_eq_true rfl⟩ rfl rfl (Nat.le_of_ble_eq_true rfl) dX10_about_2 ⟨Nat.le_of_ble_eq_true rfl, Nat.le_of_ble_eq_true rfl⟩ (hk_ea (fun H locs hH hS => ?_))
    refine lv_astore_nN (lv' := [(3, .null), (0, .ref (G.1 (.inl (0, 0)))), (1, .int g), (2, .int w)]) hx hb dX10_about_5 rfl hl (by decide) rfl (fun ls hl => ?_)
    refine lv_aload_nN hx hb dX10_about_6 rfl (lv_at hl 0 rfl) ?_
    refine lv_ifnonnullN hx hb dX10_about_7 ?_
    refine lv_iconst (v := -1) hx hb dX10_about_10 (by decide) ?_
    exact hk_iret hx hb hr hlocks hH hS ⟨(by simp only [F_about, if_pos ho_1]), rfl, rfl⟩ dX10_about_11
  · refine hk_cV (L := (.inl (0, 0))) (As := [.int g]) (rest := []) hx hb hml hl.1 ht hown hK hH hS (c_gardenOf_in l D G Z τ σ g hG hs ho_1) ymV_X10_gardenOf kc_11 hG.k0 tw_357 ⟨rfl, rfl⟩ ⟨Nat.le_of_ble_eq_true rfl, Nat.le_of_ble_eq_true rfl⟩ rfl rfl (Nat.le_of_ble_eq_true rfl) dX10_about_2 ⟨Nat.le_of_ble_eq_true rfl, Nat.le_of_ble_eq_true rfl⟩ (hk_ea (fun H locs hH hS => ?_))
    refine lv_astore_n (lv' := [(3, .ref (G.1 (.inl (9, g.toNatClampNeg)))), (0, .ref (G.1 (.inl (0, 0)))), (1, .int g), (2, .int w)]) hx hb dX10_about_5 rfl hl (by decide) rfl (fun ls hl => ?_)
    refine lv_aload_n hx hb dX10_about_6 rfl (lv_at hl 0 rfl) ?_
    refine lv_ifnonnull (tgt := 12) hx hb dX10_about_7 (by decide) ?_
    refine lv_iload_n hx hb dX10_about_12 rfl (lv_at hl 3 rfl) ?_
    rcases hk_sw5 w with (rfl | rfl | rfl | rfl | rfl | rfl) | hsw
    · refine lv_tableIn (x := 0) (tgt := 52) hx hb dX10_about_13 (by decide) (by decide) rfl (by decide) ?_
      refine lv_aload_n hx hb dX10_about_52 rfl (lv_at hl 0 rfl) ?_
      refine hk_geti (L := (.inl (9, g.toNatClampNeg))) (v := τ (9, g.toNatClampNeg) 2) hx hb ht hown hK hH kc_5 (hG.k9 g.toNatClampNeg (hk_in_sz hs.1.1 (by have := hs.2; omega) ho_1).1) 2 (by decide) rfl tw_222 rfl rfl dX10_about_53 ?_
      exact hk_iret hx hb hr hlocks hH hS ⟨(by simp [F_about, if_neg ho_1]), rfl, rfl⟩ dX10_about_56
    · refine lv_tableIn (x := 1) (tgt := 57) hx hb dX10_about_13 (by decide) (by decide) rfl (by decide) ?_
      refine lv_aload_n hx hb dX10_about_57 rfl (lv_at hl 0 rfl) ?_
      refine hk_geti (L := (.inl (9, g.toNatClampNeg))) (v := τ (9, g.toNatClampNeg) 3) hx hb ht hown hK hH kc_5 (hG.k9 g.toNatClampNeg (hk_in_sz hs.1.1 (by have := hs.2; omega) ho_1).1) 3 (by decide) rfl tw_224 rfl rfl dX10_about_58 ?_
      exact hk_iret hx hb hr hlocks hH hS ⟨(by simp [F_about, if_neg ho_1]), rfl, rfl⟩ dX10_about_61
    · refine lv_tableIn (x := 2) (tgt := 62) hx hb dX10_about_13 (by decide) (by decide) rfl (by decide) ?_
      refine lv_aload_n hx hb dX10_about_62 rfl (lv_at hl 1 rfl) ?_
      refine hk_getr (L := (.inl (0, 0))) (v := .ref (G.1 (.inl (3, 0)))) hx hb ht hown hK hH kc_11 hG.k0 3 (by decide) rfl tw_171 rfl hG.r0_3 dX10_about_63 ?_
      refine lv_iload_n hx hb dX10_about_66 rfl (lv_at hl 2 rfl) ?_
      refine hk_cV (L := (.inl (3, 0))) (As := [.int g]) (rest := []) hx hb hml hl.1 ht hown hK hH hS (c_gofGarden l D G Z τ σ g hG) ymV_X5_ofGarden kc_6 hG.k3_0 tw_564 ⟨rfl, rfl⟩ ⟨Nat.le_of_ble_eq_true rfl, Nat.le_of_ble_eq_true rfl⟩ rfl rfl (Nat.le_of_ble_eq_true rfl) dX10_about_67 ⟨Nat.le_of_ble_eq_true rfl, Nat.le_of_ble_eq_true rfl⟩ (hk_ea (fun H locs hH hS => ?_))
      exact hk_iret hx hb hr hlocks hH hS ⟨(by simp [F_about, if_neg ho_1]), rfl, rfl⟩ dX10_about_70
    · refine lv_tableIn (x := 3) (tgt := 71) hx hb dX10_about_13 (by decide) (by decide) rfl (by decide) ?_
      refine lv_aload_n hx hb dX10_about_71 rfl (lv_at hl 1 rfl) ?_
      refine lv_iload_n hx hb dX10_about_72 rfl (lv_at hl 2 rfl) ?_
      refine hk_cV (L := (.inl (0, 0))) (As := [.int g]) (rest := []) hx hb hml hl.1 ht hown hK hH hS (c_inKilnsOf l D G Z τ σ g hG hs hlo) ymV_X10_inKilnsOf kc_11 hG.k0 tw_568 ⟨rfl, rfl⟩ ⟨Nat.le_of_ble_eq_true rfl, Nat.le_of_ble_eq_true rfl⟩ rfl rfl (Nat.le_of_ble_eq_true rfl) dX10_about_73 ⟨Nat.le_of_ble_eq_true rfl, Nat.le_of_ble_eq_true rfl⟩ (hk_ea (fun H locs hH hS => ?_))
      exact hk_iret hx hb hr hlocks hH hS ⟨(by simp [F_about, if_neg ho_1]), rfl, rfl⟩ dX10_about_76
    · refine lv_tableIn (x := 4) (tgt := 77) hx hb dX10_about_13 (by decide) (by decide) rfl (by decide) ?_
      refine lv_aload_n hx hb dX10_about_77 rfl (lv_at hl 0 rfl) ?_
      refine hk_geti (L := (.inl (9, g.toNatClampNeg))) (v := τ (9, g.toNatClampNeg) 4) hx hb ht hown hK hH kc_5 (hG.k9 g.toNatClampNeg (hk_in_sz hs.1.1 (by have := hs.2; omega) ho_1).1) 4 (by decide) rfl tw_225 rfl rfl dX10_about_78 ?_
      exact hk_iret hx hb hr hlocks hH hS ⟨(by simp [F_about, if_neg ho_1]), rfl, rfl⟩ dX10_about_81
    · refine lv_tableIn (x := 5) (tgt := 82) hx hb dX10_about_13 (by decide) (by decide) rfl (by decide) ?_
      refine lv_aload_n hx hb dX10_about_82 rfl (lv_at hl 0 rfl) ?_
      refine hk_geti (L := (.inl (9, g.toNatClampNeg))) (v := τ (9, g.toNatClampNeg) 5) hx hb ht hown hK hH kc_5 (hG.k9 g.toNatClampNeg (hk_in_sz hs.1.1 (by have := hs.2; omega) ho_1).1) 5 (by decide) rfl tw_226 rfl rfl dX10_about_83 ?_
      exact hk_iret hx hb hr hlocks hH hS ⟨(by simp [F_about, if_neg ho_1]), rfl, rfl⟩ dX10_about_86
    · refine lv_tableOut (tgt := 87) hx hb dX10_about_13 hsw.1 (by decide) ?_
      refine lv_iconst (v := -1) hx hb dX10_about_87 (by decide) ?_
      exact hk_iret hx hb hr hlocks hH hS ⟨(by simp [F_about, if_neg ho_1, hsw]), rfl, rfl⟩ dX10_about_88
theorem ymV_X10_chargedInAll : hk_mV yX10_chargedInAll cX10_chargedInAll 3 (some FieldType.int) RX10 0 := ⟨tw_612, tw_611, tw_14, tw_34, rfl, by decide, by decide, by decide +kernel⟩
theorem ymV_X10_lostInAll : hk_mV yX10_lostInAll cX10_lostInAll 3 (some FieldType.int) RX10 0 := ⟨tw_616, tw_615, tw_15, tw_34, rfl, by decide, by decide, by decide +kernel⟩
theorem ymV_X10_payInAll : hk_mV yX10_payInAll cX10_payInAll 3 (some FieldType.int) RX10 0 := ⟨tw_620, tw_619, tw_16, tw_34, rfl, by decide, by decide, by decide +kernel⟩
def F_count (Z : hk_Z) (τ : hk_v) (w : Int32) : Int32 := (if w = 0 then τ (0, 0) 8 else (if w = 1 then τ (1, 0) 2 else (if w = 2 then τ (1, 1) 2 else (if w = 3 then τ (1, 2) 2 else (if w = 4 then τ (4, 0) 2 else (if w = 5 then τ (4, 0) 3 else (if w = 6 then F_chargedInAll τ else (if w = 7 then F_lostInAll Z τ else (if w = 8 then τ (3, 0) 1 else (if w = 9 then F_payInAll Z τ else (-1)))))))))))
set_option maxHeartbeats 4000000 in
set_option maxRecDepth 100000 in
theorem c_count (l : Launch) (D : hk_D) (G : hk_G) (Z : hk_Z) (τ σ : hk_v) (w : Int32) (hG : hk_Y D G Z) (hs : hk_sz Z τ) (hn1 : hk_nt τ 1) (hpr : hk_pr τ) : Met l yX10_count (hk_ws yX10_count cX10_count 2 (some FieldType.int)) ({ frames := 4, cells := 0, slots := 0, locals := 86 }) (hk_P D G (hk_cm τ σ) [.ref (G.1 (.inl (0, 0))), .int w]) (hk_Q D (hk_e G (some (.int (F_count Z τ w))) (hk_cm τ σ))) 0 0 (hk_A D) := by
  refine hk_met (by decide +kernel) (Nat.le_of_ble_eq_true rfl) (fun p e s m below meth c hx hb hr hml hlocks ht hown hin hK hH hS ls hl => ?_)
  have hl : lv_has ls 2 [(0, .ref (G.1 (.inl (0, 0)))), (1, .int w)] := hl
  refine lv_iload_n hx hb dX10_count_0 rfl (lv_at hl 1 rfl) ?_
  rcases hk_sw9 w with (rfl | rfl | rfl | rfl | rfl | rfl | rfl | rfl | rfl | rfl) | hsw
  · refine lv_tableIn (x := 0) (tgt := 56) hx hb dX10_count_1 (by decide) (by decide) rfl (by decide) ?_
    refine lv_aload_n hx hb dX10_count_56 rfl (lv_at hl 0 rfl) ?_
    refine hk_geti (L := (.inl (0, 0))) (v := τ (0, 0) 8) hx hb ht hown hK hH kc_11 hG.k0 8 (by decide) rfl tw_176 rfl rfl dX10_count_57 ?_
    exact hk_iret hx hb hr hlocks hH hS ⟨(by simp [F_count]), rfl, rfl⟩ dX10_count_60
  · refine lv_tableIn (x := 1) (tgt := 61) hx hb dX10_count_1 (by decide) (by decide) rfl (by decide) ?_
    refine lv_aload_n hx hb dX10_count_61 rfl (lv_at hl 0 rfl) ?_
    refine hk_getr (L := (.inl (0, 0))) (v := .ref (G.1 (.inl (1, 0)))) hx hb ht hown hK hH kc_11 hG.k0 0 (by decide) rfl tw_168 rfl hG.r0_0 dX10_count_62 ?_
    refine hk_cV (L := (.inl (1, 0))) (As := []) (rest := []) hx hb hml hl.1 ht hown hK hH hS (c_size l D G τ σ 0 hG.k1_0) ymV_Jx4a65c_size_8abf5 kc_0 hG.k1_0 tw_209 ⟨rfl, rfl⟩ ⟨Nat.le_of_ble_eq_true rfl, Nat.le_of_ble_eq_true rfl⟩ rfl rfl (Nat.le_of_ble_eq_true rfl) dX10_count_65 ⟨Nat.le_of_ble_eq_true rfl, Nat.le_of_ble_eq_true rfl⟩ (hk_ea (fun H locs hH hS => ?_))
    rw [show F_size τ 0 = τ (1, 0) 2 from rfl]
    exact hk_iret hx hb hr hlocks hH hS ⟨(by simp [F_count]), rfl, rfl⟩ dX10_count_68
  · refine lv_tableIn (x := 2) (tgt := 69) hx hb dX10_count_1 (by decide) (by decide) rfl (by decide) ?_
    refine lv_aload_n hx hb dX10_count_69 rfl (lv_at hl 0 rfl) ?_
    refine hk_getr (L := (.inl (0, 0))) (v := .ref (G.1 (.inl (1, 1)))) hx hb ht hown hK hH kc_11 hG.k0 1 (by decide) rfl tw_169 rfl hG.r0_1 dX10_count_70 ?_
    refine hk_cV (L := (.inl (1, 1))) (As := []) (rest := []) hx hb hml hl.1 ht hown hK hH hS (c_size l D G τ σ 1 hG.k1_1) ymV_Jx4a65c_size_8abf5 kc_0 hG.k1_1 tw_209 ⟨rfl, rfl⟩ ⟨Nat.le_of_ble_eq_true rfl, Nat.le_of_ble_eq_true rfl⟩ rfl rfl (Nat.le_of_ble_eq_true rfl) dX10_count_73 ⟨Nat.le_of_ble_eq_true rfl, Nat.le_of_ble_eq_true rfl⟩ (hk_ea (fun H locs hH hS => ?_))
    rw [show F_size τ 1 = τ (1, 1) 2 from rfl]
    exact hk_iret hx hb hr hlocks hH hS ⟨(by simp [F_count]), rfl, rfl⟩ dX10_count_76
  · refine lv_tableIn (x := 3) (tgt := 77) hx hb dX10_count_1 (by decide) (by decide) rfl (by decide) ?_
    refine lv_aload_n hx hb dX10_count_77 rfl (lv_at hl 0 rfl) ?_
    refine hk_getr (L := (.inl (0, 0))) (v := .ref (G.1 (.inl (1, 2)))) hx hb ht hown hK hH kc_11 hG.k0 2 (by decide) rfl tw_170 rfl hG.r0_2 dX10_count_78 ?_
    refine hk_cV (L := (.inl (1, 2))) (As := []) (rest := []) hx hb hml hl.1 ht hown hK hH hS (c_size l D G τ σ 2 hG.k1_2) ymV_Jx4a65c_size_8abf5 kc_0 hG.k1_2 tw_209 ⟨rfl, rfl⟩ ⟨Nat.le_of_ble_eq_true rfl, Nat.le_of_ble_eq_true rfl⟩ rfl rfl (Nat.le_of_ble_eq_true rfl) dX10_count_81 ⟨Nat.le_of_ble_eq_true rfl, Nat.le_of_ble_eq_true rfl⟩ (hk_ea (fun H locs hH hS => ?_))
    rw [show F_size τ 2 = τ (1, 2) 2 from rfl]
    exact hk_iret hx hb hr hlocks hH hS ⟨(by simp [F_count]), rfl, rfl⟩ dX10_count_84
  · refine lv_tableIn (x := 4) (tgt := 85) hx hb dX10_count_1 (by decide) (by decide) rfl (by decide) ?_
    refine lv_aload_n hx hb dX10_count_85 rfl (lv_at hl 0 rfl) ?_
    refine hk_getr (L := (.inl (0, 0))) (v := .ref (G.1 (.inl (4, 0)))) hx hb ht hown hK hH kc_11 hG.k0 4 (by decide) rfl tw_172 rfl hG.r0_4 dX10_count_86 ?_
    refine hk_geti (L := (.inl (4, 0))) (v := τ (4, 0) 2) hx hb ht hown hK hH kc_10 hG.k4_0 2 (by decide) rfl tw_115 rfl rfl dX10_count_89 ?_
    exact hk_iret hx hb hr hlocks hH hS ⟨(by simp [F_count]), rfl, rfl⟩ dX10_count_92
  · refine lv_tableIn (x := 5) (tgt := 93) hx hb dX10_count_1 (by decide) (by decide) rfl (by decide) ?_
    refine lv_aload_n hx hb dX10_count_93 rfl (lv_at hl 0 rfl) ?_
    refine hk_getr (L := (.inl (0, 0))) (v := .ref (G.1 (.inl (4, 0)))) hx hb ht hown hK hH kc_11 hG.k0 4 (by decide) rfl tw_172 rfl hG.r0_4 dX10_count_94 ?_
    refine hk_geti (L := (.inl (4, 0))) (v := τ (4, 0) 3) hx hb ht hown hK hH kc_10 hG.k4_0 3 (by decide) rfl tw_117 rfl rfl dX10_count_97 ?_
    exact hk_iret hx hb hr hlocks hH hS ⟨(by simp [F_count]), rfl, rfl⟩ dX10_count_100
  · refine lv_tableIn (x := 6) (tgt := 101) hx hb dX10_count_1 (by decide) (by decide) rfl (by decide) ?_
    refine lv_aload_n hx hb dX10_count_101 rfl (lv_at hl 0 rfl) ?_
    refine hk_cV (L := (.inl (0, 0))) (As := []) (rest := []) hx hb hml hl.1 ht hown hK hH hS (c_chargedInAll l D G Z τ σ hG hn1 hpr) ymV_X10_chargedInAll kc_11 hG.k0 tw_609 ⟨rfl, rfl⟩ ⟨Nat.le_of_ble_eq_true rfl, Nat.le_of_ble_eq_true rfl⟩ rfl rfl (Nat.le_of_ble_eq_true rfl) dX10_count_102 ⟨Nat.le_of_ble_eq_true rfl, Nat.le_of_ble_eq_true rfl⟩ (hk_ea (fun H locs hH hS => ?_))
    exact hk_iret hx hb hr hlocks hH hS ⟨(by simp [F_count]), rfl, rfl⟩ dX10_count_105
  · refine lv_tableIn (x := 7) (tgt := 106) hx hb dX10_count_1 (by decide) (by decide) rfl (by decide) ?_
    refine lv_aload_n hx hb dX10_count_106 rfl (lv_at hl 0 rfl) ?_
    refine hk_cV (L := (.inl (0, 0))) (As := []) (rest := []) hx hb hml hl.1 ht hown hK hH hS (c_lostInAll l D G Z τ σ hG hs) ymV_X10_lostInAll kc_11 hG.k0 tw_613 ⟨rfl, rfl⟩ ⟨Nat.le_of_ble_eq_true rfl, Nat.le_of_ble_eq_true rfl⟩ rfl rfl (Nat.le_of_ble_eq_true rfl) dX10_count_107 ⟨Nat.le_of_ble_eq_true rfl, Nat.le_of_ble_eq_true rfl⟩ (hk_ea (fun H locs hH hS => ?_))
    exact hk_iret hx hb hr hlocks hH hS ⟨(by simp [F_count]), rfl, rfl⟩ dX10_count_110
  · refine lv_tableIn (x := 8) (tgt := 111) hx hb dX10_count_1 (by decide) (by decide) rfl (by decide) ?_
    refine lv_aload_n hx hb dX10_count_111 rfl (lv_at hl 0 rfl) ?_
    refine hk_getr (L := (.inl (0, 0))) (v := .ref (G.1 (.inl (3, 0)))) hx hb ht hown hK hH kc_11 hG.k0 3 (by decide) rfl tw_171 rfl hG.r0_3 dX10_count_112 ?_
    refine hk_geti (L := (.inl (3, 0))) (v := τ (3, 0) 1) hx hb ht hown hK hH kc_6 hG.k3_0 1 (by decide) rfl tw_97 rfl rfl dX10_count_115 ?_
    exact hk_iret hx hb hr hlocks hH hS ⟨(by simp [F_count]), rfl, rfl⟩ dX10_count_118
  · refine lv_tableIn (x := 9) (tgt := 119) hx hb dX10_count_1 (by decide) (by decide) rfl (by decide) ?_
    refine lv_aload_n hx hb dX10_count_119 rfl (lv_at hl 0 rfl) ?_
    refine hk_cV (L := (.inl (0, 0))) (As := []) (rest := []) hx hb hml hl.1 ht hown hK hH hS (c_payInAll l D G Z τ σ hG hs) ymV_X10_payInAll kc_11 hG.k0 tw_617 ⟨rfl, rfl⟩ ⟨Nat.le_of_ble_eq_true rfl, Nat.le_of_ble_eq_true rfl⟩ rfl rfl (Nat.le_of_ble_eq_true rfl) dX10_count_120 ⟨Nat.le_of_ble_eq_true rfl, Nat.le_of_ble_eq_true rfl⟩ (hk_ea (fun H locs hH hS => ?_))
    exact hk_iret hx hb hr hlocks hH hS ⟨(by simp [F_count]), rfl, rfl⟩ dX10_count_123
  · refine lv_tableOut (tgt := 124) hx hb dX10_count_1 hsw.1 (by decide) ?_
    refine lv_iconst (v := -1) hx hb dX10_count_124 (by decide) ?_
    exact hk_iret hx hb hr hlocks hH hS ⟨(by simp [F_count, hsw]), rfl, rfl⟩ dX10_count_125
