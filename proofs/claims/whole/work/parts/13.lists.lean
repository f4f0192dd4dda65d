def hk_sz (Z : hk_Z) (τ : hk_v) : Prop := (τ (1, 0) 2 = nI (Z.1 0) ∧ τ (1, 1) 2 = nI (Z.1 1) ∧ τ (1, 2) 2 = nI (Z.1 2)) ∧ Z.1 0 ≤ 6 ∧ Z.1 1 ≤ 6 ∧ Z.1 2 ≤ 4
theorem hk_sz.of {Z : hk_Z} {τ τ' : hk_v} (h : hk_sz Z τ) (e : ∀ j, τ' (1, j) 2 = τ (1, j) 2) : hk_sz Z τ' := ⟨⟨by rw [e]; exact h.1.1, by rw [e]; exact h.1.2.1, by rw [e]; exact h.1.2.2⟩, h.2⟩
theorem hk_in_sz {x y : Int32} {n : Nat} (hy : y = nI n) (hn : n ≤ 6) (h : ¬ hk_in x 0 (y - 1) = 0) : x.toNatClampNeg < n ∧ x = nI x.toNatClampNeg := by
  subst hy
  rcases Nat.eq_zero_or_pos n with q | q
  · subst q
    obtain ⟨h1, h2⟩ := hk_in_ne h
    exfalso
    rw [show nI 0 - 1 = (-1 : Int32) from by decide] at h2
    obtain ⟨j, hj, rfl⟩ := nI_of h1
    apply h2
    rw [Int32.lt_iff_toInt_lt, nI_toInt hj, show (-1 : Int32).toInt = -1 from by decide]
    omega
  · have := hk_in_ix (x := x) (n := n - 1) (b := nI n - 1) (by rw [show (1 : Int32) = nI 1 from rfl, pk_sub q]) (by omega) h
    exact ⟨by omega, this.2⟩
theorem hk_in_sz' {n : Nat} {y : Int32} (hy : y = nI n) {j : Nat} (hj : j < n) (hn : n ≤ 6) : ¬ hk_in (nI j) 0 (y - 1) = 0 := by
  subst hy
  rw [show (1 : Int32) = nI 1 from rfl, pk_sub (show 1 ≤ n by omega)]
  unfold hk_in
  rw [if_neg (nI_pos (by omega)), if_neg (nI_nlt (by omega) (by omega))]
  decide
def F_size (τ : hk_v) (j : Nat) : Int32 := τ (1, j) 2
set_option maxHeartbeats 4000000 in
set_option maxRecDepth 100000 in
theorem c_size (l : Launch) (D : hk_D) (G : hk_G) (τ σ : hk_v) (j : Nat)  (hk1 : G.2.1 (.inl (1, j)) = some (.inl 0)) : Met l yJx4a65c_size_8abf5 (hk_ws yJx4a65c_size_8abf5 cJx4a65c_size_8abf5 1 (some FieldType.int)) ({ frames := 0, cells := 0, slots := 0, locals := 0 }) (hk_P D G (hk_cm τ σ) [.ref (G.1 (.inl (1, j)))]) (hk_Q D (hk_e G (some (.int (F_size τ j))) (hk_cm τ σ))) 0 0 (hk_A D) := by
  refine hk_met (by decide +kernel) (Nat.le_of_ble_eq_true rfl) (fun p e s m below meth c hx hb hr hml hlocks ht hown hin hK hH hS ls hl => ?_)
  have hl : lv_has ls 1 [(0, .ref (G.1 (.inl (1, j))))] := hl
  refine lv_aload_n hx hb dJx4a65c_size_8abf5_0 rfl (lv_at hl 0 rfl) ?_
  refine hk_geti (L := (.inl (1, j))) (v := τ (1, j) 2) hx hb ht hown hK hH kc_0 hk1 2 (by decide) rfl tw_78 rfl rfl dJx4a65c_size_8abf5_1 ?_
  exact hk_iret hx hb hr hlocks hH hS ⟨(by simp only [F_size]), rfl, rfl⟩ dJx4a65c_size_8abf5_4
set_option maxHeartbeats 4000000 in
set_option maxRecDepth 100000 in
theorem c_chk1 (l : Launch) (D : hk_D) (G : hk_G) (τ σ : hk_v) (x : Int32) (y : Int32)  (h0 : ¬ x < 0) (h1 : x < y) : Met l yJ3_checkIndex_8e157 (hk_ws yJ3_checkIndex_8e157 cJ3_checkIndex_8e157 3 (some FieldType.int)) ({ frames := 0, cells := 0, slots := 0, locals := 0 }) (hk_P D G (hk_cm τ σ) [.int x, .int y, .null]) (hk_Q D (hk_e G (some (.int x)) (hk_cm τ σ))) 0 0 (hk_A D) := by
  refine hk_met (by decide +kernel) (Nat.le_of_ble_eq_true rfl) (fun p e s m below meth c hx hb hr hml hlocks ht hown hin hK hH hS ls hl => ?_)
  have hl : lv_has ls 3 [(0, .int x), (1, .int y), (2, .null)] := hl
  refine lv_iload_n hx hb dJ3_checkIndex_8e157_0 rfl (lv_at hl 0 rfl) ?_
  refine lv_if_lt (tgt := 9) hx hb dJ3_checkIndex_8e157_1 (by decide) (fun c_1 => ?_) (fun c_1 => ?_)
  · exact absurd c_1 h0
  refine lv_iload_n hx hb dJ3_checkIndex_8e157_4 rfl (lv_at hl 0 rfl) ?_
  refine lv_iload_n hx hb dJ3_checkIndex_8e157_5 rfl (lv_at hl 1 rfl) ?_
  refine lv_icmp_lt (tgt := 16) hx hb dJ3_checkIndex_8e157_6 (by decide) (fun c_2 => ?_) (fun c_2 => ?_)
  rotate_left
  · exact absurd h1 c_2
  refine lv_iload_n hx hb dJ3_checkIndex_8e157_16 rfl (lv_at hl 0 rfl) ?_
  exact hk_iret hx hb hr hlocks hH hS ⟨rfl, rfl, rfl⟩ dJ3_checkIndex_8e157_17
theorem ymS_J3_checkIndex_8e157 : hk_mS yJ3_checkIndex_8e157 cJ3_checkIndex_8e157 3 (some FieldType.int) 3 := ⟨tw_352, tw_351, tw_50, by decide, by decide, by decide +kernel⟩
set_option maxHeartbeats 4000000 in
set_option maxRecDepth 100000 in
theorem c_chk (l : Launch) (D : hk_D) (G : hk_G) (τ σ : hk_v) (x : Int32) (y : Int32)  (h0 : ¬ x < 0) (h1 : x < y) : Met l yJ15_checkIndex_7cf53 (hk_ws yJ15_checkIndex_7cf53 cJ15_checkIndex_7cf53 2 (some FieldType.int)) ({ frames := 1, cells := 0, slots := 0, locals := 22 }) (hk_P D G (hk_cm τ σ) [.int x, .int y]) (hk_Q D (hk_e G (some (.int x)) (hk_cm τ σ))) 0 0 (hk_A D) := by
  refine hk_met (by decide +kernel) (Nat.le_of_ble_eq_true rfl) (fun p e s m below meth c hx hb hr hml hlocks ht hown hin hK hH hS ls hl => ?_)
  have hl : lv_has ls 2 [(0, .int x), (1, .int y)] := hl
  refine lv_iload_n hx hb dJ15_checkIndex_7cf53_0 rfl (lv_at hl 0 rfl) ?_
  refine lv_iload_n hx hb dJ15_checkIndex_7cf53_1 rfl (lv_at hl 1 rfl) ?_
  refine lv_null hx hb dJ15_checkIndex_7cf53_2 ?_
  refine hk_cS (As := [.int x, .int y, .null]) (rest := []) hx hb hml hl.1 ht hown hK hH hS (c_chk1 l D G τ σ x y h0 h1) ymS_J3_checkIndex_8e157 tw_350 ⟨rfl, rfl⟩ ⟨Nat.le_of_ble_eq_true rfl, Nat.le_of_ble_eq_true rfl⟩ rfl rfl (Nat.le_of_ble_eq_true rfl) dJ15_checkIndex_7cf53_3 ⟨Nat.le_of_ble_eq_true rfl, Nat.le_of_ble_eq_true rfl⟩ (hk_ea (fun H locs hH hS => ?_))
  exact hk_iret hx hb hr hlocks hH hS ⟨rfl, rfl, rfl⟩ dJ15_checkIndex_7cf53_6
set_option maxHeartbeats 4000000 in
set_option maxRecDepth 100000 in
theorem c_elem (l : Launch) (D : hk_D) (G : hk_G) (τ σ : hk_v) (j : Nat) (i : Nat) (n : Nat) (x : Int32) (v : Value)  (hk1 : G.2.1 (.inl (1, j)) = some (.inl 0)) (ha : G.2.2 (.inl (1, j)) 1 = .ref (G.1 (.inl (2, j)))) (hk2 : G.2.1 (.inl (2, j)) = some (.inr (.inr 10))) (hxi : x = nI i) (hi : i < n) (hn : n ≤ 6) (hv : G.2.2 (.inl (2, j)) i = v) (hva : ∃ a, v = .ref a) : Met l yJx4a65c_elementData_915e3 (hk_ws yJx4a65c_elementData_915e3 cJx4a65c_elementData_915e3 2 (some (FieldType.object "java/lang/Object"))) ({ frames := 0, cells := 0, slots := 0, locals := 0 }) (hk_P D G (hk_cm τ σ) [.ref (G.1 (.inl (1, j))), .int x]) (hk_Q D (hk_e G (some v) (hk_cm τ σ))) 0 0 (hk_A D) := by
  refine hk_met (by decide +kernel) (Nat.le_of_ble_eq_true rfl) (fun p e s m below meth c hx hb hr hml hlocks ht hown hin hK hH hS ls hl => ?_)
  have hl : lv_has ls 2 [(0, .ref (G.1 (.inl (1, j)))), (1, .int x)] := hl
  refine lv_aload_n hx hb dJx4a65c_elementData_915e3_0 rfl (lv_at hl 0 rfl) ?_
  refine hk_getr (L := (.inl (1, j))) (v := .ref (G.1 (.inl (2, j)))) hx hb ht hown hK hH kc_0 hk1 1 (by decide) rfl tw_77 rfl ha dJx4a65c_elementData_915e3_1 ?_
  refine lv_iload_n hx hb dJx4a65c_elementData_915e3_4 rfl (lv_at hl 1 rfl) ?_
  refine hk_qld (L := (.inl (2, j))) (v := v) hx hb hK hH hk2 (by rw [hxi]; exact vp_in_nI (by omega) (by omega)) (by rw [hxi, nI_clamp (by omega)]; exact hv) dJx4a65c_elementData_915e3_5 ?_
  exact hk_aret hx hb hr hlocks (Or.inl ⟨_, rfl⟩) (Or.inr hva) hH hS ⟨rfl, rfl, rfl⟩ dJx4a65c_elementData_915e3_6
theorem ymS_J15_checkIndex_7cf53 : hk_mS yJ15_checkIndex_7cf53 cJ15_checkIndex_7cf53 2 (some FieldType.int) 2 := ⟨tw_349, tw_348, tw_49, by decide, by decide, by decide +kernel⟩
theorem ymV_Jx4a65c_elementData_915e3 : hk_mV yJx4a65c_elementData_915e3 cJx4a65c_elementData_915e3 2 (some (FieldType.object "java/lang/Object")) RJx4a65c 1 := ⟨tw_356, tw_354, tw_355, tw_37, rfl, by decide, by decide, by decide +kernel⟩
set_option maxHeartbeats 4000000 in
set_option maxRecDepth 100000 in
theorem c_lget (l : Launch) (D : hk_D) (G : hk_G) (τ σ : hk_v) (j : Nat) (i : Nat) (n : Nat) (x : Int32) (v : Value)  (hk1 : G.2.1 (.inl (1, j)) = some (.inl 0)) (ha : G.2.2 (.inl (1, j)) 1 = .ref (G.1 (.inl (2, j)))) (hk2 : G.2.1 (.inl (2, j)) = some (.inr (.inr 10))) (hxi : x = nI i) (hi : i < n) (hn : n ≤ 6) (hv : G.2.2 (.inl (2, j)) i = v) (hva : ∃ a, v = .ref a) (hsz : τ (1, j) 2 = nI n) : Met l yJx4a65c_get_915e3 (hk_ws yJx4a65c_get_915e3 cJx4a65c_get_915e3 2 (some (FieldType.object "java/lang/Object"))) ({ frames := 2, cells := 0, slots := 0, locals := 43 }) (hk_P D G (hk_cm τ σ) [.ref (G.1 (.inl (1, j))), .int x]) (hk_Q D (hk_e G (some v) (hk_cm τ σ))) 0 0 (hk_A D) := by
  refine hk_met (by decide +kernel) (Nat.le_of_ble_eq_true rfl) (fun p e s m below meth c hx hb hr hml hlocks ht hown hin hK hH hS ls hl => ?_)
  have hl : lv_has ls 2 [(0, .ref (G.1 (.inl (1, j)))), (1, .int x)] := hl
  refine lv_iload_n hx hb dJx4a65c_get_915e3_0 rfl (lv_at hl 1 rfl) ?_
  refine lv_aload_n hx hb dJx4a65c_get_915e3_1 rfl (lv_at hl 0 rfl) ?_
  refine hk_geti (L := (.inl (1, j))) (v := τ (1, j) 2) hx hb ht hown hK hH kc_0 hk1 2 (by decide) rfl tw_78 rfl rfl dJx4a65c_get_915e3_2 ?_
  refine hk_cS (As := [.int x, .int (τ (1, j) 2)]) (rest := []) hx hb hml hl.1 ht hown hK hH hS (c_chk l D G τ σ x (τ (1, j) 2) (by rw [hxi]; exact nI_pos (by omega)) (by rw [hxi, hsz]; exact nI_lt (by omega) (by omega))) ymS_J15_checkIndex_7cf53 tw_347 ⟨rfl, rfl⟩ ⟨Nat.le_of_ble_eq_true rfl, Nat.le_of_ble_eq_true rfl⟩ rfl rfl (Nat.le_of_ble_eq_true rfl) dJx4a65c_get_915e3_5 ⟨Nat.le_of_ble_eq_true rfl, Nat.le_of_ble_eq_true rfl⟩ (hk_ea (fun H locs hH hS => ?_))
  refine lv_pop hx hb dJx4a65c_get_915e3_8 rfl ?_
  refine lv_aload_n hx hb dJx4a65c_get_915e3_9 rfl (lv_at hl 0 rfl) ?_
  refine lv_iload_n hx hb dJx4a65c_get_915e3_10 rfl (lv_at hl 1 rfl) ?_
  refine hk_cV (L := (.inl (1, j))) (As := [.int x]) (rest := []) hx hb hml hl.1 ht hown hK hH hS (c_elem l D G τ σ j i n x v hk1 ha hk2 hxi hi hn hv hva) ymV_Jx4a65c_elementData_915e3 kc_0 hk1 tw_353 ⟨rfl, rfl⟩ ⟨Nat.le_of_ble_eq_true rfl, Nat.le_of_ble_eq_true rfl⟩ rfl rfl (Nat.le_of_ble_eq_true rfl) dJx4a65c_get_915e3_11 ⟨Nat.le_of_ble_eq_true rfl, Nat.le_of_ble_eq_true rfl⟩ (hk_ea (fun H locs hH hS => ?_))
  exact hk_aret hx hb hr hlocks (Or.inl ⟨_, rfl⟩) (Or.inr hva) hH hS ⟨rfl, rfl, rfl⟩ dJx4a65c_get_915e3_14
theorem ymV_Jx4a65c_size_8abf5 : hk_mV yJx4a65c_size_8abf5 cJx4a65c_size_8abf5 1 (some FieldType.int) RJx4a65c 0 := ⟨tw_212, tw_210, tw_211, tw_37, rfl, by decide, by decide, by decide +kernel⟩
set_option maxHeartbeats 4000000 in
set_option maxRecDepth 100000 in
theorem c_gardenOf_out (l : Launch) (D : hk_D) (G : hk_G) (Z : hk_Z) (τ σ : hk_v) (x : Int32) (hG : hk_Y D G Z) (hs : hk_sz Z τ) (ho : hk_in x 0 (τ (1, 0) 2 - 1) = 0) : Met l yX10_gardenOf (hk_ws yX10_gardenOf cX10_gardenOf 2 (some (FieldType.object "HopYard$Garden"))) ({ frames := 1, cells := 0, slots := 0, locals := 22 }) (hk_P D G (hk_cm τ σ) [.ref (G.1 (.inl (0, 0))), .int x]) (hk_Q D (hk_e G (some .null) (hk_cm τ σ))) 0 0 (hk_A D) := by
  refine hk_met (by decide +kernel) (Nat.le_of_ble_eq_true rfl) (fun p e s m below meth c hx hb hr hml hlocks ht hown hin hK hH hS ls hl => ?_)
  have hl : lv_has ls 2 [(0, .ref (G.1 (.inl (0, 0)))), (1, .int x)] := hl
  refine lv_iload_n hx hb dX10_gardenOf_0 rfl (lv_at hl 1 rfl) ?_
  refine lv_iconst (v := 0) hx hb dX10_gardenOf_1 (by decide) ?_
  refine lv_aload_n hx hb dX10_gardenOf_2 rfl (lv_at hl 0 rfl) ?_
  refine hk_getr (L := (.inl (0, 0))) (v := .ref (G.1 (.inl (1, 0)))) hx hb ht hown hK hH kc_11 hG.k0 0 (by decide) rfl tw_168 rfl hG.r0_0 dX10_gardenOf_3 ?_
  refine hk_cV (L := (.inl (1, 0))) (As := []) (rest := [.int 0, .int x]) hx hb hml hl.1 ht hown hK hH hS (c_size l D G τ σ 0 hG.k1_0) ymV_Jx4a65c_size_8abf5 kc_0 hG.k1_0 tw_209 ⟨rfl, rfl⟩ ⟨Nat.le_of_ble_eq_true rfl, Nat.le_of_ble_eq_true rfl⟩ rfl rfl (Nat.le_of_ble_eq_true rfl) dX10_gardenOf_6 ⟨Nat.le_of_ble_eq_true rfl, Nat.le_of_ble_eq_true rfl⟩ (hk_ea (fun H locs hH hS => ?_))
  rw [show F_size τ 0 = τ (1, 0) 2 from rfl]
  refine lv_iconst (v := 1) hx hb dX10_gardenOf_9 (by decide) ?_
  refine lv_isub hx hb dX10_gardenOf_10 ?_
  refine hk_cS (As := [.int x, .int 0, .int ((τ (1, 0) 2) - 1)]) (rest := []) hx hb hml hl.1 ht hown hK hH hS (c_within l D G τ σ x 0 ((τ (1, 0) 2) - 1)) ymS_X10_within tw_206 ⟨rfl, rfl⟩ ⟨Nat.le_of_ble_eq_true rfl, Nat.le_of_ble_eq_true rfl⟩ rfl rfl (Nat.le_of_ble_eq_true rfl) dX10_gardenOf_11 ⟨Nat.le_of_ble_eq_true rfl, Nat.le_of_ble_eq_true rfl⟩ (hk_ea (fun H locs hH hS => ?_))
  refine lv_if_eq (tgt := 31) hx hb dX10_gardenOf_14 (by decide) (fun c_1 => ?_) (fun c_1 => ?_)
  rotate_left
  · exact absurd ho c_1
  refine lv_null hx hb dX10_gardenOf_31 ?_
  exact hk_aret hx hb hr hlocks (Or.inl ⟨_, rfl⟩) (Or.inl rfl) hH hS ⟨rfl, rfl, rfl⟩ dX10_gardenOf_32
theorem ymV_Jx4a65c_get_915e3 : hk_mV yJx4a65c_get_915e3 cJx4a65c_get_915e3 2 (some (FieldType.object "java/lang/Object")) RJx4a65c 1 := ⟨tw_346, tw_344, tw_345, tw_37, rfl, by decide, by decide, by decide +kernel⟩
set_option maxHeartbeats 4000000 in
set_option maxRecDepth 100000 in
theorem c_gardenOf_in (l : Launch) (D : hk_D) (G : hk_G) (Z : hk_Z) (τ σ : hk_v) (x : Int32) (hG : hk_Y D G Z) (hs : hk_sz Z τ) (ho : ¬ hk_in x 0 (τ (1, 0) 2 - 1) = 0) : Met l yX10_gardenOf (hk_ws yX10_gardenOf cX10_gardenOf 2 (some (FieldType.object "HopYard$Garden"))) ({ frames := 3, cells := 0, slots := 0, locals := 64 }) (hk_P D G (hk_cm τ σ) [.ref (G.1 (.inl (0, 0))), .int x]) (hk_Q D (hk_e G (some (.ref (G.1 (.inl (9, x.toNatClampNeg))))) (hk_cm τ σ))) 0 0 (hk_A D) := by
  refine hk_met (by decide +kernel) (Nat.le_of_ble_eq_true rfl) (fun p e s m below meth c hx hb hr hml hlocks ht hown hin hK hH hS ls hl => ?_)
  have hl : lv_has ls 2 [(0, .ref (G.1 (.inl (0, 0)))), (1, .int x)] := hl
  refine lv_iload_n hx hb dX10_gardenOf_0 rfl (lv_at hl 1 rfl) ?_
  refine lv_iconst (v := 0) hx hb dX10_gardenOf_1 (by decide) ?_
  refine lv_aload_n hx hb dX10_gardenOf_2 rfl (lv_at hl 0 rfl) ?_
  refine hk_getr (L := (.inl (0, 0))) (v := .ref (G.1 (.inl (1, 0)))) hx hb ht hown hK hH kc_11 hG.k0 0 (by decide) rfl tw_168 rfl hG.r0_0 dX10_gardenOf_3 ?_
  refine hk_cV (L := (.inl (1, 0))) (As := []) (rest := [.int 0, .int x]) hx hb hml hl.1 ht hown hK hH hS (c_size l D G τ σ 0 hG.k1_0) ymV_Jx4a65c_size_8abf5 kc_0 hG.k1_0 tw_209 ⟨rfl, rfl⟩ ⟨Nat.le_of_ble_eq_true rfl, Nat.le_of_ble_eq_true rfl⟩ rfl rfl (Nat.le_of_ble_eq_true rfl) dX10_gardenOf_6 ⟨Nat.le_of_ble_eq_true rfl, Nat.le_of_ble_eq_true rfl⟩ (hk_ea (fun H locs hH hS => ?_))
  rw [show F_size τ 0 = τ (1, 0) 2 from rfl]
  refine lv_iconst (v := 1) hx hb dX10_gardenOf_9 (by decide) ?_
  refine lv_isub hx hb dX10_gardenOf_10 ?_
  refine hk_cS (As := [.int x, .int 0, .int ((τ (1, 0) 2) - 1)]) (rest := []) hx hb hml hl.1 ht hown hK hH hS (c_within l D G τ σ x 0 ((τ (1, 0) 2) - 1)) ymS_X10_within tw_206 ⟨rfl, rfl⟩ ⟨Nat.le_of_ble_eq_true rfl, Nat.le_of_ble_eq_true rfl⟩ rfl rfl (Nat.le_of_ble_eq_true rfl) dX10_gardenOf_11 ⟨Nat.le_of_ble_eq_true rfl, Nat.le_of_ble_eq_true rfl⟩ (hk_ea (fun H locs hH hS => ?_))
  refine lv_if_eq (tgt := 31) hx hb dX10_gardenOf_14 (by decide) (fun c_1 => ?_) (fun c_1 => ?_)
  · exact absurd c_1 ho
  refine lv_aload_n hx hb dX10_gardenOf_17 rfl (lv_at hl 0 rfl) ?_
  refine hk_getr (L := (.inl (0, 0))) (v := .ref (G.1 (.inl (1, 0)))) hx hb ht hown hK hH kc_11 hG.k0 0 (by decide) rfl tw_168 rfl hG.r0_0 dX10_gardenOf_18 ?_
  refine lv_iload_n hx hb dX10_gardenOf_21 rfl (lv_at hl 1 rfl) ?_
  refine hk_cV (L := (.inl (1, 0))) (As := [.int x]) (rest := []) hx hb hml hl.1 ht hown hK hH hS (c_lget l D G τ σ 0 x.toNatClampNeg (Z.1 0) x (.ref (G.1 (.inl (9, x.toNatClampNeg)))) hG.k1_0 (hG.a1_0 (by have h9 := (hk_in_sz hs.1.1 (by have := hs.2; omega) ho).1; omega)) (hG.k2_0 (by have h9 := (hk_in_sz hs.1.1 (by have := hs.2; omega) ho).1; omega)) (hk_in_sz hs.1.1 (by have := hs.2; omega) ho).2 (hk_in_sz hs.1.1 (by have := hs.2; omega) ho).1 (by have := hs.2; omega) (hG.a2_0 _ (hk_in_sz hs.1.1 (by have := hs.2; omega) ho).1) ⟨_, rfl⟩ hs.1.1) ymV_Jx4a65c_get_915e3 kc_0 hG.k1_0 tw_343 ⟨rfl, rfl⟩ ⟨Nat.le_of_ble_eq_true rfl, Nat.le_of_ble_eq_true rfl⟩ rfl rfl (Nat.le_of_ble_eq_true rfl) dX10_gardenOf_22 ⟨Nat.le_of_ble_eq_true rfl, Nat.le_of_ble_eq_true rfl⟩ (hk_ea (fun H locs hH hS => ?_))
  refine hk_cast (L := (.inl (9, x.toNatClampNeg))) hx hb ht hown hK hH kc_5 (hG.k9 x.toNatClampNeg (hk_in_sz hs.1.1 (by have := hs.2; omega) ho).1) tw_213 dX10_gardenOf_25 ?_
  refine lv_goto (tgt := 32) hx hb dX10_gardenOf_28 (by decide) ?_
  exact hk_aret hx hb hr hlocks (Or.inl ⟨_, rfl⟩) (Or.inr ⟨_, rfl⟩) hH hS ⟨rfl, rfl, rfl⟩ dX10_gardenOf_32
set_option maxHeartbeats 4000000 in
set_option maxRecDepth 100000 in
theorem c_gangOf_out (l : Launch) (D : hk_D) (G : hk_G) (Z : hk_Z) (τ σ : hk_v) (x : Int32) (hG : hk_Y D G Z) (hs : hk_sz Z τ) (ho : hk_in x 0 (τ (1, 1) 2 - 1) = 0) : Met l yX10_gangOf (hk_ws yX10_gangOf cX10_gangOf 2 (some (FieldType.object "HopYard$Gang"))) ({ frames := 1, cells := 0, slots := 0, locals := 22 }) (hk_P D G (hk_cm τ σ) [.ref (G.1 (.inl (0, 0))), .int x]) (hk_Q D (hk_e G (some .null) (hk_cm τ σ))) 0 0 (hk_A D) := by
  refine hk_met (by decide +kernel) (Nat.le_of_ble_eq_true rfl) (fun p e s m below meth c hx hb hr hml hlocks ht hown hin hK hH hS ls hl => ?_)
  have hl : lv_has ls 2 [(0, .ref (G.1 (.inl (0, 0)))), (1, .int x)] := hl
  refine lv_iload_n hx hb dX10_gangOf_0 rfl (lv_at hl 1 rfl) ?_
  refine lv_iconst (v := 0) hx hb dX10_gangOf_1 (by decide) ?_
  refine lv_aload_n hx hb dX10_gangOf_2 rfl (lv_at hl 0 rfl) ?_
  refine hk_getr (L := (.inl (0, 0))) (v := .ref (G.1 (.inl (1, 1)))) hx hb ht hown hK hH kc_11 hG.k0 1 (by decide) rfl tw_169 rfl hG.r0_1 dX10_gangOf_3 ?_
  refine hk_cV (L := (.inl (1, 1))) (As := []) (rest := [.int 0, .int x]) hx hb hml hl.1 ht hown hK hH hS (c_size l D G τ σ 1 hG.k1_1) ymV_Jx4a65c_size_8abf5 kc_0 hG.k1_1 tw_209 ⟨rfl, rfl⟩ ⟨Nat.le_of_ble_eq_true rfl, Nat.le_of_ble_eq_true rfl⟩ rfl rfl (Nat.le_of_ble_eq_true rfl) dX10_gangOf_6 ⟨Nat.le_of_ble_eq_true rfl, Nat.le_of_ble_eq_true rfl⟩ (hk_ea (fun H locs hH hS => ?_))
  rw [show F_size τ 1 = τ (1, 1) 2 from rfl]
  refine lv_iconst (v := 1) hx hb dX10_gangOf_9 (by decide) ?_
  refine lv_isub hx hb dX10_gangOf_10 ?_
  refine hk_cS (As := [.int x, .int 0, .int ((τ (1, 1) 2) - 1)]) (rest := []) hx hb hml hl.1 ht hown hK hH hS (c_within l D G τ σ x 0 ((τ (1, 1) 2) - 1)) ymS_X10_within tw_206 ⟨rfl, rfl⟩ ⟨Nat.le_of_ble_eq_true rfl, Nat.le_of_ble_eq_true rfl⟩ rfl rfl (Nat.le_of_ble_eq_true rfl) dX10_gangOf_11 ⟨Nat.le_of_ble_eq_true rfl, Nat.le_of_ble_eq_true rfl⟩ (hk_ea (fun H locs hH hS => ?_))
  refine lv_if_eq (tgt := 31) hx hb dX10_gangOf_14 (by decide) (fun c_1 => ?_) (fun c_1 => ?_)
  rotate_left
  · exact absurd ho c_1
  refine lv_null hx hb dX10_gangOf_31 ?_
  exact hk_aret hx hb hr hlocks (Or.inl ⟨_, rfl⟩) (Or.inl rfl) hH hS ⟨rfl, rfl, rfl⟩ dX10_gangOf_32
set_option maxHeartbeats 4000000 in
set_option maxRecDepth 100000 in
theorem c_gangOf_in (l : Launch) (D : hk_D) (G : hk_G) (Z : hk_Z) (τ σ : hk_v) (x : Int32) (hG : hk_Y D G Z) (hs : hk_sz Z τ) (ho : ¬ hk_in x 0 (τ (1, 1) 2 - 1) = 0) : Met l yX10_gangOf (hk_ws yX10_gangOf cX10_gangOf 2 (some (FieldType.object "HopYard$Gang"))) ({ frames := 3, cells := 0, slots := 0, locals := 64 }) (hk_P D G (hk_cm τ σ) [.ref (G.1 (.inl (0, 0))), .int x]) (hk_Q D (hk_e G (some (.ref (G.1 (.inl (10, x.toNatClampNeg))))) (hk_cm τ σ))) 0 0 (hk_A D) := by
  refine hk_met (by decide +kernel) (Nat.le_of_ble_eq_true rfl) (fun p e s m below meth c hx hb hr hml hlocks ht hown hin hK hH hS ls hl => ?_)
  have hl : lv_has ls 2 [(0, .ref (G.1 (.inl (0, 0)))), (1, .int x)] := hl
  refine lv_iload_n hx hb dX10_gangOf_0 rfl (lv_at hl 1 rfl) ?_
  refine lv_iconst (v := 0) hx hb dX10_gangOf_1 (by decide) ?_
  refine lv_aload_n hx hb dX10_gangOf_2 rfl (lv_at hl 0 rfl) ?_
  refine hk_getr (L := (.inl (0, 0))) (v := .ref (G.1 (.inl (1, 1)))) hx hb ht hown hK hH kc_11 hG.k0 1 (by decide) rfl tw_169 rfl hG.r0_1 dX10_gangOf_3 ?_
  refine hk_cV (L := (.inl (1, 1))) (As := []) (rest := [.int 0, .int x]) hx hb hml hl.1 ht hown hK hH hS (c_size l D G τ σ 1 hG.k1_1) ymV_Jx4a65c_size_8abf5 kc_0 hG.k1_1 tw_209 ⟨rfl, rfl⟩ ⟨Nat.le_of_ble_eq_true rfl, Nat.le_of_ble_eq_true rfl⟩ rfl rfl (Nat.le_of_ble_eq_true rfl) dX10_gangOf_6 ⟨Nat.le_of_ble_eq_true rfl, Nat.le_of_ble_eq_true rfl⟩ (hk_ea (fun H locs hH hS => ?_))
  rw [show F_size τ 1 = τ (1, 1) 2 from rfl]
  refine lv_iconst (v := 1) hx hb dX10_gangOf_9 (by decide) ?_
  refine lv_isub hx hb dX10_gangOf_10 ?_
  refine hk_cS (As := [.int x, .int 0, .int ((τ (1, 1) 2) - 1)]) (rest := []) hx hb hml hl.1 ht hown hK hH hS (c_within l D G τ σ x 0 ((τ (1, 1) 2) - 1)) ymS_X10_within tw_206 ⟨rfl, rfl⟩ ⟨Nat.le_of_ble_eq_true rfl, Nat.le_of_ble_eq_true rfl⟩ rfl rfl (Nat.le_of_ble_eq_true rfl) dX10_gangOf_11 ⟨Nat.le_of_ble_eq_true rfl, Nat.le_of_ble_eq_true rfl⟩ (hk_ea (fun H locs hH hS => ?_))
  refine lv_if_eq (tgt := 31) hx hb dX10_gangOf_14 (by decide) (fun c_1 => ?_) (fun c_1 => ?_)
  · exact absurd c_1 ho
  refine lv_aload_n hx hb dX10_gangOf_17 rfl (lv_at hl 0 rfl) ?_
  refine hk_getr (L := (.inl (0, 0))) (v := .ref (G.1 (.inl (1, 1)))) hx hb ht hown hK hH kc_11 hG.k0 1 (by decide) rfl tw_169 rfl hG.r0_1 dX10_gangOf_18 ?_
  refine lv_iload_n hx hb dX10_gangOf_21 rfl (lv_at hl 1 rfl) ?_
  refine hk_cV (L := (.inl (1, 1))) (As := [.int x]) (rest := []) hx hb hml hl.1 ht hown hK hH hS (c_lget l D G τ σ 1 x.toNatClampNeg (Z.1 1) x (.ref (G.1 (.inl (10, x.toNatClampNeg)))) hG.k1_1 (hG.a1_1 (by have h9 := (hk_in_sz hs.1.2.1 (by have := hs.2; omega) ho).1; omega)) (hG.k2_1 (by have h9 := (hk_in_sz hs.1.2.1 (by have := hs.2; omega) ho).1; omega)) (hk_in_sz hs.1.2.1 (by have := hs.2; omega) ho).2 (hk_in_sz hs.1.2.1 (by have := hs.2; omega) ho).1 (by have := hs.2; omega) (hG.a2_1 _ (hk_in_sz hs.1.2.1 (by have := hs.2; omega) ho).1) ⟨_, rfl⟩ hs.1.2.1) ymV_Jx4a65c_get_915e3 kc_0 hG.k1_1 tw_343 ⟨rfl, rfl⟩ ⟨Nat.le_of_ble_eq_true rfl, Nat.le_of_ble_eq_true rfl⟩ rfl rfl (Nat.le_of_ble_eq_true rfl) dX10_gangOf_22 ⟨Nat.le_of_ble_eq_true rfl, Nat.le_of_ble_eq_true rfl⟩ (hk_ea (fun H locs hH hS => ?_))
  refine hk_cast (L := (.inl (10, x.toNatClampNeg))) hx hb ht hown hK hH kc_4 (hG.k10 x.toNatClampNeg (hk_in_sz hs.1.2.1 (by have := hs.2; omega) ho).1) tw_304 dX10_gangOf_25 ?_
  refine lv_goto (tgt := 32) hx hb dX10_gangOf_28 (by decide) ?_
  exact hk_aret hx hb hr hlocks (Or.inl ⟨_, rfl⟩) (Or.inr ⟨_, rfl⟩) hH hS ⟨rfl, rfl, rfl⟩ dX10_gangOf_32
set_option maxHeartbeats 4000000 in
set_option maxRecDepth 100000 in
theorem c_kilnOf_out (l : Launch) (D : hk_D) (G : hk_G) (Z : hk_Z) (τ σ : hk_v) (x : Int32) (hG : hk_Y D G Z) (hs : hk_sz Z τ) (ho : hk_in x 0 (τ (1, 2) 2 - 1) = 0) : Met l yX10_kilnOf (hk_ws yX10_kilnOf cX10_kilnOf 2 (some (FieldType.object "HopYard$Kiln"))) ({ frames := 1, cells := 0, slots := 0, locals := 22 }) (hk_P D G (hk_cm τ σ) [.ref (G.1 (.inl (0, 0))), .int x]) (hk_Q D (hk_e G (some .null) (hk_cm τ σ))) 0 0 (hk_A D) := by
  refine hk_met (by decide +kernel) (Nat.le_of_ble_eq_true rfl) (fun p e s m below meth c hx hb hr hml hlocks ht hown hin hK hH hS ls hl => ?_)
  have hl : lv_has ls 2 [(0, .ref (G.1 (.inl (0, 0)))), (1, .int x)] := hl
  refine lv_iload_n hx hb dX10_kilnOf_0 rfl (lv_at hl 1 rfl) ?_
  refine lv_iconst (v := 0) hx hb dX10_kilnOf_1 (by decide) ?_
  refine lv_aload_n hx hb dX10_kilnOf_2 rfl (lv_at hl 0 rfl) ?_
  refine hk_getr (L := (.inl (0, 0))) (v := .ref (G.1 (.inl (1, 2)))) hx hb ht hown hK hH kc_11 hG.k0 2 (by decide) rfl tw_170 rfl hG.r0_2 dX10_kilnOf_3 ?_
  refine hk_cV (L := (.inl (1, 2))) (As := []) (rest := [.int 0, .int x]) hx hb hml hl.1 ht hown hK hH hS (c_size l D G τ σ 2 hG.k1_2) ymV_Jx4a65c_size_8abf5 kc_0 hG.k1_2 tw_209 ⟨rfl, rfl⟩ ⟨Nat.le_of_ble_eq_true rfl, Nat.le_of_ble_eq_true rfl⟩ rfl rfl (Nat.le_of_ble_eq_true rfl) dX10_kilnOf_6 ⟨Nat.le_of_ble_eq_true rfl, Nat.le_of_ble_eq_true rfl⟩ (hk_ea (fun H locs hH hS => ?_))
  rw [show F_size τ 2 = τ (1, 2) 2 from rfl]
  refine lv_iconst (v := 1) hx hb dX10_kilnOf_9 (by decide) ?_
  refine lv_isub hx hb dX10_kilnOf_10 ?_
  refine hk_cS (As := [.int x, .int 0, .int ((τ (1, 2) 2) - 1)]) (rest := []) hx hb hml hl.1 ht hown hK hH hS (c_within l D G τ σ x 0 ((τ (1, 2) 2) - 1)) ymS_X10_within tw_206 ⟨rfl, rfl⟩ ⟨Nat.le_of_ble_eq_true rfl, Nat.le_of_ble_eq_true rfl⟩ rfl rfl (Nat.le_of_ble_eq_true rfl) dX10_kilnOf_11 ⟨Nat.le_of_ble_eq_true rfl, Nat.le_of_ble_eq_true rfl⟩ (hk_ea (fun H locs hH hS => ?_))
  refine lv_if_eq (tgt := 31) hx hb dX10_kilnOf_14 (by decide) (fun c_1 => ?_) (fun c_1 => ?_)
  rotate_left
  · exact absurd ho c_1
  refine lv_null hx hb dX10_kilnOf_31 ?_
  exact hk_aret hx hb hr hlocks (Or.inl ⟨_, rfl⟩) (Or.inl rfl) hH hS ⟨rfl, rfl, rfl⟩ dX10_kilnOf_32
set_option maxHeartbeats 4000000 in
set_option maxRecDepth 100000 in
theorem c_kilnOf_in (l : Launch) (D : hk_D) (G : hk_G) (Z : hk_Z) (τ σ : hk_v) (x : Int32) (hG : hk_Y D G Z) (hs : hk_sz Z τ) (ho : ¬ hk_in x 0 (τ (1, 2) 2 - 1) = 0) : Met l yX10_kilnOf (hk_ws yX10_kilnOf cX10_kilnOf 2 (some (FieldType.object "HopYard$Kiln"))) ({ frames := 3, cells := 0, slots := 0, locals := 64 }) (hk_P D G (hk_cm τ σ) [.ref (G.1 (.inl (0, 0))), .int x]) (hk_Q D (hk_e G (some (.ref (G.1 (.inl (11, x.toNatClampNeg))))) (hk_cm τ σ))) 0 0 (hk_A D) := by
  refine hk_met (by decide +kernel) (Nat.le_of_ble_eq_true rfl) (fun p e s m below meth c hx hb hr hml hlocks ht hown hin hK hH hS ls hl => ?_)
  have hl : lv_has ls 2 [(0, .ref (G.1 (.inl (0, 0)))), (1, .int x)] := hl
  refine lv_iload_n hx hb dX10_kilnOf_0 rfl (lv_at hl 1 rfl) ?_
  refine lv_iconst (v := 0) hx hb dX10_kilnOf_1 (by decide) ?_
  refine lv_aload_n hx hb dX10_kilnOf_2 rfl (lv_at hl 0 rfl) ?_
  refine hk_getr (L := (.inl (0, 0))) (v := .ref (G.1 (.inl (1, 2)))) hx hb ht hown hK hH kc_11 hG.k0 2 (by decide) rfl tw_170 rfl hG.r0_2 dX10_kilnOf_3 ?_
  refine hk_cV (L := (.inl (1, 2))) (As := []) (rest := [.int 0, .int x]) hx hb hml hl.1 ht hown hK hH hS (c_size l D G τ σ 2 hG.k1_2) ymV_Jx4a65c_size_8abf5 kc_0 hG.k1_2 tw_209 ⟨rfl, rfl⟩ ⟨Nat.le_of_ble_eq_true rfl, Nat.le_of_ble_eq_true rfl⟩ rfl rfl (Nat.le_of_ble_eq_true rfl) dX10_kilnOf_6 ⟨Nat.le_of_ble_eq_true rfl, Nat.le_of_ble_eq_true rfl⟩ (hk_ea (fun H locs hH hS => ?_))
  rw [show F_size τ 2 = τ (1, 2) 2 from rfl]
  refine lv_iconst (v := 1) hx hb dX10_kilnOf_9 (by decide) ?_
  refine lv_isub hx hb dX10_kilnOf_10 ?_
  refine hk_cS (As := [.int x, .int 0, .int ((τ (1, 2) 2) - 1)]) (rest := []) hx hb hml hl.1 ht hown hK hH hS (c_within l D G τ σ x 0 ((τ (1, 2) 2) - 1)) ymS_X10_within tw_206 ⟨rfl, rfl⟩ ⟨Nat.le_of_ble_eq_true rfl, Nat.le_of_ble_eq_true rfl⟩ rfl rfl (Nat.le_of_ble_eq_true rfl) dX10_kilnOf_11 ⟨Nat.le_of_ble_eq_true rfl, Nat.le_of_ble_eq_true rfl⟩ (hk_ea (fun H locs hH hS => ?_))
  refine lv_if_eq (tgt := 31) hx hb dX10_kilnOf_14 (by decide) (fun c_1 => ?_) (fun c_1 => ?_)
  · exact absurd c_1 ho
  refine lv_aload_n hx hb dX10_kilnOf_17 rfl (lv_at hl 0 rfl) ?_
  refine hk_getr (L := (.inl (0, 0))) (v := .ref (G.1 (.inl (1, 2)))) hx hb ht hown hK hH kc_11 hG.k0 2 (by decide) rfl tw_170 rfl hG.r0_2 dX10_kilnOf_18 ?_
  refine lv_iload_n hx hb dX10_kilnOf_21 rfl (lv_at hl 1 rfl) ?_
  refine hk_cV (L := (.inl (1, 2))) (As := [.int x]) (rest := []) hx hb hml hl.1 ht hown hK hH hS (c_lget l D G τ σ 2 x.toNatClampNeg (Z.1 2) x (.ref (G.1 (.inl (11, x.toNatClampNeg)))) hG.k1_2 (hG.a1_2 (by have h9 := (hk_in_sz hs.1.2.2 (by have := hs.2; omega) ho).1; omega)) (hG.k2_2 (by have h9 := (hk_in_sz hs.1.2.2 (by have := hs.2; omega) ho).1; omega)) (hk_in_sz hs.1.2.2 (by have := hs.2; omega) ho).2 (hk_in_sz hs.1.2.2 (by have := hs.2; omega) ho).1 (by have := hs.2; omega) (hG.a2_2 _ (hk_in_sz hs.1.2.2 (by have := hs.2; omega) ho).1) ⟨_, rfl⟩ hs.1.2.2) ymV_Jx4a65c_get_915e3 kc_0 hG.k1_2 tw_343 ⟨rfl, rfl⟩ ⟨Nat.le_of_ble_eq_true rfl, Nat.le_of_ble_eq_true rfl⟩ rfl rfl (Nat.le_of_ble_eq_true rfl) dX10_kilnOf_22 ⟨Nat.le_of_ble_eq_true rfl, Nat.le_of_ble_eq_true rfl⟩ (hk_ea (fun H locs hH hS => ?_))
  refine hk_cast (L := (.inl (11, x.toNatClampNeg))) hx hb ht hown hK hH kc_7 (hG.k11 x.toNatClampNeg (hk_in_sz hs.1.2.2 (by have := hs.2; omega) ho).1) tw_365 dX10_kilnOf_25 ?_
  refine lv_goto (tgt := 32) hx hb dX10_kilnOf_28 (by decide) ?_
  exact hk_aret hx hb hr hlocks (Or.inl ⟨_, rfl⟩) (Or.inr ⟨_, rfl⟩) hH hS ⟨rfl, rfl, rfl⟩ dX10_kilnOf_32
