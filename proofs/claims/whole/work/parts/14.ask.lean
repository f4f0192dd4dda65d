def hk_nt (τ : hk_v) (i : Nat) : Prop := τ (5, i) 3 = nI (τ (5, i) 3).toNatClampNeg ∧ (τ (5, i) 3).toNatClampNeg ≤ 20
theorem hk_nt.pos {τ : hk_v} {i : Nat} (h : hk_nt τ i) : ¬ τ (5, i) 3 < 0 := by rw [h.1]; exact nI_pos (by have := h.2; omega)
def hk_lo (Z : hk_Z) (τ : hk_v) : Prop := ∀ k, k < Z.1 2 → τ (11, k) 4 = nI (τ (11, k) 4).toNatClampNeg ∧ (τ (11, k) 4).toNatClampNeg ≤ Z.2.2 k ∧ Z.2.2 k ≤ 200
def hk_pr (τ : hk_v) : Prop := τ (4, 0) 2 = nI (τ (4, 0) 2).toNatClampNeg ∧ (τ (4, 0) 2).toNatClampNeg < 2 ^ 30
theorem hk_led_n {τ : hk_v} (h : hk_pr τ) : ∃ n, n ≤ 100 ∧ F_led τ = nI n := by
  unfold F_led
  rw [h.1]
  split
  · exact ⟨100, by omega, rfl⟩
  · rename_i q
    refine ⟨_, ?_, rfl⟩
    rcases Nat.lt_or_ge 100 (τ (4, 0) 2).toNatClampNeg with q2 | q2
    · exact absurd (show nI 100 < _ from nI_lt q2 (by have := h.2; omega)) q
    · exact q2
theorem hk_pk_in {τ : hk_v} {x : Int32} (h : hk_pr τ) (hc : ¬ hk_in x 0 (F_led τ - 1) = 0) : vp_in x 100 := by
  obtain ⟨n, hn, e⟩ := hk_led_n h
  obtain ⟨h1, h2⟩ := hk_in_ne hc
  obtain ⟨j, hj, rfl⟩ := nI_of h1
  rw [e] at h2
  rcases Nat.eq_zero_or_pos n with q | q
  · subst q
    exfalso
    apply h2
    rw [Int32.lt_iff_toInt_lt, nI_toInt hj, show (nI 0 - 1 : Int32).toInt = -1 from by decide]
    omega
  · rw [show (1 : Int32) = nI 1 from rfl, pk_sub q] at h2
    rcases Nat.lt_or_ge j 100 with q2 | q2
    · exact vp_in_nI q2 (by omega)
    · exact absurd (nI_lt (by omega) hj) h2
def F_waits (τ : hk_v) (v : Int32) : Int32 := (if (hk_in v 1 24) = 0 then (-1) else τ (0, 0) 9)
def T_waits (τ : hk_v) (v : Int32) : hk_v := (if (hk_in v 1 24) = 0 then τ else (hk_u τ (0, 0) 9 v))
set_option maxHeartbeats 4000000 in
set_option maxRecDepth 100000 in
theorem c_waits (l : Launch) (D : hk_D) (G : hk_G) (Z : hk_Z) (τ σ : hk_v) (v : Int32) (hG : hk_Y D G Z)  : Met l yX10_waits (hk_ws yX10_waits cX10_waits 3 (some FieldType.int)) ({ frames := 1, cells := 0, slots := 0, locals := 22 }) (hk_P D G (hk_cm τ σ) [.ref (G.1 (.inl (0, 0))), .int v]) (hk_Q D (hk_e G (some (.int (F_waits τ v))) (hk_cm (T_waits τ v) σ))) 0 0 (hk_A D) := by
  refine hk_met (by decide +kernel) (Nat.le_of_ble_eq_true rfl) (fun p e s m below meth c hx hb hr hml hlocks ht hown hin hK hH hS ls hl => ?_)
  have hl : lv_has ls 3 [(0, .ref (G.1 (.inl (0, 0)))), (1, .int v)] := hl
  refine lv_iload_n hx hb dX10_waits_0 rfl (lv_at hl 1 rfl) ?_
  refine lv_iconst (v := 1) hx hb dX10_waits_1 (by decide) ?_
  refine lv_bipush (v := 24) hx hb dX10_waits_2 (by decide) ?_
  refine hk_cS (As := [.int v, .int 1, .int 24]) (rest := []) hx hb hml hl.1 ht hown hK hH hS (c_within l D G τ σ v 1 24) ymS_X10_within tw_206 ⟨rfl, rfl⟩ ⟨Nat.le_of_ble_eq_true rfl, Nat.le_of_ble_eq_true rfl⟩ rfl rfl (Nat.le_of_ble_eq_true rfl) dX10_waits_4 ⟨Nat.le_of_ble_eq_true rfl, Nat.le_of_ble_eq_true rfl⟩ (hk_ea (fun H locs hH hS => ?_))
  refine lv_if_ne (tgt := 12) hx hb dX10_waits_7 (by decide) (fun c_1 => ?_) (fun c_1 => ?_)
  · refine lv_aload_n hx hb dX10_waits_12 rfl (lv_at hl 0 rfl) ?_
    refine hk_geti (L := (.inl (0, 0))) (v := τ (0, 0) 9) hx hb ht hown hK hH kc_11 hG.k0 9 (by decide) rfl tw_177 rfl rfl dX10_waits_13 ?_
    refine lv_istore_n (lv' := [(2, .int (τ (0, 0) 9)), (0, .ref (G.1 (.inl (0, 0)))), (1, .int v)]) hx hb dX10_waits_16 rfl hl (by decide) rfl (fun ls hl => ?_)
    refine lv_aload_n hx hb dX10_waits_17 rfl (lv_at hl 1 rfl) ?_
    refine lv_iload_n hx hb dX10_waits_18 rfl (lv_at hl 2 rfl) ?_
    refine hk_puti (L := (.inl (0, 0))) hx hb ht hown hK hH hS kc_11 hG.k0 9 (by decide) rfl tw_177 rfl (Or.inl rfl) rfl dX10_waits_19 (fun H locs hH hS => ?_)
    rw [hk_up_l] at hH
    refine lv_iload_n hx hb dX10_waits_22 rfl (lv_at hl 0 rfl) ?_
    exact hk_iret hx hb hr hlocks hH hS ⟨(by simp only [F_waits, if_neg c_1]), rfl, (by simp only [T_waits, if_neg c_1])⟩ dX10_waits_23
  · refine lv_iconst (v := -1) hx hb dX10_waits_10 (by decide) ?_
    exact hk_iret hx hb hr hlocks hH hS ⟨(by simp only [F_waits, if_pos c_1]), rfl, (by simp only [T_waits, if_pos c_1])⟩ dX10_waits_11
theorem ymV_X10_gangOf : hk_mV yX10_gangOf cX10_gangOf 2 (some (FieldType.object "HopYard$Gang")) RX10 1 := ⟨tw_342, tw_341, tw_3, tw_34, rfl, by decide, by decide, by decide +kernel⟩
theorem ymV_X10_gardenOf : hk_mV yX10_gardenOf cX10_gardenOf 2 (some (FieldType.object "HopYard$Garden")) RX10 1 := ⟨tw_360, tw_359, tw_4, tw_34, rfl, by decide, by decide, by decide +kernel⟩
def F_sends (τ : hk_v) (g : Int32) (d : Int32) : Int32 := (if hk_in g 0 (τ (1, 1) 2 - 1) = 0 then (-2) else (if d = (-9) then τ (10, g.toNatClampNeg) 2 else (if hk_in d 0 (τ (1, 0) 2 - 1) = 0 then (-2) else τ (10, g.toNatClampNeg) 2)))
def T_sends (τ : hk_v) (g : Int32) (d : Int32) : hk_v := (if hk_in g 0 (τ (1, 1) 2 - 1) = 0 then τ else (if d = (-9) then (hk_u τ (10, g.toNatClampNeg) 2 d) else (if hk_in d 0 (τ (1, 0) 2 - 1) = 0 then τ else (hk_u τ (10, g.toNatClampNeg) 2 d))))
set_option maxHeartbeats 4000000 in
set_option maxRecDepth 100000 in
theorem c_sends (l : Launch) (D : hk_D) (G : hk_G) (Z : hk_Z) (τ σ : hk_v) (g : Int32) (d : Int32) (hG : hk_Y D G Z) (hs : hk_sz Z τ) : Met l yX10_sends (hk_ws yX10_sends cX10_sends 5 (some FieldType.int)) ({ frames := 4, cells := 0, slots := 0, locals := 85 }) (hk_P D G (hk_cm τ σ) [.ref (G.1 (.inl (0, 0))), .int g, .int d]) (hk_Q D (hk_e G (some (.int (F_sends τ g d))) (hk_cm (T_sends τ g d) σ))) 0 0 (hk_A D) := by
  refine hk_met (by decide +kernel) (Nat.le_of_ble_eq_true rfl) (fun p e s m below meth c hx hb hr hml hlocks ht hown hin hK hH hS ls hl => ?_)
  have hl : lv_has ls 5 [(0, .ref (G.1 (.inl (0, 0)))), (1, .int g), (2, .int d)] := hl
  refine lv_aload_n hx hb dX10_sends_0 rfl (lv_at hl 0 rfl) ?_
  refine lv_iload_n hx hb dX10_sends_1 rfl (lv_at hl 1 rfl) ?_
  by_cases ho_1 : hk_in g 0 (τ (1, 1) 2 - 1) = 0
  · refine hk_cV (L := (.inl (0, 0))) (As := [.int g]) (rest := []) hx hb hml hl.1 ht hown hK hH hS (c_gangOf_out l D G Z τ σ g hG hs ho_1) ymV_X10_gangOf kc_11 hG.k0 tw_339 ⟨rfl, rfl⟩ ⟨Nat.le_of_ble_eq_true rfl, Nat.le_of_ble_eq_true rfl⟩ rfl rfl (Nat.le_of_ble_eq_true rfl) dX10_sends_2 ⟨Nat.le_of_ble_eq_true rfl, Nat.le_of_ble_eq_true rfl⟩ (hk_ea (fun H locs hH hS => ?_))
    refine lv_astore_nN (lv' := [(3, .null), (0, .ref (G.1 (.inl (0, 0)))), (1, .int g), (2, .int d)]) hx hb dX10_sends_5 rfl hl (by decide) rfl (fun ls hl => ?_)
    refine lv_aload_nN hx hb dX10_sends_6 rfl (lv_at hl 0 rfl) ?_
    refine lv_ifnonnullN hx hb dX10_sends_7 ?_
    refine lv_bipush (v := -2) hx hb dX10_sends_10 (by decide) ?_
    exact hk_iret hx hb hr hlocks hH hS ⟨(by simp only [F_sends, if_pos ho_1]), rfl, (by simp only [T_sends, if_pos ho_1])⟩ dX10_sends_12
  · refine hk_cV (L := (.inl (0, 0))) (As := [.int g]) (rest := []) hx hb hml hl.1 ht hown hK hH hS (c_gangOf_in l D G Z τ σ g hG hs ho_1) ymV_X10_gangOf kc_11 hG.k0 tw_339 ⟨rfl, rfl⟩ ⟨Nat.le_of_ble_eq_true rfl, Nat.le_of_ble_eq_true rfl⟩ rfl rfl (Nat.le_of_ble_eq_true rfl) dX10_sends_2 ⟨Nat.le_of_ble_eq_true rfl, Nat.le_of_ble_eq_true rfl⟩ (hk_ea (fun H locs hH hS => ?_))
    refine lv_astore_n (lv' := [(3, .ref (G.1 (.inl (10, g.toNatClampNeg)))), (0, .ref (G.1 (.inl (0, 0)))), (1, .int g), (2, .int d)]) hx hb dX10_sends_5 rfl hl (by decide) rfl (fun ls hl => ?_)
    refine lv_aload_n hx hb dX10_sends_6 rfl (lv_at hl 0 rfl) ?_
    refine lv_ifnonnull (tgt := 13) hx hb dX10_sends_7 (by decide) ?_
    refine lv_iload_n hx hb dX10_sends_13 rfl (lv_at hl 3 rfl) ?_
    refine lv_bipush (v := -9) hx hb dX10_sends_14 (by decide) ?_
    refine lv_icmp_eq (tgt := 30) hx hb dX10_sends_16 (by decide) (fun c_2 => ?_) (fun c_2 => ?_)
    · refine lv_aload_n hx hb dX10_sends_30 rfl (lv_at hl 0 rfl) ?_
      refine hk_geti (L := (.inl (10, g.toNatClampNeg))) (v := τ (10, g.toNatClampNeg) 2) hx hb ht hown hK hH kc_4 (hG.k10 g.toNatClampNeg (hk_in_sz hs.1.2.1 (by have := hs.2; omega) ho_1).1) 2 (by decide) rfl tw_315 rfl rfl dX10_sends_31 ?_
      refine lv_istore (lv' := [(4, .int (τ (10, g.toNatClampNeg) 2)), (3, .ref (G.1 (.inl (10, g.toNatClampNeg)))), (0, .ref (G.1 (.inl (0, 0)))), (1, .int g), (2, .int d)]) hx hb dX10_sends_34 hl (by decide) rfl (fun ls hl => ?_)
      refine lv_aload_n hx hb dX10_sends_36 rfl (lv_at hl 1 rfl) ?_
      refine lv_iload_n hx hb dX10_sends_37 rfl (lv_at hl 4 rfl) ?_
      refine hk_puti (L := (.inl (10, g.toNatClampNeg))) hx hb ht hown hK hH hS kc_4 (hG.k10 g.toNatClampNeg (hk_in_sz hs.1.2.1 (by have := hs.2; omega) ho_1).1) 2 (by decide) rfl tw_315 rfl (Or.inl rfl) rfl dX10_sends_38 (fun H locs hH hS => ?_)
      rw [hk_up_l] at hH
      refine lv_iload hx hb dX10_sends_41 (lv_at hl 0 rfl) ?_
      exact hk_iret hx hb hr hlocks hH hS ⟨(by simp only [F_sends, if_neg ho_1, if_pos c_2]), rfl, (by simp only [T_sends, if_neg ho_1, if_pos c_2])⟩ dX10_sends_43
    · refine lv_aload_n hx hb dX10_sends_19 rfl (lv_at hl 1 rfl) ?_
      refine lv_iload_n hx hb dX10_sends_20 rfl (lv_at hl 3 rfl) ?_
      by_cases ho_3 : hk_in d 0 (τ (1, 0) 2 - 1) = 0
      · refine hk_cV (L := (.inl (0, 0))) (As := [.int d]) (rest := []) hx hb hml hl.1 ht hown hK hH hS (c_gardenOf_out l D G Z τ σ d hG hs ho_3) ymV_X10_gardenOf kc_11 hG.k0 tw_357 ⟨rfl, rfl⟩ ⟨Nat.le_of_ble_eq_true rfl, Nat.le_of_ble_eq_true rfl⟩ rfl rfl (Nat.le_of_ble_eq_true rfl) dX10_sends_21 ⟨Nat.le_of_ble_eq_true rfl, Nat.le_of_ble_eq_true rfl⟩ (hk_ea (fun H locs hH hS => ?_))
        refine lv_ifnonnullN hx hb dX10_sends_24 ?_
        refine lv_bipush (v := -2) hx hb dX10_sends_27 (by decide) ?_
        exact hk_iret hx hb hr hlocks hH hS ⟨(by simp only [F_sends, if_neg ho_1, if_neg c_2, if_pos ho_3]), rfl, (by simp only [T_sends, if_neg ho_1, if_neg c_2, if_pos ho_3])⟩ dX10_sends_29
      · refine hk_cV (L := (.inl (0, 0))) (As := [.int d]) (rest := []) hx hb hml hl.1 ht hown hK hH hS (c_gardenOf_in l D G Z τ σ d hG hs ho_3) ymV_X10_gardenOf kc_11 hG.k0 tw_357 ⟨rfl, rfl⟩ ⟨Nat.le_of_ble_eq_true rfl, Nat.le_of_ble_eq_true rfl⟩ rfl rfl (Nat.le_of_ble_eq_true rfl) dX10_sends_21 ⟨Nat.le_of_ble_eq_true rfl, Nat.le_of_ble_eq_true rfl⟩ (hk_ea (fun H locs hH hS => ?_))
        refine lv_ifnonnull (tgt := 30) hx hb dX10_sends_24 (by decide) ?_
        refine lv_aload_n hx hb dX10_sends_30 rfl (lv_at hl 0 rfl) ?_
        refine hk_geti (L := (.inl (10, g.toNatClampNeg))) (v := τ (10, g.toNatClampNeg) 2) hx hb ht hown hK hH kc_4 (hG.k10 g.toNatClampNeg (hk_in_sz hs.1.2.1 (by have := hs.2; omega) ho_1).1) 2 (by decide) rfl tw_315 rfl rfl dX10_sends_31 ?_
        refine lv_istore (lv' := [(4, .int (τ (10, g.toNatClampNeg) 2)), (3, .ref (G.1 (.inl (10, g.toNatClampNeg)))), (0, .ref (G.1 (.inl (0, 0)))), (1, .int g), (2, .int d)]) hx hb dX10_sends_34 hl (by decide) rfl (fun ls hl => ?_)
        refine lv_aload_n hx hb dX10_sends_36 rfl (lv_at hl 1 rfl) ?_
        refine lv_iload_n hx hb dX10_sends_37 rfl (lv_at hl 4 rfl) ?_
        refine hk_puti (L := (.inl (10, g.toNatClampNeg))) hx hb ht hown hK hH hS kc_4 (hG.k10 g.toNatClampNeg (hk_in_sz hs.1.2.1 (by have := hs.2; omega) ho_1).1) 2 (by decide) rfl tw_315 rfl (Or.inl rfl) rfl dX10_sends_38 (fun H locs hH hS => ?_)
        rw [hk_up_l] at hH
        refine lv_iload hx hb dX10_sends_41 (lv_at hl 0 rfl) ?_
        exact hk_iret hx hb hr hlocks hH hS ⟨(by simp only [F_sends, if_neg ho_1, if_neg c_2, if_neg ho_3]), rfl, (by simp only [T_sends, if_neg ho_1, if_neg c_2, if_neg ho_3])⟩ dX10_sends_43
theorem ymV_X10_kilnOf : hk_mV yX10_kilnOf cX10_kilnOf 2 (some (FieldType.object "HopYard$Kiln")) RX10 1 := ⟨tw_434, tw_433, tw_5, tw_34, rfl, by decide, by decide, by decide +kernel⟩
def F_read (τ : hk_v) (k : Int32) (x : Int32) : Int32 := (if hk_in k 0 (τ (1, 2) 2 - 1) = 0 then (-1) else (if x = (-9) then τ (11, k.toNatClampNeg) 7 else (if (hk_in x 0 100) = 0 then (-1) else τ (11, k.toNatClampNeg) 7)))
def T_read (τ : hk_v) (k : Int32) (x : Int32) : hk_v := (if hk_in k 0 (τ (1, 2) 2 - 1) = 0 then τ else (if x = (-9) then τ else (if (hk_in x 0 100) = 0 then τ else (hk_u τ (11, k.toNatClampNeg) 7 x))))
set_option maxHeartbeats 4000000 in
set_option maxRecDepth 100000 in
theorem c_read (l : Launch) (D : hk_D) (G : hk_G) (Z : hk_Z) (τ σ : hk_v) (k : Int32) (x : Int32) (hG : hk_Y D G Z) (hs : hk_sz Z τ) : Met l yX10_read (hk_ws yX10_read cX10_read 5 (some FieldType.int)) ({ frames := 4, cells := 0, slots := 0, locals := 85 }) (hk_P D G (hk_cm τ σ) [.ref (G.1 (.inl (0, 0))), .int k, .int x]) (hk_Q D (hk_e G (some (.int (F_read τ k x))) (hk_cm (T_read τ k x) σ))) 0 0 (hk_A D) := by
  refine hk_met (by decide +kernel) (Nat.le_of_ble_eq_true rfl) (fun p e s m below meth c hx hb hr hml hlocks ht hown hin hK hH hS ls hl => ?_)
  have hl : lv_has ls 5 [(0, .ref (G.1 (.inl (0, 0)))), (1, .int k), (2, .int x)] := hl
  refine lv_aload_n hx hb dX10_read_0 rfl (lv_at hl 0 rfl) ?_
  refine lv_iload_n hx hb dX10_read_1 rfl (lv_at hl 1 rfl) ?_
  by_cases ho_1 : hk_in k 0 (τ (1, 2) 2 - 1) = 0
  · refine hk_cV (L := (.inl (0, 0))) (As := [.int k]) (rest := []) hx hb hml hl.1 ht hown hK hH hS (c_kilnOf_out l D G Z τ σ k hG hs ho_1) ymV_X10_kilnOf kc_11 hG.k0 tw_431 ⟨rfl, rfl⟩ ⟨Nat.le_of_ble_eq_true rfl, Nat.le_of_ble_eq_true rfl⟩ rfl rfl (Nat.le_of_ble_eq_true rfl) dX10_read_2 ⟨Nat.le_of_ble_eq_true rfl, Nat.le_of_ble_eq_true rfl⟩ (hk_ea (fun H locs hH hS => ?_))
    refine lv_astore_nN (lv' := [(3, .null), (0, .ref (G.1 (.inl (0, 0)))), (1, .int k), (2, .int x)]) hx hb dX10_read_5 rfl hl (by decide) rfl (fun ls hl => ?_)
    refine lv_aload_nN hx hb dX10_read_6 rfl (lv_at hl 0 rfl) ?_
    refine lv_ifnonnullN hx hb dX10_read_7 ?_
    refine lv_iconst (v := -1) hx hb dX10_read_10 (by decide) ?_
    exact hk_iret hx hb hr hlocks hH hS ⟨(by simp only [F_read, if_pos ho_1]), rfl, (by simp only [T_read, if_pos ho_1])⟩ dX10_read_11
  · refine hk_cV (L := (.inl (0, 0))) (As := [.int k]) (rest := []) hx hb hml hl.1 ht hown hK hH hS (c_kilnOf_in l D G Z τ σ k hG hs ho_1) ymV_X10_kilnOf kc_11 hG.k0 tw_431 ⟨rfl, rfl⟩ ⟨Nat.le_of_ble_eq_true rfl, Nat.le_of_ble_eq_true rfl⟩ rfl rfl (Nat.le_of_ble_eq_true rfl) dX10_read_2 ⟨Nat.le_of_ble_eq_true rfl, Nat.le_of_ble_eq_true rfl⟩ (hk_ea (fun H locs hH hS => ?_))
    refine lv_astore_n (lv' := [(3, .ref (G.1 (.inl (11, k.toNatClampNeg)))), (0, .ref (G.1 (.inl (0, 0)))), (1, .int k), (2, .int x)]) hx hb dX10_read_5 rfl hl (by decide) rfl (fun ls hl => ?_)
    refine lv_aload_n hx hb dX10_read_6 rfl (lv_at hl 0 rfl) ?_
    refine lv_ifnonnull (tgt := 12) hx hb dX10_read_7 (by decide) ?_
    refine lv_iload_n hx hb dX10_read_12 rfl (lv_at hl 3 rfl) ?_
    refine lv_bipush (v := -9) hx hb dX10_read_13 (by decide) ?_
    refine lv_icmp_eq (tgt := 30) hx hb dX10_read_15 (by decide) (fun c_2 => ?_) (fun c_2 => ?_)
    · refine lv_aload_n hx hb dX10_read_30 rfl (lv_at hl 0 rfl) ?_
      refine hk_geti (L := (.inl (11, k.toNatClampNeg))) (v := τ (11, k.toNatClampNeg) 7) hx hb ht hown hK hH kc_7 (hG.k11 k.toNatClampNeg (hk_in_sz hs.1.2.2 (by have := hs.2; omega) ho_1).1) 7 (by decide) rfl tw_409 rfl rfl dX10_read_31 ?_
      refine lv_istore (lv' := [(4, .int (τ (11, k.toNatClampNeg) 7)), (3, .ref (G.1 (.inl (11, k.toNatClampNeg)))), (0, .ref (G.1 (.inl (0, 0)))), (1, .int k), (2, .int x)]) hx hb dX10_read_34 hl (by decide) rfl (fun ls hl => ?_)
      refine lv_iload_n hx hb dX10_read_36 rfl (lv_at hl 4 rfl) ?_
      refine lv_bipush (v := -9) hx hb dX10_read_37 (by decide) ?_
      refine lv_icmp_eq (tgt := 47) hx hb dX10_read_39 (by decide) (fun c_3 => ?_) (fun c_3 => ?_)
      rotate_left
      · exfalso; first | exact absurd c_3 c_2 | exact absurd c_2 c_3
      refine lv_iload hx hb dX10_read_47 (lv_at hl 0 rfl) ?_
      exact hk_iret hx hb hr hlocks hH hS ⟨(by simp only [F_read, if_neg ho_1, if_pos c_2]), rfl, (by simp only [T_read, if_neg ho_1, if_pos c_2])⟩ dX10_read_49
    · refine lv_iload_n hx hb dX10_read_18 rfl (lv_at hl 3 rfl) ?_
      refine lv_iconst (v := 0) hx hb dX10_read_19 (by decide) ?_
      refine lv_bipush (v := 100) hx hb dX10_read_20 (by decide) ?_
      refine hk_cS (As := [.int x, .int 0, .int 100]) (rest := []) hx hb hml hl.1 ht hown hK hH hS (c_within l D G τ σ x 0 100) ymS_X10_within tw_206 ⟨rfl, rfl⟩ ⟨Nat.le_of_ble_eq_true rfl, Nat.le_of_ble_eq_true rfl⟩ rfl rfl (Nat.le_of_ble_eq_true rfl) dX10_read_22 ⟨Nat.le_of_ble_eq_true rfl, Nat.le_of_ble_eq_true rfl⟩ (hk_ea (fun H locs hH hS => ?_))
      refine lv_if_ne (tgt := 30) hx hb dX10_read_25 (by decide) (fun c_4 => ?_) (fun c_4 => ?_)
      · refine lv_aload_n hx hb dX10_read_30 rfl (lv_at hl 0 rfl) ?_
        refine hk_geti (L := (.inl (11, k.toNatClampNeg))) (v := τ (11, k.toNatClampNeg) 7) hx hb ht hown hK hH kc_7 (hG.k11 k.toNatClampNeg (hk_in_sz hs.1.2.2 (by have := hs.2; omega) ho_1).1) 7 (by decide) rfl tw_409 rfl rfl dX10_read_31 ?_
        refine lv_istore (lv' := [(4, .int (τ (11, k.toNatClampNeg) 7)), (3, .ref (G.1 (.inl (11, k.toNatClampNeg)))), (0, .ref (G.1 (.inl (0, 0)))), (1, .int k), (2, .int x)]) hx hb dX10_read_34 hl (by decide) rfl (fun ls hl => ?_)
        refine lv_iload_n hx hb dX10_read_36 rfl (lv_at hl 4 rfl) ?_
        refine lv_bipush (v := -9) hx hb dX10_read_37 (by decide) ?_
        refine lv_icmp_eq (tgt := 47) hx hb dX10_read_39 (by decide) (fun c_5 => ?_) (fun c_5 => ?_)
        · exfalso; first | exact absurd c_5 c_2 | exact absurd c_2 c_5
        refine lv_aload_n hx hb dX10_read_42 rfl (lv_at hl 1 rfl) ?_
        refine lv_iload_n hx hb dX10_read_43 rfl (lv_at hl 4 rfl) ?_
        refine hk_puti (L := (.inl (11, k.toNatClampNeg))) hx hb ht hown hK hH hS kc_7 (hG.k11 k.toNatClampNeg (hk_in_sz hs.1.2.2 (by have := hs.2; omega) ho_1).1) 7 (by decide) rfl tw_409 rfl (Or.inl rfl) rfl dX10_read_44 (fun H locs hH hS => ?_)
        rw [hk_up_l] at hH
        refine lv_iload hx hb dX10_read_47 (lv_at hl 0 rfl) ?_
        exact hk_iret hx hb hr hlocks hH hS ⟨(by simp only [F_read, if_neg ho_1, if_neg c_2, if_neg c_4]), rfl, (by simp only [T_read, if_neg ho_1, if_neg c_2, if_neg c_4])⟩ dX10_read_49
      · refine lv_iconst (v := -1) hx hb dX10_read_28 (by decide) ?_
        exact hk_iret hx hb hr hlocks hH hS ⟨(by simp only [F_read, if_neg ho_1, if_neg c_2, if_pos c_4]), rfl, (by simp only [T_read, if_neg ho_1, if_neg c_2, if_pos c_4])⟩ dX10_read_29
theorem ymV_X7_tell : hk_mV yX7_tell cX7_tell 3 (some FieldType.boolean) RX7 2 := ⟨tw_628, tw_626, tw_627, tw_40, rfl, by decide, by decide, by decide +kernel⟩
def F_price (τ : hk_v) (h : Int32) (v : Int32) : Int32 := (if (hk_in h (τ (0, 0) 8) 480) = 0 then (-1) else (if (hk_in v 1 50) = 0 then (-1) else (if (F_tell τ 0 h v) = 0 then (-3) else 1)))
def T_price (τ : hk_v) (h : Int32) (v : Int32) : hk_v := (if (hk_in h (τ (0, 0) 8) 480) = 0 then τ else (if (hk_in v 1 50) = 0 then τ else (T_tell τ 0 h v)))
set_option maxHeartbeats 4000000 in
set_option maxRecDepth 100000 in
theorem c_price (l : Launch) (D : hk_D) (G : hk_G) (Z : hk_Z) (τ σ : hk_v) (h : Int32) (v : Int32) (hG : hk_Y D G Z) (hn0 : hk_nt τ 0) : Met l yX10_price (hk_ws yX10_price cX10_price 3 (some FieldType.int)) ({ frames := 1, cells := 0, slots := 0, locals := 22 }) (hk_P D G (hk_cm τ σ) [.ref (G.1 (.inl (0, 0))), .int h, .int v]) (hk_Q D (hk_e G (some (.int (F_price τ h v))) (hk_cm (T_price τ h v) σ))) 0 0 (hk_A D) := by
  refine hk_met (by decide +kernel) (Nat.le_of_ble_eq_true rfl) (fun p e s m below meth c hx hb hr hml hlocks ht hown hin hK hH hS ls hl => ?_)
  have hl : lv_has ls 3 [(0, .ref (G.1 (.inl (0, 0)))), (1, .int h), (2, .int v)] := hl
  refine lv_iload_n hx hb dX10_price_0 rfl (lv_at hl 1 rfl) ?_
  refine lv_aload_n hx hb dX10_price_1 rfl (lv_at hl 0 rfl) ?_
  refine hk_geti (L := (.inl (0, 0))) (v := τ (0, 0) 8) hx hb ht hown hK hH kc_11 hG.k0 8 (by decide) rfl tw_176 rfl rfl dX10_price_2 ?_
  refine lv_sipush (v := 480) hx hb dX10_price_5 (by decide) ?_
  refine hk_cS (As := [.int h, .int (τ (0, 0) 8), .int 480]) (rest := []) hx hb hml hl.1 ht hown hK hH hS (c_within l D G τ σ h (τ (0, 0) 8) 480) ymS_X10_within tw_206 ⟨rfl, rfl⟩ ⟨Nat.le_of_ble_eq_true rfl, Nat.le_of_ble_eq_true rfl⟩ rfl rfl (Nat.le_of_ble_eq_true rfl) dX10_price_8 ⟨Nat.le_of_ble_eq_true rfl, Nat.le_of_ble_eq_true rfl⟩ (hk_ea (fun H locs hH hS => ?_))
  refine lv_if_eq (tgt := 24) hx hb dX10_price_11 (by decide) (fun c_1 => ?_) (fun c_1 => ?_)
  · refine lv_iconst (v := -1) hx hb dX10_price_24 (by decide) ?_
    exact hk_iret hx hb hr hlocks hH hS ⟨(by simp only [F_price, if_pos c_1]), rfl, (by simp only [T_price, if_pos c_1])⟩ dX10_price_25
  · refine lv_iload_n hx hb dX10_price_14 rfl (lv_at hl 2 rfl) ?_
    refine lv_iconst (v := 1) hx hb dX10_price_15 (by decide) ?_
    refine lv_bipush (v := 50) hx hb dX10_price_16 (by decide) ?_
    refine hk_cS (As := [.int v, .int 1, .int 50]) (rest := []) hx hb hml hl.1 ht hown hK hH hS (c_within l D G τ σ v 1 50) ymS_X10_within tw_206 ⟨rfl, rfl⟩ ⟨Nat.le_of_ble_eq_true rfl, Nat.le_of_ble_eq_true rfl⟩ rfl rfl (Nat.le_of_ble_eq_true rfl) dX10_price_18 ⟨Nat.le_of_ble_eq_true rfl, Nat.le_of_ble_eq_true rfl⟩ (hk_ea (fun H locs hH hS => ?_))
    refine lv_if_ne (tgt := 26) hx hb dX10_price_21 (by decide) (fun c_2 => ?_) (fun c_2 => ?_)
    · refine lv_aload_n hx hb dX10_price_26 rfl (lv_at hl 0 rfl) ?_
      refine hk_getr (L := (.inl (0, 0))) (v := .ref (G.1 (.inl (5, 0)))) hx hb ht hown hK hH kc_11 hG.k0 5 (by decide) rfl tw_173 rfl hG.r0_5 dX10_price_27 ?_
      refine lv_iload_n hx hb dX10_price_30 rfl (lv_at hl 1 rfl) ?_
      refine lv_iload_n hx hb dX10_price_31 rfl (lv_at hl 2 rfl) ?_
      refine hk_cV (L := (.inl (5, 0))) (As := [.int h, .int v]) (rest := []) hx hb hml hl.1 ht hown hK hH hS (c_tell l D G Z τ σ 0 h v hG (by decide) hn0.pos) ymV_X7_tell kc_8 (hG.k5 0 (by decide)) tw_625 ⟨rfl, rfl⟩ ⟨Nat.le_of_ble_eq_true rfl, Nat.le_of_ble_eq_true rfl⟩ rfl rfl (Nat.le_of_ble_eq_true rfl) dX10_price_32 ⟨Nat.le_of_ble_eq_true rfl, Nat.le_of_ble_eq_true rfl⟩ (hk_ea (fun H locs hH hS => ?_))
      refine lv_if_eq (tgt := 42) hx hb dX10_price_35 (by decide) (fun c_3 => ?_) (fun c_3 => ?_)
      · refine lv_bipush (v := -3) hx hb dX10_price_42 (by decide) ?_
        exact hk_iret hx hb hr hlocks hH hS ⟨(by simp only [F_price, if_neg c_1, if_neg c_2, if_pos c_3]), rfl, (by simp only [T_price, if_neg c_1, if_neg c_2, if_pos c_3])⟩ dX10_price_44
      · refine lv_iconst (v := 1) hx hb dX10_price_38 (by decide) ?_
        refine lv_goto (tgt := 44) hx hb dX10_price_39 (by decide) ?_
        exact hk_iret hx hb hr hlocks hH hS ⟨(by simp only [F_price, if_neg c_1, if_neg c_2, if_neg c_3]), rfl, (by simp only [T_price, if_neg c_1, if_neg c_2, if_neg c_3])⟩ dX10_price_44
    · refine lv_iconst (v := -1) hx hb dX10_price_24 (by decide) ?_
      exact hk_iret hx hb hr hlocks hH hS ⟨(by simp only [F_price, if_neg c_1, if_pos c_2]), rfl, (by simp only [T_price, if_neg c_1, if_pos c_2])⟩ dX10_price_25
def F_act (τ : hk_v) (d : Int32) (v : Int32) : Int32 := (if (hk_in d 0 40) = 0 then (-1) else (if (hk_in v 0 100) = 0 then (-1) else (if (τ (0, 0) 8) < (d * 12) then (if (F_tell τ 1 d v) = 0 then (-3) else 1) else (-2))))
def T_act (τ : hk_v) (d : Int32) (v : Int32) : hk_v := (if (hk_in d 0 40) = 0 then τ else (if (hk_in v 0 100) = 0 then τ else (if (τ (0, 0) 8) < (d * 12) then (T_tell τ 1 d v) else τ)))
set_option maxHeartbeats 4000000 in
set_option maxRecDepth 100000 in
theorem c_act (l : Launch) (D : hk_D) (G : hk_G) (Z : hk_Z) (τ σ : hk_v) (d : Int32) (v : Int32) (hG : hk_Y D G Z) (hn1 : hk_nt τ 1) : Met l yX10_act (hk_ws yX10_act cX10_act 3 (some FieldType.int)) ({ frames := 1, cells := 0, slots := 0, locals := 22 }) (hk_P D G (hk_cm τ σ) [.ref (G.1 (.inl (0, 0))), .int d, .int v]) (hk_Q D (hk_e G (some (.int (F_act τ d v))) (hk_cm (T_act τ d v) σ))) 0 0 (hk_A D) := by
  refine hk_met (by decide +kernel) (Nat.le_of_ble_eq_true rfl) (fun p e s m below meth c hx hb hr hml hlocks ht hown hin hK hH hS ls hl => ?_)
  have hl : lv_has ls 3 [(0, .ref (G.1 (.inl (0, 0)))), (1, .int d), (2, .int v)] := hl
  refine lv_iload_n hx hb dX10_act_0 rfl (lv_at hl 1 rfl) ?_
  refine lv_iconst (v := 0) hx hb dX10_act_1 (by decide) ?_
  refine lv_bipush (v := 40) hx hb dX10_act_2 (by decide) ?_
  refine hk_cS (As := [.int d, .int 0, .int 40]) (rest := []) hx hb hml hl.1 ht hown hK hH hS (c_within l D G τ σ d 0 40) ymS_X10_within tw_206 ⟨rfl, rfl⟩ ⟨Nat.le_of_ble_eq_true rfl, Nat.le_of_ble_eq_true rfl⟩ rfl rfl (Nat.le_of_ble_eq_true rfl) dX10_act_4 ⟨Nat.le_of_ble_eq_true rfl, Nat.le_of_ble_eq_true rfl⟩ (hk_ea (fun H locs hH hS => ?_))
  refine lv_if_eq (tgt := 20) hx hb dX10_act_7 (by decide) (fun c_1 => ?_) (fun c_1 => ?_)
  · refine lv_iconst (v := -1) hx hb dX10_act_20 (by decide) ?_
    exact hk_iret hx hb hr hlocks hH hS ⟨(by simp only [F_act, if_pos c_1]), rfl, (by simp only [T_act, if_pos c_1])⟩ dX10_act_21
  · refine lv_iload_n hx hb dX10_act_10 rfl (lv_at hl 2 rfl) ?_
    refine lv_iconst (v := 0) hx hb dX10_act_11 (by decide) ?_
    refine lv_bipush (v := 100) hx hb dX10_act_12 (by decide) ?_
    refine hk_cS (As := [.int v, .int 0, .int 100]) (rest := []) hx hb hml hl.1 ht hown hK hH hS (c_within l D G τ σ v 0 100) ymS_X10_within tw_206 ⟨rfl, rfl⟩ ⟨Nat.le_of_ble_eq_true rfl, Nat.le_of_ble_eq_true rfl⟩ rfl rfl (Nat.le_of_ble_eq_true rfl) dX10_act_14 ⟨Nat.le_of_ble_eq_true rfl, Nat.le_of_ble_eq_true rfl⟩ (hk_ea (fun H locs hH hS => ?_))
    refine lv_if_ne (tgt := 22) hx hb dX10_act_17 (by decide) (fun c_2 => ?_) (fun c_2 => ?_)
    · refine lv_iload_n hx hb dX10_act_22 rfl (lv_at hl 1 rfl) ?_
      refine lv_bipush (v := 12) hx hb dX10_act_23 (by decide) ?_
      refine lv_imul hx hb dX10_act_25 ?_
      refine lv_aload_n hx hb dX10_act_26 rfl (lv_at hl 0 rfl) ?_
      refine hk_geti (L := (.inl (0, 0))) (v := τ (0, 0) 8) hx hb ht hown hK hH kc_11 hG.k0 8 (by decide) rfl tw_176 rfl rfl dX10_act_27 ?_
      refine lv_icmp_gt (tgt := 36) hx hb dX10_act_30 (by decide) (fun c_3 => ?_) (fun c_3 => ?_)
      · refine lv_aload_n hx hb dX10_act_36 rfl (lv_at hl 0 rfl) ?_
        refine hk_getr (L := (.inl (0, 0))) (v := .ref (G.1 (.inl (5, 1)))) hx hb ht hown hK hH kc_11 hG.k0 6 (by decide) rfl tw_174 rfl hG.r0_6 dX10_act_37 ?_
        refine lv_iload_n hx hb dX10_act_40 rfl (lv_at hl 1 rfl) ?_
        refine lv_iload_n hx hb dX10_act_41 rfl (lv_at hl 2 rfl) ?_
        refine hk_cV (L := (.inl (5, 1))) (As := [.int d, .int v]) (rest := []) hx hb hml hl.1 ht hown hK hH hS (c_tell l D G Z τ σ 1 d v hG (by decide) hn1.pos) ymV_X7_tell kc_8 (hG.k5 1 (by decide)) tw_625 ⟨rfl, rfl⟩ ⟨Nat.le_of_ble_eq_true rfl, Nat.le_of_ble_eq_true rfl⟩ rfl rfl (Nat.le_of_ble_eq_true rfl) dX10_act_42 ⟨Nat.le_of_ble_eq_true rfl, Nat.le_of_ble_eq_true rfl⟩ (hk_ea (fun H locs hH hS => ?_))
        refine lv_if_eq (tgt := 52) hx hb dX10_act_45 (by decide) (fun c_4 => ?_) (fun c_4 => ?_)
        · refine lv_bipush (v := -3) hx hb dX10_act_52 (by decide) ?_
          exact hk_iret hx hb hr hlocks hH hS ⟨(by simp only [F_act, if_neg c_1, if_neg c_2, if_pos c_3, if_pos c_4]), rfl, (by simp only [T_act, if_neg c_1, if_neg c_2, if_pos c_3, if_pos c_4])⟩ dX10_act_54
        · refine lv_iconst (v := 1) hx hb dX10_act_48 (by decide) ?_
          refine lv_goto (tgt := 54) hx hb dX10_act_49 (by decide) ?_
          exact hk_iret hx hb hr hlocks hH hS ⟨(by simp only [F_act, if_neg c_1, if_neg c_2, if_pos c_3, if_neg c_4]), rfl, (by simp only [T_act, if_neg c_1, if_neg c_2, if_pos c_3, if_neg c_4])⟩ dX10_act_54
      · refine lv_bipush (v := -2) hx hb dX10_act_33 (by decide) ?_
        exact hk_iret hx hb hr hlocks hH hS ⟨(by simp only [F_act, if_neg c_1, if_neg c_2, if_neg c_3]), rfl, (by simp only [T_act, if_neg c_1, if_neg c_2, if_neg c_3])⟩ dX10_act_35
    · refine lv_iconst (v := -1) hx hb dX10_act_20 (by decide) ?_
      exact hk_iret hx hb hr hlocks hH hS ⟨(by simp only [F_act, if_neg c_1, if_pos c_2]), rfl, (by simp only [T_act, if_neg c_1, if_pos c_2])⟩ dX10_act_21
theorem ymV_X7_inForce : hk_mV yX7_inForce cX7_inForce 5 (some FieldType.int) RX7 1 := ⟨tw_485, tw_483, tw_484, tw_40, rfl, by decide, by decide, by decide +kernel⟩
def F_priced (τ : hk_v) (h : Int32) : Int32 := (if (hk_in h 0 480) = 0 then (-1) else F_inForce τ 0 (τ (5, 0) 3).toNatClampNeg h)
set_option maxHeartbeats 4000000 in
set_option maxRecDepth 100000 in
theorem c_priced (l : Launch) (D : hk_D) (G : hk_G) (Z : hk_Z) (τ σ : hk_v) (h : Int32) (hG : hk_Y D G Z) (hn0 : hk_nt τ 0) : Met l yX10_priced (hk_ws yX10_priced cX10_priced 2 (some FieldType.int)) ({ frames := 1, cells := 0, slots := 0, locals := 24 }) (hk_P D G (hk_cm τ σ) [.ref (G.1 (.inl (0, 0))), .int h]) (hk_Q D (hk_e G (some (.int (F_priced τ h))) (hk_cm τ σ))) 0 0 (hk_A D) := by
  refine hk_met (by decide +kernel) (Nat.le_of_ble_eq_true rfl) (fun p e s m below meth c hx hb hr hml hlocks ht hown hin hK hH hS ls hl => ?_)
  have hl : lv_has ls 2 [(0, .ref (G.1 (.inl (0, 0)))), (1, .int h)] := hl
  refine lv_iload_n hx hb dX10_priced_0 rfl (lv_at hl 1 rfl) ?_
  refine lv_iconst (v := 0) hx hb dX10_priced_1 (by decide) ?_
  refine lv_sipush (v := 480) hx hb dX10_priced_2 (by decide) ?_
  refine hk_cS (As := [.int h, .int 0, .int 480]) (rest := []) hx hb hml hl.1 ht hown hK hH hS (c_within l D G τ σ h 0 480) ymS_X10_within tw_206 ⟨rfl, rfl⟩ ⟨Nat.le_of_ble_eq_true rfl, Nat.le_of_ble_eq_true rfl⟩ rfl rfl (Nat.le_of_ble_eq_true rfl) dX10_priced_5 ⟨Nat.le_of_ble_eq_true rfl, Nat.le_of_ble_eq_true rfl⟩ (hk_ea (fun H locs hH hS => ?_))
  refine lv_if_ne (tgt := 13) hx hb dX10_priced_8 (by decide) (fun c_1 => ?_) (fun c_1 => ?_)
  · refine lv_aload_n hx hb dX10_priced_13 rfl (lv_at hl 0 rfl) ?_
    refine hk_getr (L := (.inl (0, 0))) (v := .ref (G.1 (.inl (5, 0)))) hx hb ht hown hK hH kc_11 hG.k0 5 (by decide) rfl tw_173 rfl hG.r0_5 dX10_priced_14 ?_
    refine lv_iload_n hx hb dX10_priced_17 rfl (lv_at hl 1 rfl) ?_
    refine hk_cV (L := (.inl (5, 0))) (As := [.int h]) (rest := []) hx hb hml hl.1 ht hown hK hH hS (c_inForce l D G Z τ σ 0 (τ (5, 0) 3).toNatClampNeg h hG (by decide) hn0.1 hn0.2) ymV_X7_inForce kc_8 (hG.k5 0 (by decide)) tw_482 ⟨rfl, rfl⟩ ⟨Nat.le_of_ble_eq_true rfl, Nat.le_of_ble_eq_true rfl⟩ rfl rfl (Nat.le_of_ble_eq_true rfl) dX10_priced_18 ⟨Nat.le_of_ble_eq_true rfl, Nat.le_of_ble_eq_true rfl⟩ (hk_ea (fun H locs hH hS => ?_))
    exact hk_iret hx hb hr hlocks hH hS ⟨(by simp only [F_priced, if_neg c_1]), rfl, rfl⟩ dX10_priced_21
  · refine lv_iconst (v := -1) hx hb dX10_priced_11 (by decide) ?_
    exact hk_iret hx hb hr hlocks hH hS ⟨(by simp only [F_priced, if_pos c_1]), rfl, rfl⟩ dX10_priced_12
def F_duty (τ : hk_v) (d : Int32) : Int32 := (if (hk_in d 0 40) = 0 then (-1) else F_inForce τ 1 (τ (5, 1) 3).toNatClampNeg d)
set_option maxHeartbeats 4000000 in
set_option maxRecDepth 100000 in
theorem c_duty (l : Launch) (D : hk_D) (G : hk_G) (Z : hk_Z) (τ σ : hk_v) (d : Int32) (hG : hk_Y D G Z) (hn1 : hk_nt τ 1) : Met l yX10_duty (hk_ws yX10_duty cX10_duty 2 (some FieldType.int)) ({ frames := 1, cells := 0, slots := 0, locals := 24 }) (hk_P D G (hk_cm τ σ) [.ref (G.1 (.inl (0, 0))), .int d]) (hk_Q D (hk_e G (some (.int (F_duty τ d))) (hk_cm τ σ))) 0 0 (hk_A D) := by
  refine hk_met (by decide +kernel) (Nat.le_of_ble_eq_true rfl) (fun p e s m below meth c hx hb hr hml hlocks ht hown hin hK hH hS ls hl => ?_)
  have hl : lv_has ls 2 [(0, .ref (G.1 (.inl (0, 0)))), (1, .int d)] := hl
  refine lv_iload_n hx hb dX10_duty_0 rfl (lv_at hl 1 rfl) ?_
  refine lv_iconst (v := 0) hx hb dX10_duty_1 (by decide) ?_
  refine lv_bipush (v := 40) hx hb dX10_duty_2 (by decide) ?_
  refine hk_cS (As := [.int d, .int 0, .int 40]) (rest := []) hx hb hml hl.1 ht hown hK hH hS (c_within l D G τ σ d 0 40) ymS_X10_within tw_206 ⟨rfl, rfl⟩ ⟨Nat.le_of_ble_eq_true rfl, Nat.le_of_ble_eq_true rfl⟩ rfl rfl (Nat.le_of_ble_eq_true rfl) dX10_duty_4 ⟨Nat.le_of_ble_eq_true rfl, Nat.le_of_ble_eq_true rfl⟩ (hk_ea (fun H locs hH hS => ?_))
  refine lv_if_ne (tgt := 12) hx hb dX10_duty_7 (by decide) (fun c_1 => ?_) (fun c_1 => ?_)
  · refine lv_aload_n hx hb dX10_duty_12 rfl (lv_at hl 0 rfl) ?_
    refine hk_getr (L := (.inl (0, 0))) (v := .ref (G.1 (.inl (5, 1)))) hx hb ht hown hK hH kc_11 hG.k0 6 (by decide) rfl tw_174 rfl hG.r0_6 dX10_duty_13 ?_
    refine lv_iload_n hx hb dX10_duty_16 rfl (lv_at hl 1 rfl) ?_
    refine hk_cV (L := (.inl (5, 1))) (As := [.int d]) (rest := []) hx hb hml hl.1 ht hown hK hH hS (c_inForce l D G Z τ σ 1 (τ (5, 1) 3).toNatClampNeg d hG (by decide) hn1.1 hn1.2) ymV_X7_inForce kc_8 (hG.k5 1 (by decide)) tw_482 ⟨rfl, rfl⟩ ⟨Nat.le_of_ble_eq_true rfl, Nat.le_of_ble_eq_true rfl⟩ rfl rfl (Nat.le_of_ble_eq_true rfl) dX10_duty_17 ⟨Nat.le_of_ble_eq_true rfl, Nat.le_of_ble_eq_true rfl⟩ (hk_ea (fun H locs hH hS => ?_))
    exact hk_iret hx hb hr hlocks hH hS ⟨(by simp only [F_duty, if_neg c_1]), rfl, rfl⟩ dX10_duty_20
  · refine lv_iconst (v := -1) hx hb dX10_duty_10 (by decide) ?_
    exact hk_iret hx hb hr hlocks hH hS ⟨(by simp only [F_duty, if_pos c_1]), rfl, rfl⟩ dX10_duty_11
theorem ymV_X5_ofHour : hk_mV yX5_ofHour cX5_ofHour 4 (some FieldType.int) RX5 1 := ⟨tw_595, tw_593, tw_594, tw_38, rfl, by decide, by decide, by decide +kernel⟩
def F_green (τ : hk_v) (h : Int32) : Int32 := (if (hk_in h 0 23) = 0 then (-1) else F_ofHour τ (((τ (0, 0) 8) - 1) - h))
set_option maxHeartbeats 4000000 in
set_option maxRecDepth 100000 in
theorem c_green (l : Launch) (D : hk_D) (G : hk_G) (Z : hk_Z) (τ σ : hk_v) (h : Int32) (hG : hk_Y D G Z)  : Met l yX10_green (hk_ws yX10_green cX10_green 2 (some FieldType.int)) ({ frames := 3, cells := 0, slots := 0, locals := 66 }) (hk_P D G (hk_cm τ σ) [.ref (G.1 (.inl (0, 0))), .int h]) (hk_Q D (hk_e G (some (.int (F_green τ h))) (hk_cm τ σ))) 0 0 (hk_A D) := by
  refine hk_met (by decide +kernel) (Nat.le_of_ble_eq_true rfl) (fun p e s m below meth c hx hb hr hml hlocks ht hown hin hK hH hS ls hl => ?_)
  have hl : lv_has ls 2 [(0, .ref (G.1 (.inl (0, 0)))), (1, .int h)] := hl
  refine lv_iload_n hx hb dX10_green_0 rfl (lv_at hl 1 rfl) ?_
  refine lv_iconst (v := 0) hx hb dX10_green_1 (by decide) ?_
  refine lv_bipush (v := 23) hx hb dX10_green_2 (by decide) ?_
  refine hk_cS (As := [.int h, .int 0, .int 23]) (rest := []) hx hb hml hl.1 ht hown hK hH hS (c_within l D G τ σ h 0 23) ymS_X10_within tw_206 ⟨rfl, rfl⟩ ⟨Nat.le_of_ble_eq_true rfl, Nat.le_of_ble_eq_true rfl⟩ rfl rfl (Nat.le_of_ble_eq_true rfl) dX10_green_4 ⟨Nat.le_of_ble_eq_true rfl, Nat.le_of_ble_eq_true rfl⟩ (hk_ea (fun H locs hH hS => ?_))
  refine lv_if_ne (tgt := 12) hx hb dX10_green_7 (by decide) (fun c_1 => ?_) (fun c_1 => ?_)
  · refine lv_aload_n hx hb dX10_green_12 rfl (lv_at hl 0 rfl) ?_
    refine hk_getr (L := (.inl (0, 0))) (v := .ref (G.1 (.inl (3, 0)))) hx hb ht hown hK hH kc_11 hG.k0 3 (by decide) rfl tw_171 rfl hG.r0_3 dX10_green_13 ?_
    refine lv_aload_n hx hb dX10_green_16 rfl (lv_at hl 0 rfl) ?_
    refine hk_geti (L := (.inl (0, 0))) (v := τ (0, 0) 8) hx hb ht hown hK hH kc_11 hG.k0 8 (by decide) rfl tw_176 rfl rfl dX10_green_17 ?_
    refine lv_iconst (v := 1) hx hb dX10_green_20 (by decide) ?_
    refine lv_isub hx hb dX10_green_21 ?_
    refine lv_iload_n hx hb dX10_green_22 rfl (lv_at hl 1 rfl) ?_
    refine lv_isub hx hb dX10_green_23 ?_
    refine hk_cV (L := (.inl (3, 0))) (As := [.int (((τ (0, 0) 8) - 1) - h)]) (rest := []) hx hb hml hl.1 ht hown hK hH hS (c_ofHour l D G Z τ σ (((τ (0, 0) 8) - 1) - h) hG) ymV_X5_ofHour kc_6 hG.k3_0 tw_592 ⟨rfl, rfl⟩ ⟨Nat.le_of_ble_eq_true rfl, Nat.le_of_ble_eq_true rfl⟩ rfl rfl (Nat.le_of_ble_eq_true rfl) dX10_green_24 ⟨Nat.le_of_ble_eq_true rfl, Nat.le_of_ble_eq_true rfl⟩ (hk_ea (fun H locs hH hS => ?_))
    exact hk_iret hx hb hr hlocks hH hS ⟨(by simp only [F_green, if_neg c_1]), rfl, rfl⟩ dX10_green_27
  · refine lv_iconst (v := -1) hx hb dX10_green_10 (by decide) ?_
    exact hk_iret hx hb hr hlocks hH hS ⟨(by simp only [F_green, if_pos c_1]), rfl, rfl⟩ dX10_green_11
theorem ymV_X9_led : hk_mV yX9_led cX9_led 1 (some FieldType.int) RX9 0 := ⟨tw_603, tw_601, tw_602, tw_39, rfl, by decide, by decide, by decide +kernel⟩
def F_pocket (τ : hk_v) (x : Int32) (w : Int32) : Int32 := (if (hk_in x 0 ((F_led τ) - 1)) = 0 then (-1) else (if w = 0 then τ (4, 1) x.toNatClampNeg else (if w = 1 then τ (4, 2) x.toNatClampNeg else (if w = 2 then F_inForce τ 1 (τ (5, 1) 3).toNatClampNeg (τ (4, 2) x.toNatClampNeg) else (-1)))))
set_option maxHeartbeats 4000000 in
set_option maxRecDepth 100000 in
theorem c_pocket (l : Launch) (D : hk_D) (G : hk_G) (Z : hk_Z) (τ σ : hk_v) (x : Int32) (w : Int32) (hG : hk_Y D G Z) (hn1 : hk_nt τ 1) (hpr : hk_pr τ) : Met l yX10_pocket (hk_ws yX10_pocket cX10_pocket 3 (some FieldType.int)) ({ frames := 2, cells := 0, slots := 0, locals := 33 }) (hk_P D G (hk_cm τ σ) [.ref (G.1 (.inl (0, 0))), .int x, .int w]) (hk_Q D (hk_e G (some (.int (F_pocket τ x w))) (hk_cm τ σ))) 0 0 (hk_A D) := by
  refine hk_met (by decide +kernel) (Nat.le_of_ble_eq_true rfl) (fun p e s m below meth c hx hb hr hml hlocks ht hown hin hK hH hS ls hl => ?_)
  have hl : lv_has ls 3 [(0, .ref (G.1 (.inl (0, 0)))), (1, .int x), (2, .int w)] := hl
  refine lv_iload_n hx hb dX10_pocket_0 rfl (lv_at hl 1 rfl) ?_
  refine lv_iconst (v := 0) hx hb dX10_pocket_1 (by decide) ?_
  refine lv_aload_n hx hb dX10_pocket_2 rfl (lv_at hl 0 rfl) ?_
  refine hk_getr (L := (.inl (0, 0))) (v := .ref (G.1 (.inl (4, 0)))) hx hb ht hown hK hH kc_11 hG.k0 4 (by decide) rfl tw_172 rfl hG.r0_4 dX10_pocket_3 ?_
  refine hk_cV (L := (.inl (4, 0))) (As := []) (rest := [.int 0, .int x]) hx hb hml hl.1 ht hown hK hH hS (c_led l D G Z τ σ hG) ymV_X9_led kc_10 hG.k4_0 tw_600 ⟨rfl, rfl⟩ ⟨Nat.le_of_ble_eq_true rfl, Nat.le_of_ble_eq_true rfl⟩ rfl rfl (Nat.le_of_ble_eq_true rfl) dX10_pocket_6 ⟨Nat.le_of_ble_eq_true rfl, Nat.le_of_ble_eq_true rfl⟩ (hk_ea (fun H locs hH hS => ?_))
  refine lv_iconst (v := 1) hx hb dX10_pocket_9 (by decide) ?_
  refine lv_isub hx hb dX10_pocket_10 ?_
  refine hk_cS (As := [.int x, .int 0, .int ((F_led τ) - 1)]) (rest := []) hx hb hml hl.1 ht hown hK hH hS (c_within l D G τ σ x 0 ((F_led τ) - 1)) ymS_X10_within tw_206 ⟨rfl, rfl⟩ ⟨Nat.le_of_ble_eq_true rfl, Nat.le_of_ble_eq_true rfl⟩ rfl rfl (Nat.le_of_ble_eq_true rfl) dX10_pocket_11 ⟨Nat.le_of_ble_eq_true rfl, Nat.le_of_ble_eq_true rfl⟩ (hk_ea (fun H locs hH hS => ?_))
  refine lv_if_ne (tgt := 19) hx hb dX10_pocket_14 (by decide) (fun c_1 => ?_) (fun c_1 => ?_)
  · refine lv_iload_n hx hb dX10_pocket_19 rfl (lv_at hl 2 rfl) ?_
    rcases hk_sw2 w with (rfl | rfl | rfl) | hsw
    · refine lv_tableIn (x := 0) (tgt := 48) hx hb dX10_pocket_20 (by decide) (by decide) rfl (by decide) ?_
      refine lv_aload_n hx hb dX10_pocket_48 rfl (lv_at hl 0 rfl) ?_
      refine hk_getr (L := (.inl (0, 0))) (v := .ref (G.1 (.inl (4, 0)))) hx hb ht hown hK hH kc_11 hG.k0 4 (by decide) rfl tw_172 rfl hG.r0_4 dX10_pocket_49 ?_
      refine hk_getr (L := (.inl (4, 0))) (v := .ref (G.1 (.inl (4, 1)))) hx hb ht hown hK hH kc_10 hG.k4_0 0 (by decide) rfl tw_111 rfl hG.r4_0 dX10_pocket_52 ?_
      refine lv_iload_n hx hb dX10_pocket_55 rfl (lv_at hl 1 rfl) ?_
      refine hk_ild (L := (.inl (4, 1))) (v := τ (4, 1) x.toNatClampNeg) hx hb hK hH hG.k4_1 (hk_pk_in hpr c_1) rfl dX10_pocket_56 ?_
      exact hk_iret hx hb hr hlocks hH hS ⟨(by simp [F_pocket, if_neg c_1]), rfl, rfl⟩ dX10_pocket_57
    · refine lv_tableIn (x := 1) (tgt := 58) hx hb dX10_pocket_20 (by decide) (by decide) rfl (by decide) ?_
      refine lv_aload_n hx hb dX10_pocket_58 rfl (lv_at hl 0 rfl) ?_
      refine hk_getr (L := (.inl (0, 0))) (v := .ref (G.1 (.inl (4, 0)))) hx hb ht hown hK hH kc_11 hG.k0 4 (by decide) rfl tw_172 rfl hG.r0_4 dX10_pocket_59 ?_
      refine hk_getr (L := (.inl (4, 0))) (v := .ref (G.1 (.inl (4, 2)))) hx hb ht hown hK hH kc_10 hG.k4_0 1 (by decide) rfl tw_113 rfl hG.r4_1 dX10_pocket_62 ?_
      refine lv_iload_n hx hb dX10_pocket_65 rfl (lv_at hl 1 rfl) ?_
      refine hk_ild (L := (.inl (4, 2))) (v := τ (4, 2) x.toNatClampNeg) hx hb hK hH hG.k4_2 (hk_pk_in hpr c_1) rfl dX10_pocket_66 ?_
      exact hk_iret hx hb hr hlocks hH hS ⟨(by simp [F_pocket, if_neg c_1]), rfl, rfl⟩ dX10_pocket_67
    · refine lv_tableIn (x := 2) (tgt := 68) hx hb dX10_pocket_20 (by decide) (by decide) rfl (by decide) ?_
      refine lv_aload_n hx hb dX10_pocket_68 rfl (lv_at hl 0 rfl) ?_
      refine hk_getr (L := (.inl (0, 0))) (v := .ref (G.1 (.inl (5, 1)))) hx hb ht hown hK hH kc_11 hG.k0 6 (by decide) rfl tw_174 rfl hG.r0_6 dX10_pocket_69 ?_
      refine lv_aload_n hx hb dX10_pocket_72 rfl (lv_at hl 0 rfl) ?_
      refine hk_getr (L := (.inl (0, 0))) (v := .ref (G.1 (.inl (4, 0)))) hx hb ht hown hK hH kc_11 hG.k0 4 (by decide) rfl tw_172 rfl hG.r0_4 dX10_pocket_73 ?_
      refine hk_getr (L := (.inl (4, 0))) (v := .ref (G.1 (.inl (4, 2)))) hx hb ht hown hK hH kc_10 hG.k4_0 1 (by decide) rfl tw_113 rfl hG.r4_1 dX10_pocket_76 ?_
      refine lv_iload_n hx hb dX10_pocket_79 rfl (lv_at hl 1 rfl) ?_
      refine hk_ild (L := (.inl (4, 2))) (v := τ (4, 2) x.toNatClampNeg) hx hb hK hH hG.k4_2 (hk_pk_in hpr c_1) rfl dX10_pocket_80 ?_
      refine hk_cV (L := (.inl (5, 1))) (As := [.int (τ (4, 2) x.toNatClampNeg)]) (rest := []) hx hb hml hl.1 ht hown hK hH hS (c_inForce l D G Z τ σ 1 (τ (5, 1) 3).toNatClampNeg (τ (4, 2) x.toNatClampNeg) hG (by decide) hn1.1 hn1.2) ymV_X7_inForce kc_8 (hG.k5 1 (by decide)) tw_482 ⟨rfl, rfl⟩ ⟨Nat.le_of_ble_eq_true rfl, Nat.le_of_ble_eq_true rfl⟩ rfl rfl (Nat.le_of_ble_eq_true rfl) dX10_pocket_81 ⟨Nat.le_of_ble_eq_true rfl, Nat.le_of_ble_eq_true rfl⟩ (hk_ea (fun H locs hH hS => ?_))
      exact hk_iret hx hb hr hlocks hH hS ⟨(by simp [F_pocket, if_neg c_1]), rfl, rfl⟩ dX10_pocket_84
    · refine lv_tableOut (tgt := 85) hx hb dX10_pocket_20 hsw.1 (by decide) ?_
      refine lv_iconst (v := -1) hx hb dX10_pocket_85 (by decide) ?_
      exact hk_iret hx hb hr hlocks hH hS ⟨(by simp [F_pocket, if_neg c_1, hsw]), rfl, rfl⟩ dX10_pocket_86
  · refine lv_iconst (v := -1) hx hb dX10_pocket_17 (by decide) ?_
    exact hk_iret hx hb hr hlocks hH hS ⟨(by simp only [F_pocket, if_pos c_1]), rfl, rfl⟩ dX10_pocket_18
def F_tally (τ : hk_v) (g : Int32) (w : Int32) : Int32 := (if hk_in g 0 (τ (1, 1) 2 - 1) = 0 then (-2) else (if w = 0 then τ (10, g.toNatClampNeg) 3 else (if w = 1 then τ (10, g.toNatClampNeg) 4 else (if w = 2 then τ (10, g.toNatClampNeg) 5 else (if w = 3 then τ (10, g.toNatClampNeg) 2 else (-2))))))
set_option maxHeartbeats 4000000 in
set_option maxRecDepth 100000 in
theorem c_tally (l : Launch) (D : hk_D) (G : hk_G) (Z : hk_Z) (τ σ : hk_v) (g : Int32) (w : Int32) (hG : hk_Y D G Z) (hs : hk_sz Z τ) : Met l yX10_tally (hk_ws yX10_tally cX10_tally 4 (some FieldType.int)) ({ frames := 4, cells := 0, slots := 0, locals := 85 }) (hk_P D G (hk_cm τ σ) [.ref (G.1 (.inl (0, 0))), .int g, .int w]) (hk_Q D (hk_e G (some (.int (F_tally τ g w))) (hk_cm τ σ))) 0 0 (hk_A D) := by
  refine hk_met (by decide +kernel) (Nat.le_of_ble_eq_true rfl) (fun p e s m below meth c hx hb hr hml hlocks ht hown hin hK hH hS ls hl => ?_)
  have hl : lv_has ls 4 [(0, .ref (G.1 (.inl (0, 0)))), (1, .int g), (2, .int w)] := hl
  refine lv_aload_n hx hb dX10_tally_0 rfl (lv_at hl 0 rfl) ?_
  refine lv_iload_n hx hb dX10_tally_1 rfl (lv_at hl 1 rfl) ?_
  by_cases ho_1 : hk_in g 0 (τ (1, 1) 2 - 1) = 0
  · refine hk_cV (L := (.inl (0, 0))) (As := [.int g]) (rest := []) hx hb hml hl.1 ht hown hK hH hS (c_gangOf_out l D G Z τ σ g hG hs ho_1) ymV_X10_gangOf kc_11 hG.k0 tw_339 ⟨rfl, rfl⟩ ⟨Nat.le_of_ble_eq_true rfl, Nat.le_of_ble_eq_true rfl⟩ rfl rfl (Nat.le_of_ble_eq_true rfl) dX10_tally_2 ⟨Nat.le_of_ble_eq_true rfl, Nat.le_of_ble_eq_true rfl⟩ (hk_ea (fun H locs hH hS => ?_))
    refine lv_astore_nN (lv' := [(3, .null), (0, .ref (G.1 (.inl (0, 0)))), (1, .int g), (2, .int w)]) hx hb dX10_tally_5 rfl hl (by decide) rfl (fun ls hl => ?_)
    refine lv_aload_nN hx hb dX10_tally_6 rfl (lv_at hl 0 rfl) ?_
    refine lv_ifnonnullN hx hb dX10_tally_7 ?_
    refine lv_bipush (v := -2) hx hb dX10_tally_10 (by decide) ?_
    exact hk_iret hx hb hr hlocks hH hS ⟨(by simp only [F_tally, if_pos ho_1]), rfl, rfl⟩ dX10_tally_12
  · refine hk_cV (L := (.inl (0, 0))) (As := [.int g]) (rest := []) hx hb hml hl.1 ht hown hK hH hS (c_gangOf_in l D G Z τ σ g hG hs ho_1) ymV_X10_gangOf kc_11 hG.k0 tw_339 ⟨rfl, rfl⟩ ⟨Nat.le_of_ble_eq_true rfl, Nat.le_of_ble_eq_true rfl⟩ rfl rfl (Nat.le_of_ble_eq_true rfl) dX10_tally_2 ⟨Nat.le_of_ble_eq_true rfl, Nat.le_of_ble_eq_true rfl⟩ (hk_ea (fun H locs hH hS => ?_))
    refine lv_astore_n (lv' := [(3, .ref (G.1 (.inl (10, g.toNatClampNeg)))), (0, .ref (G.1 (.inl (0, 0)))), (1, .int g), (2, .int w)]) hx hb dX10_tally_5 rfl hl (by decide) rfl (fun ls hl => ?_)
    refine lv_aload_n hx hb dX10_tally_6 rfl (lv_at hl 0 rfl) ?_
    refine lv_ifnonnull (tgt := 13) hx hb dX10_tally_7 (by decide) ?_
    refine lv_iload_n hx hb dX10_tally_13 rfl (lv_at hl 3 rfl) ?_
    rcases hk_sw3 w with (rfl | rfl | rfl | rfl) | hsw
    · refine lv_tableIn (x := 0) (tgt := 44) hx hb dX10_tally_14 (by decide) (by decide) rfl (by decide) ?_
      refine lv_aload_n hx hb dX10_tally_44 rfl (lv_at hl 0 rfl) ?_
      refine hk_geti (L := (.inl (10, g.toNatClampNeg))) (v := τ (10, g.toNatClampNeg) 3) hx hb ht hown hK hH kc_4 (hG.k10 g.toNatClampNeg (hk_in_sz hs.1.2.1 (by have := hs.2; omega) ho_1).1) 3 (by decide) rfl tw_317 rfl rfl dX10_tally_45 ?_
      exact hk_iret hx hb hr hlocks hH hS ⟨(by simp [F_tally, if_neg ho_1]), rfl, rfl⟩ dX10_tally_48
    · refine lv_tableIn (x := 1) (tgt := 49) hx hb dX10_tally_14 (by decide) (by decide) rfl (by decide) ?_
      refine lv_aload_n hx hb dX10_tally_49 rfl (lv_at hl 0 rfl) ?_
      refine hk_geti (L := (.inl (10, g.toNatClampNeg))) (v := τ (10, g.toNatClampNeg) 4) hx hb ht hown hK hH kc_4 (hG.k10 g.toNatClampNeg (hk_in_sz hs.1.2.1 (by have := hs.2; omega) ho_1).1) 4 (by decide) rfl tw_319 rfl rfl dX10_tally_50 ?_
      exact hk_iret hx hb hr hlocks hH hS ⟨(by simp [F_tally, if_neg ho_1]), rfl, rfl⟩ dX10_tally_53
    · refine lv_tableIn (x := 2) (tgt := 54) hx hb dX10_tally_14 (by decide) (by decide) rfl (by decide) ?_
      refine lv_aload_n hx hb dX10_tally_54 rfl (lv_at hl 0 rfl) ?_
      refine hk_geti (L := (.inl (10, g.toNatClampNeg))) (v := τ (10, g.toNatClampNeg) 5) hx hb ht hown hK hH kc_4 (hG.k10 g.toNatClampNeg (hk_in_sz hs.1.2.1 (by have := hs.2; omega) ho_1).1) 5 (by decide) rfl tw_321 rfl rfl dX10_tally_55 ?_
      exact hk_iret hx hb hr hlocks hH hS ⟨(by simp [F_tally, if_neg ho_1]), rfl, rfl⟩ dX10_tally_58
    · refine lv_tableIn (x := 3) (tgt := 59) hx hb dX10_tally_14 (by decide) (by decide) rfl (by decide) ?_
      refine lv_aload_n hx hb dX10_tally_59 rfl (lv_at hl 0 rfl) ?_
      refine hk_geti (L := (.inl (10, g.toNatClampNeg))) (v := τ (10, g.toNatClampNeg) 2) hx hb ht hown hK hH kc_4 (hG.k10 g.toNatClampNeg (hk_in_sz hs.1.2.1 (by have := hs.2; omega) ho_1).1) 2 (by decide) rfl tw_315 rfl rfl dX10_tally_60 ?_
      exact hk_iret hx hb hr hlocks hH hS ⟨(by simp [F_tally, if_neg ho_1]), rfl, rfl⟩ dX10_tally_63
    · refine lv_tableOut (tgt := 64) hx hb dX10_tally_14 hsw.1 (by decide) ?_
      refine lv_bipush (v := -2) hx hb dX10_tally_64 (by decide) ?_
      exact hk_iret hx hb hr hlocks hH hS ⟨(by simp [F_tally, if_neg ho_1, hsw]), rfl, rfl⟩ dX10_tally_66
theorem ymV_X6_gardenBits : hk_mV yX6_gardenBits cX6_gardenBits 3 (some FieldType.int) RX6 0 := ⟨tw_587, tw_585, tw_586, tw_51, rfl, by decide, by decide, by decide +kernel⟩
def F_inn (τ : hk_v) (k : Int32) (w : Int32) : Int32 := (if hk_in k 0 (τ (1, 2) 2 - 1) = 0 then (-1) else (if w = 0 then τ (11, k.toNatClampNeg) 5 else (if w = 1 then τ (11, k.toNatClampNeg) 6 else (if w = 2 then τ (11, k.toNatClampNeg) 7 else (if w = 3 then F_gardenBits τ k.toNatClampNeg (τ (11, k.toNatClampNeg) 4).toNatClampNeg else (-1))))))
set_option maxHeartbeats 4000000 in
set_option maxRecDepth 100000 in
theorem c_inn (l : Launch) (D : hk_D) (G : hk_G) (Z : hk_Z) (τ σ : hk_v) (k : Int32) (w : Int32) (hG : hk_Y D G Z) (hs : hk_sz Z τ) (hlo : hk_lo Z τ) : Met l yX10_in (hk_ws yX10_in cX10_in 4 (some FieldType.int)) ({ frames := 4, cells := 0, slots := 0, locals := 85 }) (hk_P D G (hk_cm τ σ) [.ref (G.1 (.inl (0, 0))), .int k, .int w]) (hk_Q D (hk_e G (some (.int (F_inn τ k w))) (hk_cm τ σ))) 0 0 (hk_A D) := by
  refine hk_met (by decide +kernel) (Nat.le_of_ble_eq_true rfl) (fun p e s m below meth c hx hb hr hml hlocks ht hown hin hK hH hS ls hl => ?_)
  have hl : lv_has ls 4 [(0, .ref (G.1 (.inl (0, 0)))), (1, .int k), (2, .int w)] := hl
  refine lv_aload_n hx hb dX10_in_0 rfl (lv_at hl 0 rfl) ?_
  refine lv_iload_n hx hb dX10_in_1 rfl (lv_at hl 1 rfl) ?_
  by_cases ho_1 : hk_in k 0 (τ (1, 2) 2 - 1) = 0
  · refine hk_cV (L := (.inl (0, 0))) (As := [.int k]) (rest := []) hx hb hml hl.1 ht hown hK hH hS (c_kilnOf_out l D G Z τ σ k hG hs ho_1) ymV_X10_kilnOf kc_11 hG.k0 tw_431 ⟨rfl, rfl⟩ ⟨Nat.le_of_ble_eq_true rfl, Nat.le_of_ble_eq_true rfl⟩ rfl rfl (Nat.le_of_ble_eq_true rfl) dX10_in_2 ⟨Nat.le_of_ble_eq_true rfl, Nat.le_of_ble_eq_true rfl⟩ (hk_ea (fun H locs hH hS => ?_))
    refine lv_astore_nN (lv' := [(3, .null), (0, .ref (G.1 (.inl (0, 0)))), (1, .int k), (2, .int w)]) hx hb dX10_in_5 rfl hl (by decide) rfl (fun ls hl => ?_)
    refine lv_aload_nN hx hb dX10_in_6 rfl (lv_at hl 0 rfl) ?_
    refine lv_ifnonnullN hx hb dX10_in_7 ?_
    refine lv_iconst (v := -1) hx hb dX10_in_10 (by decide) ?_
    exact hk_iret hx hb hr hlocks hH hS ⟨(by simp only [F_inn, if_pos ho_1]), rfl, rfl⟩ dX10_in_11
  · refine hk_cV (L := (.inl (0, 0))) (As := [.int k]) (rest := []) hx hb hml hl.1 ht hown hK hH hS (c_kilnOf_in l D G Z τ σ k hG hs ho_1) ymV_X10_kilnOf kc_11 hG.k0 tw_431 ⟨rfl, rfl⟩ ⟨Nat.le_of_ble_eq_true rfl, Nat.le_of_ble_eq_true rfl⟩ rfl rfl (Nat.le_of_ble_eq_true rfl) dX10_in_2 ⟨Nat.le_of_ble_eq_true rfl, Nat.le_of_ble_eq_true rfl⟩ (hk_ea (fun H locs hH hS => ?_))
    refine lv_astore_n (lv' := [(3, .ref (G.1 (.inl (11, k.toNatClampNeg)))), (0, .ref (G.1 (.inl (0, 0)))), (1, .int k), (2, .int w)]) hx hb dX10_in_5 rfl hl (by decide) rfl (fun ls hl => ?_)
    refine lv_aload_n hx hb dX10_in_6 rfl (lv_at hl 0 rfl) ?_
    refine lv_ifnonnull (tgt := 12) hx hb dX10_in_7 (by decide) ?_
    refine lv_iload_n hx hb dX10_in_12 rfl (lv_at hl 3 rfl) ?_
    rcases hk_sw3 w with (rfl | rfl | rfl | rfl) | hsw
    · refine lv_tableIn (x := 0) (tgt := 44) hx hb dX10_in_13 (by decide) (by decide) rfl (by decide) ?_
      refine lv_aload_n hx hb dX10_in_44 rfl (lv_at hl 0 rfl) ?_
      refine hk_geti (L := (.inl (11, k.toNatClampNeg))) (v := τ (11, k.toNatClampNeg) 5) hx hb ht hown hK hH kc_7 (hG.k11 k.toNatClampNeg (hk_in_sz hs.1.2.2 (by have := hs.2; omega) ho_1).1) 5 (by decide) rfl tw_405 rfl rfl dX10_in_45 ?_
      exact hk_iret hx hb hr hlocks hH hS ⟨(by simp [F_inn, if_neg ho_1]), rfl, rfl⟩ dX10_in_48
    · refine lv_tableIn (x := 1) (tgt := 49) hx hb dX10_in_13 (by decide) (by decide) rfl (by decide) ?_
      refine lv_aload_n hx hb dX10_in_49 rfl (lv_at hl 0 rfl) ?_
      refine hk_geti (L := (.inl (11, k.toNatClampNeg))) (v := τ (11, k.toNatClampNeg) 6) hx hb ht hown hK hH kc_7 (hG.k11 k.toNatClampNeg (hk_in_sz hs.1.2.2 (by have := hs.2; omega) ho_1).1) 6 (by decide) rfl tw_407 rfl rfl dX10_in_50 ?_
      exact hk_iret hx hb hr hlocks hH hS ⟨(by simp [F_inn, if_neg ho_1]), rfl, rfl⟩ dX10_in_53
    · refine lv_tableIn (x := 2) (tgt := 54) hx hb dX10_in_13 (by decide) (by decide) rfl (by decide) ?_
      refine lv_aload_n hx hb dX10_in_54 rfl (lv_at hl 0 rfl) ?_
      refine hk_geti (L := (.inl (11, k.toNatClampNeg))) (v := τ (11, k.toNatClampNeg) 7) hx hb ht hown hK hH kc_7 (hG.k11 k.toNatClampNeg (hk_in_sz hs.1.2.2 (by have := hs.2; omega) ho_1).1) 7 (by decide) rfl tw_409 rfl rfl dX10_in_55 ?_
      exact hk_iret hx hb hr hlocks hH hS ⟨(by simp [F_inn, if_neg ho_1]), rfl, rfl⟩ dX10_in_58
    · refine lv_tableIn (x := 3) (tgt := 59) hx hb dX10_in_13 (by decide) (by decide) rfl (by decide) ?_
      refine lv_aload_n hx hb dX10_in_59 rfl (lv_at hl 0 rfl) ?_
      refine hk_cV (L := (.inl (11, k.toNatClampNeg))) (As := []) (rest := []) hx hb hml hl.1 ht hown hK hH hS (c_gardenBits l D G Z τ σ k.toNatClampNeg (τ (11, k.toNatClampNeg) 4).toNatClampNeg hG (hk_in_sz hs.1.2.2 (by have := hs.2; omega) ho_1).1 (hlo k.toNatClampNeg (hk_in_sz hs.1.2.2 (by have := hs.2; omega) ho_1).1).1 (hlo k.toNatClampNeg (hk_in_sz hs.1.2.2 (by have := hs.2; omega) ho_1).1).2.1 (by have := (hlo k.toNatClampNeg (hk_in_sz hs.1.2.2 (by have := hs.2; omega) ho_1).1).2.2; omega)) ymV_X6_gardenBits kc_7 (hG.k11 k.toNatClampNeg (hk_in_sz hs.1.2.2 (by have := hs.2; omega) ho_1).1) tw_584 ⟨rfl, rfl⟩ ⟨Nat.le_of_ble_eq_true rfl, Nat.le_of_ble_eq_true rfl⟩ rfl rfl (Nat.le_of_ble_eq_true rfl) dX10_in_60 ⟨Nat.le_of_ble_eq_true rfl, Nat.le_of_ble_eq_true rfl⟩ (hk_ea (fun H locs hH hS => ?_))
      exact hk_iret hx hb hr hlocks hH hS ⟨(by simp [F_inn, if_neg ho_1]), rfl, rfl⟩ dX10_in_63
    · refine lv_tableOut (tgt := 64) hx hb dX10_in_13 hsw.1 (by decide) ?_
      refine lv_iconst (v := -1) hx hb dX10_in_64 (by decide) ?_
      exact hk_iret hx hb hr hlocks hH hS ⟨(by simp [F_inn, if_neg ho_1, hsw]), rfl, rfl⟩ dX10_in_65
