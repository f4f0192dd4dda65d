theorem take_lots {Z : hk_Z} {t : hk_v} {i c : Nat} (hc : c ≤ Z.2.2 i) (h : t (11, i) 4 = nI c) (hz : Z.2.2 i ≤ 200) (g b : Int32) : ∃ c, c ≤ Z.2.2 i ∧ T_take Z t i g b (11, i) 4 = nI c := by
  unfold T_take
  split
  · exact ⟨c, hc, h⟩
  · split
    · rename_i q
      rw [h] at q
      have : c < Z.2.2 i := by
        rcases Nat.lt_or_ge c (Z.2.2 i) with q2 | q2
        · exact q2
        · exact absurd q (nI_nlt q2 (by omega))
      refine ⟨c + 1, by omega, ?_⟩
      rw [hk_u_ap, if_neg (fun e => absurd e.2 (by decide)), hk_u_ap, if_pos ⟨rfl, rfl⟩, h, nI_1]
    · exact ⟨c, hc, h⟩
def hk_fk (Z : hk_Z) (i : Nat) (τ t : hk_v) : Prop := (∀ q k, q.1 ≠ 3 → q.1 ≠ 11 → q.1 ≠ 13 → q.1 ≠ 14 → t q k = τ q k) ∧ ∃ c, c ≤ Z.2.2 i ∧ t (11, i) 4 = nI c
theorem fk_step {Z : hk_Z} {i : Nat} {τ t : hk_v} (h : hk_fk Z i τ t) (hz : Z.2.2 i ≤ 200) (h0 g b b2 g2 : Int32) : hk_fk Z i τ (T_take Z (T_give t h0 g b) i g2 b2) := by
  obtain ⟨h1, c, hc, h2⟩ := h
  refine ⟨fun q k a1 a2 a3 a4 => ?_, take_lots hc (by rw [T_give_o (show (11 : Nat) ≠ 3 by decide)]; exact h2) hz _ _⟩
  rw [T_take_o a2 a3 a4, T_give_o a1]
  exact h1 q k a1 a2 a3 a4
theorem fk_pos {Z : hk_Z} {i : Nat} {τ t : hk_v} (h : hk_fk Z i τ t) (hz : Z.2.2 i ≤ 200) : ¬ t (11, i) 4 < 0 := by
  obtain ⟨-, c, hc, h2⟩ := h
  rw [h2]; exact nI_pos (by omega)
theorem fk_pos2 {Z : hk_Z} {i : Nat} {τ t : hk_v} (h : hk_fk Z i τ t) (hz : Z.2.2 i ≤ 200) (h0 g b : Int32) : ¬ T_give t h0 g b (11, i) 4 < 0 := by rw [T_give_o (show (11 : Nat) ≠ 3 by decide)]; exact fk_pos h hz
theorem ymV_X6_free : hk_mV yX6_free cX6_free 1 (some FieldType.int) RX6 0 := ⟨tw_555, tw_553, tw_554, tw_51, rfl, by decide, by decide, by decide +kernel⟩
theorem ymV_X6_take : hk_mV yX6_take cX6_take 3 none RX6 2 := ⟨tw_559, tw_557, tw_558, tw_51, rfl, by decide, by decide, by decide +kernel⟩
def B_fillg (i : Nat) (r : Nat) (Z : hk_Z) (g : Nat) (t : hk_v) : hk_v := (if (t (3, 0) 1) = 0 then t else (if (F_free t i) = 0 then t else (T_take Z (T_give t ((t (0, 0) 8) - (nI r)) (nI g) (F_free t i)) i (nI g) (F_give t ((t (0, 0) 8) - (nI r)) (nI g) (F_free t i)))))
def B_fill (i : Nat) (Z : hk_Z) (r : Nat) (t : hk_v) : hk_v := (hk_it (B_fillg i r Z) (Z.1 0) 0 t)
theorem fillg_stop {Z : hk_Z} {i r : Nat} {t : hk_v} (h : t (3, 0) 1 = 0 ∨ F_free t i = 0) {n j : Nat} : hk_it (B_fillg i r Z) n j t = t := by
  refine hk_it_fix (fun k => ?_) n j
  unfold B_fillg
  split
  · rfl
  · rename_i q
    rcases h with h | h
    · exact absurd h q
    · rw [if_pos h]
theorem fill_stop {Z : hk_Z} {i : Nat} {t : hk_v} (h : t (3, 0) 1 = 0 ∨ F_free t i = 0) {n : Nat} : hk_dn (B_fill i Z) n t = t := hk_dn_fix (fun k => by unfold B_fill; exact fillg_stop h) n
def T_fill (Z : hk_Z) (τ : hk_v) (i : Nat) (w : Nat) : hk_v := (hk_dn (B_fill i Z) w τ)
set_option maxHeartbeats 4000000 in
set_option maxRecDepth 100000 in
theorem c_fill (l : Launch) (D : hk_D) (G : hk_G) (Z : hk_Z) (τ σ : hk_v) (i : Nat) (w : Nat) (hG : hk_Y D G Z) (hi : i < Z.1 2) (hs : hk_sz Z τ) (hw : τ (0, 0) 9 = nI w) (hw1 : w ≤ 24) (hz : Z.2.2 i ≤ 200) (hlc : ∃ c, c ≤ Z.2.2 i ∧ τ (11, i) 4 = nI c) : Met l yX10_fill (hk_ws yX10_fill cX10_fill 4 none) ({ frames := 3, cells := 0, slots := 0, locals := 68 }) (hk_P D G (hk_cm τ σ) [.ref (G.1 (.inl (0, 0))), .ref (G.1 (.inl (11, i)))]) (hk_Q D (hk_e G (none) (hk_cm (T_fill Z τ i w) σ))) 0 0 (hk_A D) := by
  refine hk_met (by decide +kernel) (Nat.le_of_ble_eq_true rfl) (fun p e s m below meth c hx hb hr hml hlocks ht hown hin hK hH hS ls hl => ?_)
  have hl : lv_has ls 4 [(0, .ref (G.1 (.inl (0, 0)))), (1, .ref (G.1 (.inl (11, i))))] := hl
  refine lv_aload_n hx hb dX10_fill_0 rfl (lv_at hl 0 rfl) ?_
  refine hk_geti (L := (.inl (0, 0))) (v := τ (0, 0) 9) hx hb ht hown hK hH kc_11 hG.k0 9 (by decide) rfl tw_177 rfl rfl dX10_fill_1 ?_
  refine lv_iconst (v := 1) hx hb dX10_fill_4 (by decide) ?_
  refine lv_isub hx hb dX10_fill_5 ?_
  refine lv_istore_n (lv' := [(2, .int ((τ (0, 0) 9) - 1)), (0, .ref (G.1 (.inl (0, 0)))), (1, .ref (G.1 (.inl (11, i))))]) hx hb dX10_fill_6 rfl hl (by decide) rfl (fun ls hl => ?_)
  have LP_1 : ∀ (r : Nat) (t : hk_v) (H : Heap) (locs : List Loc) (ls : Array Slot) (QQ : State → Prop), r ≤ w → (hk_fk Z i τ t) → hk_H D G (hk_cm t σ) H → va_S (hk_A D) s.heap H locs → lv_has ls 4 [(2, .int (nI r - 1)), (0, .ref (G.1 (.inl (0, 0)))), (1, .ref (G.1 (.inl (11, i))))] → (∀ (H : Heap) (locs : List Loc) (ls : Array Slot), hk_H D G (hk_cm (hk_dn (B_fill i Z) r t) σ) H → va_S (hk_A D) s.heap H locs → lv_has ls 4 [(2, .int (nI 0 - 1)), (0, .ref (G.1 (.inl (0, 0)))), (1, .ref (G.1 (.inl (11, i))))] → (hk_fk Z i τ (hk_dn (B_fill i Z) r t)) → W p l e ({ frames := 3, cells := 0, slots := 0, locals := 68 }) s m ([.ref (G.1 (.inl (0, 0))), .ref (G.1 (.inl (11, i)))] : List Value).toArray below meth c H locs 0 0 QQ (F0 m 77 ls [])) → (∀ (H : Heap) (locs : List Loc) (ls : Array Slot), hk_H D G (hk_cm (hk_dn (B_fill i Z) r t) σ) H → va_S (hk_A D) s.heap H locs → lv_has ls 4 [(0, .ref (G.1 (.inl (0, 0)))), (1, .ref (G.1 (.inl (11, i))))] → ((hk_dn (B_fill i Z) r t) (3, 0) 1 = 0 ∨ F_free (hk_dn (B_fill i Z) r t) i = 0) → W p l e ({ frames := 3, cells := 0, slots := 0, locals := 68 }) s m ([.ref (G.1 (.inl (0, 0))), .ref (G.1 (.inl (11, i)))] : List Value).toArray below meth c H locs 0 0 QQ (F0 m 41 ls [])) → W p l e ({ frames := 3, cells := 0, slots := 0, locals := 68 }) s m ([.ref (G.1 (.inl (0, 0))), .ref (G.1 (.inl (11, i)))] : List Value).toArray below meth c H locs 0 0 QQ (F0 m 7 ls []) := by
    intro r
    induction r with
    | zero =>
      intro t H locs ls QQ hn_fill hI_fill hH hS hl kk kr
      refine lv_iload_n hx hb dX10_fill_7 rfl (lv_at hl 0 rfl) ?_
      refine lv_if_lt (tgt := 77) hx hb dX10_fill_8 (by decide) (fun c_2 => ?_) (fun c_2 => ?_)
      rotate_left
      · exfalso; first | exact absurd c_2 (by decide) | exact c_2 (by decide)
      exact kk H locs ls hH hS (lv_sub hl [0, 1, 2] rfl) hI_fill
    | succ r ih =>
      intro t H locs ls QQ hn_fill hI_fill hH hS hl kk kr
      have hl : lv_has ls 4 [(2, .int (nI r)), (0, .ref (G.1 (.inl (0, 0)))), (1, .ref (G.1 (.inl (11, i))))] := by have h9 := hl; rw [nI_pred] at h9; exact h9
      refine lv_iload_n hx hb dX10_fill_7 rfl (lv_at hl 0 rfl) ?_
      refine lv_if_lt (tgt := 77) hx hb dX10_fill_8 (by decide) (fun c_3 => ?_) (fun c_3 => ?_)
      · exfalso; first | exact nI_pos (by omega) c_3 | exact nI_nle (by omega) (by omega) c_3 | exact c_3 (nI_lt (a := 0) (by omega) (by omega)) | exact c_3 (nI_pos' (by omega))
      refine lv_iconst (v := 0) hx hb dX10_fill_11 (by decide) ?_
      refine lv_istore_n (lv' := [(3, .int 0), (2, .int (nI r)), (0, .ref (G.1 (.inl (0, 0)))), (1, .ref (G.1 (.inl (11, i))))]) hx hb dX10_fill_12 rfl hl (by decide) rfl (fun ls hl => ?_)
      have LP_4 : ∀ (r2 g : Nat) (t : hk_v) (H : Heap) (locs : List Loc) (ls : Array Slot) (QQ : State → Prop), g + r2 = Z.1 0 → (hk_fk Z i τ t) → hk_H D G (hk_cm t σ) H → va_S (hk_A D) s.heap H locs → lv_has ls 4 [(3, .int (nI g)), (2, .int (nI r)), (0, .ref (G.1 (.inl (0, 0)))), (1, .ref (G.1 (.inl (11, i))))] → (∀ (H : Heap) (locs : List Loc) (ls : Array Slot), hk_H D G (hk_cm (hk_it (B_fillg i r Z) r2 g t) σ) H → va_S (hk_A D) s.heap H locs → lv_has ls 4 [(3, .int (nI (Z.1 0))), (2, .int (nI r)), (0, .ref (G.1 (.inl (0, 0)))), (1, .ref (G.1 (.inl (11, i))))] → (hk_fk Z i τ (hk_it (B_fillg i r Z) r2 g t)) → W p l e ({ frames := 3, cells := 0, slots := 0, locals := 68 }) s m ([.ref (G.1 (.inl (0, 0))), .ref (G.1 (.inl (11, i)))] : List Value).toArray below meth c H locs 0 0 QQ (F0 m 71 ls [])) → (∀ (H : Heap) (locs : List Loc) (ls : Array Slot), hk_H D G (hk_cm (hk_it (B_fillg i r Z) r2 g t) σ) H → va_S (hk_A D) s.heap H locs → lv_has ls 4 [(2, .int (nI r)), (0, .ref (G.1 (.inl (0, 0)))), (1, .ref (G.1 (.inl (11, i))))] → ((hk_it (B_fillg i r Z) r2 g t) (3, 0) 1 = 0 ∨ F_free (hk_it (B_fillg i r Z) r2 g t) i = 0) → W p l e ({ frames := 3, cells := 0, slots := 0, locals := 68 }) s m ([.ref (G.1 (.inl (0, 0))), .ref (G.1 (.inl (11, i)))] : List Value).toArray below meth c H locs 0 0 QQ (F0 m 41 ls [])) → W p l e ({ frames := 3, cells := 0, slots := 0, locals := 68 }) s m ([.ref (G.1 (.inl (0, 0))), .ref (G.1 (.inl (11, i)))] : List Value).toArray below meth c H locs 0 0 QQ (F0 m 13 ls []) := by
        intro r2
        induction r2 with
        | zero =>
          intro g t H locs ls QQ hn_fillg hI_fillg hH hS hl kk kr
          have hst : hk_sz Z t := hs.of (fun j => hI_fillg.1 _ _ (show (1 : Nat) ≠ 3 by decide) (show (1 : Nat) ≠ 11 by decide) (show (1 : Nat) ≠ 13 by decide) (show (1 : Nat) ≠ 14 by decide))
          have hz6 := hst.2
          refine lv_iload_n hx hb dX10_fill_13 rfl (lv_at hl 0 rfl) ?_
          refine lv_aload_n hx hb dX10_fill_14 rfl (lv_at hl 2 rfl) ?_
          refine hk_getr (L := (.inl (0, 0))) (v := .ref (G.1 (.inl (1, 0)))) hx hb ht hown hK hH kc_11 hG.k0 0 (by decide) rfl tw_168 rfl hG.r0_0 dX10_fill_15 ?_
          refine hk_cV (L := (.inl (1, 0))) (As := []) (rest := [.int (nI g)]) hx hb hml hl.1 ht hown hK hH hS (c_size l D G t σ 0 hG.k1_0) ymV_Jx4a65c_size_8abf5 kc_0 hG.k1_0 tw_209 ⟨rfl, rfl⟩ ⟨Nat.le_of_ble_eq_true rfl, Nat.le_of_ble_eq_true rfl⟩ rfl rfl (Nat.le_of_ble_eq_true rfl) dX10_fill_18 ⟨Nat.le_of_ble_eq_true rfl, Nat.le_of_ble_eq_true rfl⟩ (hk_ea (fun H locs hH hS => ?_))
          rw [show F_size t 0 = t (1, 0) 2 from rfl]
          refine lv_icmp_ge (tgt := 71) hx hb dX10_fill_21 (by decide) (fun c_5 => ?_) (fun c_5 => ?_)
          rotate_left
          · exfalso; rw [hst.1.1] at c_5; first | exact nI_ge (by omega) (by omega) c_5 | exact c_5 (nI_le (by omega) (by omega)) | exact nI_nlt (by omega) (by omega) c_5 | exact c_5 (nI_lt (by omega) (by omega))
          have hiN : g = Z.1 0 := by omega
          rw [hiN] at hl
          exact kk H locs ls hH hS (lv_sub hl [0, 1, 2, 3] rfl) hI_fillg
        | succ r2 ih =>
          intro g t H locs ls QQ hn_fillg hI_fillg hH hS hl kk kr
          have hst : hk_sz Z t := hs.of (fun j => hI_fillg.1 _ _ (show (1 : Nat) ≠ 3 by decide) (show (1 : Nat) ≠ 11 by decide) (show (1 : Nat) ≠ 13 by decide) (show (1 : Nat) ≠ 14 by decide))
          have hz6 := hst.2
          refine lv_iload_n hx hb dX10_fill_13 rfl (lv_at hl 0 rfl) ?_
          refine lv_aload_n hx hb dX10_fill_14 rfl (lv_at hl 2 rfl) ?_
          refine hk_getr (L := (.inl (0, 0))) (v := .ref (G.1 (.inl (1, 0)))) hx hb ht hown hK hH kc_11 hG.k0 0 (by decide) rfl tw_168 rfl hG.r0_0 dX10_fill_15 ?_
          refine hk_cV (L := (.inl (1, 0))) (As := []) (rest := [.int (nI g)]) hx hb hml hl.1 ht hown hK hH hS (c_size l D G t σ 0 hG.k1_0) ymV_Jx4a65c_size_8abf5 kc_0 hG.k1_0 tw_209 ⟨rfl, rfl⟩ ⟨Nat.le_of_ble_eq_true rfl, Nat.le_of_ble_eq_true rfl⟩ rfl rfl (Nat.le_of_ble_eq_true rfl) dX10_fill_18 ⟨Nat.le_of_ble_eq_true rfl, Nat.le_of_ble_eq_true rfl⟩ (hk_ea (fun H locs hH hS => ?_))
          rw [show F_size t 0 = t (1, 0) 2 from rfl]
          refine lv_icmp_ge (tgt := 71) hx hb dX10_fill_21 (by decide) (fun c_6 => ?_) (fun c_6 => ?_)
          · exfalso; rw [hst.1.1] at c_6; first | exact nI_ge (by omega) (by omega) c_6 | exact c_6 (nI_le (by omega) (by omega)) | exact nI_nlt (by omega) (by omega) c_6 | exact c_6 (nI_lt (by omega) (by omega))
          refine lv_aload_n hx hb dX10_fill_24 rfl (lv_at hl 2 rfl) ?_
          refine hk_getr (L := (.inl (0, 0))) (v := .ref (G.1 (.inl (3, 0)))) hx hb ht hown hK hH kc_11 hG.k0 3 (by decide) rfl tw_171 rfl hG.r0_3 dX10_fill_25 ?_
          refine hk_geti (L := (.inl (3, 0))) (v := t (3, 0) 1) hx hb ht hown hK hH kc_6 hG.k3_0 1 (by decide) rfl tw_97 rfl rfl dX10_fill_28 ?_
          refine lv_if_eq (tgt := 41) hx hb dX10_fill_31 (by decide) (fun c_7 => ?_) (fun c_7 => ?_)
          · have hst : (t (3, 0) 1 = 0 ∨ F_free t i = 0) := (by first | exact Or.inl c_7 | exact Or.inr c_7)
            exact kr H locs ls (by rw [fillg_stop hst]; exact hH) hS (lv_sub hl [1, 2, 3] rfl) (by rw [fillg_stop hst]; exact hst)
          · refine lv_aload_n hx hb dX10_fill_34 rfl (lv_at hl 3 rfl) ?_
            refine hk_cV (L := (.inl (11, i))) (As := []) (rest := []) hx hb hml hl.1 ht hown hK hH hS (c_free l D G Z t σ i hG hi) ymV_X6_free kc_7 (hG.k11 i hi) tw_552 ⟨rfl, rfl⟩ ⟨Nat.le_of_ble_eq_true rfl, Nat.le_of_ble_eq_true rfl⟩ rfl rfl (Nat.le_of_ble_eq_true rfl) dX10_fill_35 ⟨Nat.le_of_ble_eq_true rfl, Nat.le_of_ble_eq_true rfl⟩ (hk_ea (fun H locs hH hS => ?_))
            refine lv_if_ne (tgt := 42) hx hb dX10_fill_38 (by decide) (fun c_8 => ?_) (fun c_8 => ?_)
            · refine lv_aload_n hx hb dX10_fill_42 rfl (lv_at hl 3 rfl) ?_
              refine lv_iload_n hx hb dX10_fill_43 rfl (lv_at hl 0 rfl) ?_
              refine lv_aload_n hx hb dX10_fill_44 rfl (lv_at hl 2 rfl) ?_
              refine hk_getr (L := (.inl (0, 0))) (v := .ref (G.1 (.inl (3, 0)))) hx hb ht hown hK hH kc_11 hG.k0 3 (by decide) rfl tw_171 rfl hG.r0_3 dX10_fill_45 ?_
              refine lv_aload_n hx hb dX10_fill_48 rfl (lv_at hl 2 rfl) ?_
              refine hk_geti (L := (.inl (0, 0))) (v := t (0, 0) 8) hx hb ht hown hK hH kc_11 hG.k0 8 (by decide) rfl tw_176 rfl rfl dX10_fill_49 ?_
              refine lv_iload_n hx hb dX10_fill_52 rfl (lv_at hl 1 rfl) ?_
              refine lv_isub hx hb dX10_fill_53 ?_
              refine lv_iload_n hx hb dX10_fill_54 rfl (lv_at hl 0 rfl) ?_
              refine lv_aload_n hx hb dX10_fill_55 rfl (lv_at hl 3 rfl) ?_
              refine hk_cV (L := (.inl (11, i))) (As := []) (rest := [.int (nI g), .int ((t (0, 0) 8) - (nI r)), .ref (G.1 (.inl (3, 0))), .int (nI g), .ref (G.1 (.inl (11, i)))]) hx hb hml hl.1 ht hown hK hH hS (c_free l D G Z t σ i hG hi) ymV_X6_free kc_7 (hG.k11 i hi) tw_552 ⟨rfl, rfl⟩ ⟨Nat.le_of_ble_eq_true rfl, Nat.le_of_ble_eq_true rfl⟩ rfl rfl (Nat.le_of_ble_eq_true rfl) dX10_fill_56 ⟨Nat.le_of_ble_eq_true rfl, Nat.le_of_ble_eq_true rfl⟩ (hk_ea (fun H locs hH hS => ?_))
              refine hk_cV (L := (.inl (3, 0))) (As := [.int ((t (0, 0) 8) - (nI r)), .int (nI g), .int (F_free t i)]) (rest := [.int (nI g), .ref (G.1 (.inl (11, i)))]) hx hb hml hl.1 ht hown hK hH hS (c_give l D G Z t σ ((t (0, 0) 8) - (nI r)) (nI g) (F_free t i) hG) ymV_X5_give kc_6 hG.k3_0 tw_539 ⟨rfl, rfl⟩ ⟨Nat.le_of_ble_eq_true rfl, Nat.le_of_ble_eq_true rfl⟩ rfl rfl (Nat.le_of_ble_eq_true rfl) dX10_fill_59 ⟨Nat.le_of_ble_eq_true rfl, Nat.le_of_ble_eq_true rfl⟩ (hk_ea (fun H locs hH hS => ?_))
              refine hk_cV (L := (.inl (11, i))) (As := [.int (nI g), .int (F_give t ((t (0, 0) 8) - (nI r)) (nI g) (F_free t i))]) (rest := []) hx hb hml hl.1 ht hown hK hH hS (c_take l D G Z (T_give t ((t (0, 0) 8) - (nI r)) (nI g) (F_free t i)) σ i (nI g) (F_give t ((t (0, 0) 8) - (nI r)) (nI g) (F_free t i)) hG hi (fk_pos2 hI_fillg hz _ _ _)) ymV_X6_take kc_7 (hG.k11 i hi) tw_556 ⟨rfl, rfl⟩ ⟨Nat.le_of_ble_eq_true rfl, Nat.le_of_ble_eq_true rfl⟩ rfl rfl (Nat.le_of_ble_eq_true rfl) dX10_fill_62 ⟨Nat.le_of_ble_eq_true rfl, Nat.le_of_ble_eq_true rfl⟩ (hk_ev (fun H locs hH hS => ?_))
              refine lv_iinc (v := nI (g + 1)) (lv' := [(3, .int (nI (g + 1))), (2, .int (nI r)), (0, .ref (G.1 (.inl (0, 0)))), (1, .ref (G.1 (.inl (11, i))))]) hx hb dX10_fill_65 hl (k := 0) rfl (nI_1 _) (by decide) rfl (fun ls hl => ?_)
              refine lv_goto (tgt := 13) hx hb dX10_fill_68 (by decide) ?_
              have EB_9 : (B_fillg i r Z) g t = (T_take Z (T_give t ((t (0, 0) 8) - (nI r)) (nI g) (F_free t i)) i (nI g) (F_give t ((t (0, 0) 8) - (nI r)) (nI g) (F_free t i))) := by simp only [B_fillg, if_neg c_7, if_neg c_8]
              have hI2 : (hk_fk Z i τ (T_take Z (T_give t ((t (0, 0) 8) - (nI r)) (nI g) (F_free t i)) i (nI g) (F_give t ((t (0, 0) 8) - (nI r)) (nI g) (F_free t i)))) := by
                exact fk_step hI_fillg hz _ _ _ _ _
              exact ih (g + 1) (T_take Z (T_give t ((t (0, 0) 8) - (nI r)) (nI g) (F_free t i)) i (nI g) (F_give t ((t (0, 0) 8) - (nI r)) (nI g) (F_free t i))) _ _ _ QQ (by omega) hI2 hH hS (lv_sub hl [0, 1, 2, 3] rfl) (fun H locs ls hH hS hl hI_fillg => kk H locs ls (by rw [hk_it_s, EB_9]; exact hH) hS hl (by first | exact hI_fillg | (rw [hk_it_s, EB_9]; exact hI_fillg))) (fun H locs ls hH hS hl hst => kr H locs ls (by rw [hk_it_s, EB_9]; exact hH) hS hl (by rw [hk_it_s, EB_9]; exact hst))
            · have hst : (t (3, 0) 1 = 0 ∨ F_free t i = 0) := (by first | exact Or.inl c_8 | exact Or.inr c_8)
              exact kr H locs ls (by rw [fillg_stop hst]; exact hH) hS (lv_sub hl [1, 2, 3] rfl) (by rw [fillg_stop hst]; exact hst)
      refine LP_4 (Z.1 0) 0 t _ _ _ _ (by omega) hI_fill hH hS (lv_sub hl [0, 1, 2, 3] rfl) (fun H locs ls hH hS hl hI_fillg => ?_) (fun H locs ls hH hS hl hst => ?_)
      · refine lv_iinc (v := nI r - 1) (lv' := [(2, .int (nI r - 1)), (3, .int (nI (Z.1 0))), (0, .ref (G.1 (.inl (0, 0)))), (1, .ref (G.1 (.inl (11, i))))]) hx hb dX10_fill_71 hl (k := 1) rfl (hk_m1 _) (by decide) rfl (fun ls hl => ?_)
        refine lv_goto (tgt := 7) hx hb dX10_fill_74 (by decide) ?_
        have EB_10 : (B_fill i Z) r t = (hk_it (B_fillg i r Z) (Z.1 0) 0 t) := by simp only [B_fill]
        have hI2 : (hk_fk Z i τ (hk_it (B_fillg i r Z) (Z.1 0) 0 t)) := by
          exact hI_fillg
        exact ih (hk_it (B_fillg i r Z) (Z.1 0) 0 t) _ _ _ QQ (by omega) hI2 hH hS (lv_sub hl [0, 2, 3] rfl) (fun H locs ls hH hS hl hI_fill => kk H locs ls (by rw [hk_dn_s, EB_10]; exact hH) hS hl (by first | exact hI_fill | (rw [hk_dn_s, EB_10]; exact hI_fill))) (fun H locs ls hH hS hl hst => kr H locs ls (by rw [hk_dn_s, EB_10]; exact hH) hS hl (by rw [hk_dn_s, EB_10]; exact hst))
      · have EB_11 : (B_fill i Z) r t = (hk_it (B_fillg i r Z) (Z.1 0) 0 t) := by simp only [B_fill]
        exact kr H locs ls (by rw [hk_dn_s, EB_11, fill_stop hst]; exact hH) hS (lv_sub hl [1, 2] rfl) (by rw [hk_dn_s, EB_11, fill_stop hst]; exact hst)
  rw [hw] at hl
  refine LP_1 w τ _ _ _ _ (Nat.le_refl _) ⟨fun _ _ _ _ _ _ => rfl, hlc⟩ hH hS (lv_sub hl [0, 1, 2] rfl) (fun H locs ls hH hS hl hI_fill => ?_) (fun H locs ls hH hS hl hst => ?_)
  · exact hk_vret hx hb hr hlocks hH hS ⟨rfl, rfl, (by simp only [T_fill])⟩ dX10_fill_77
  · exact hk_vret hx hb hr hlocks hH hS ⟨rfl, rfl, (by simp only [T_fill])⟩ dX10_fill_41
def hk_fp (Z : hk_Z) (w : Nat) (t : hk_v) : Prop := hk_sz Z t ∧ t (0, 0) 9 = nI w ∧ w ≤ 24 ∧ ∀ k, k < Z.1 2 → Z.2.2 k ≤ 200 ∧ ∃ c, c ≤ Z.2.2 k ∧ t (11, k) 4 = nI c
theorem ymV_X10_fill : hk_mV yX10_fill cX10_fill 4 none RX10 1 := ⟨tw_551, tw_550, tw_12, tw_34, rfl, by decide, by decide, by decide +kernel⟩
def B_fillH (w : Nat) (Z : hk_Z) (j : Nat) (t : hk_v) : hk_v := (if (F_isEmpty t j) = 0 then t else (T_fill Z t j w))
def T_fillHour (Z : hk_Z) (τ : hk_v) (w : Nat) : hk_v := (hk_it (B_fillH w Z) (Z.1 2) 0 τ)
set_option maxHeartbeats 4000000 in
set_option maxRecDepth 100000 in
theorem c_fillHour (l : Launch) (D : hk_D) (G : hk_G) (Z : hk_Z) (τ σ : hk_v) (w : Nat) (hG : hk_Y D G Z) (hfp : ∀ j, j ≤ Z.1 2 → hk_fp Z w (hk_it (B_fillH w Z) j 0 τ)) : Met l yX10_fillHour (hk_ws yX10_fillHour cX10_fillHour 3 none) ({ frames := 4, cells := 0, slots := 0, locals := 91 }) (hk_P D G (hk_cm τ σ) [.ref (G.1 (.inl (0, 0)))]) (hk_Q D (hk_e G (none) (hk_cm (T_fillHour Z τ w) σ))) 0 0 (hk_A D) := by
  refine hk_met (by decide +kernel) (Nat.le_of_ble_eq_true rfl) (fun p e s m below meth c hx hb hr hml hlocks ht hown hin hK hH hS ls hl => ?_)
  have hl : lv_has ls 3 [(0, .ref (G.1 (.inl (0, 0))))] := hl
  refine lv_iconst (v := 0) hx hb dX10_fillHour_0 (by decide) ?_
  refine lv_istore_n (lv' := [(1, .int 0), (0, .ref (G.1 (.inl (0, 0))))]) hx hb dX10_fillHour_1 rfl hl (by decide) rfl (fun ls hl => ?_)
  have LP_1 : ∀ (r j : Nat) (t : hk_v) (H : Heap) (locs : List Loc) (ls : Array Slot) (QQ : State → Prop), j + r = Z.1 2 → (t = hk_it (B_fillH w Z) (j) 0 τ) → hk_H D G (hk_cm t σ) H → va_S (hk_A D) s.heap H locs → lv_has ls 3 [(1, .int (nI j)), (0, .ref (G.1 (.inl (0, 0))))] → (∀ (H : Heap) (locs : List Loc) (ls : Array Slot), hk_H D G (hk_cm (hk_it (B_fillH w Z) r j t) σ) H → va_S (hk_A D) s.heap H locs → lv_has ls 3 [(1, .int (nI (Z.1 2))), (0, .ref (G.1 (.inl (0, 0))))] → ((hk_it (B_fillH w Z) r j t) = hk_it (B_fillH w Z) (Z.1 2) 0 τ) → W p l e ({ frames := 4, cells := 0, slots := 0, locals := 91 }) s m ([.ref (G.1 (.inl (0, 0)))] : List Value).toArray below meth c H locs 0 0 QQ (F0 m 43 ls [])) → W p l e ({ frames := 4, cells := 0, slots := 0, locals := 91 }) s m ([.ref (G.1 (.inl (0, 0)))] : List Value).toArray below meth c H locs 0 0 QQ (F0 m 2 ls []) := by
    intro r
    induction r with
    | zero =>
      intro j t H locs ls QQ hn_fillH hI_fillH hH hS hl kk
      have hfq : hk_fp Z w t := by rw [hI_fillH]; exact hfp j (by omega)
      have hz6 := hfq.1.2
      refine lv_iload_n hx hb dX10_fillHour_2 rfl (lv_at hl 0 rfl) ?_
      refine lv_aload_n hx hb dX10_fillHour_3 rfl (lv_at hl 1 rfl) ?_
      refine hk_getr (L := (.inl (0, 0))) (v := .ref (G.1 (.inl (1, 2)))) hx hb ht hown hK hH kc_11 hG.k0 2 (by decide) rfl tw_170 rfl hG.r0_2 dX10_fillHour_4 ?_
      refine hk_cV (L := (.inl (1, 2))) (As := []) (rest := [.int (nI j)]) hx hb hml hl.1 ht hown hK hH hS (c_size l D G t σ 2 hG.k1_2) ymV_Jx4a65c_size_8abf5 kc_0 hG.k1_2 tw_209 ⟨rfl, rfl⟩ ⟨Nat.le_of_ble_eq_true rfl, Nat.le_of_ble_eq_true rfl⟩ rfl rfl (Nat.le_of_ble_eq_true rfl) dX10_fillHour_7 ⟨Nat.le_of_ble_eq_true rfl, Nat.le_of_ble_eq_true rfl⟩ (hk_ea (fun H locs hH hS => ?_))
      rw [show F_size t 2 = t (1, 2) 2 from rfl]
      refine lv_icmp_ge (tgt := 43) hx hb dX10_fillHour_10 (by decide) (fun c_2 => ?_) (fun c_2 => ?_)
      rotate_left
      · exfalso; rw [(show t (1, 2) 2 = nI (Z.1 2) by rw [hI_fillH]; exact (hfp j (by omega)).1.1.2.2)] at c_2; first | exact nI_ge (by omega) (by omega) c_2 | exact c_2 (nI_le (by omega) (by omega)) | exact nI_nlt (by omega) (by omega) c_2 | exact c_2 (nI_lt (by omega) (by omega))
      have hiN : j = Z.1 2 := by omega
      rw [hiN] at hl hI_fillH
      exact kk H locs ls hH hS (lv_sub hl [0, 1] rfl) hI_fillH
    | succ r ih =>
      intro j t H locs ls QQ hn_fillH hI_fillH hH hS hl kk
      have hfq : hk_fp Z w t := by rw [hI_fillH]; exact hfp j (by omega)
      have hz6 := hfq.1.2
      refine lv_iload_n hx hb dX10_fillHour_2 rfl (lv_at hl 0 rfl) ?_
      refine lv_aload_n hx hb dX10_fillHour_3 rfl (lv_at hl 1 rfl) ?_
      refine hk_getr (L := (.inl (0, 0))) (v := .ref (G.1 (.inl (1, 2)))) hx hb ht hown hK hH kc_11 hG.k0 2 (by decide) rfl tw_170 rfl hG.r0_2 dX10_fillHour_4 ?_
      refine hk_cV (L := (.inl (1, 2))) (As := []) (rest := [.int (nI j)]) hx hb hml hl.1 ht hown hK hH hS (c_size l D G t σ 2 hG.k1_2) ymV_Jx4a65c_size_8abf5 kc_0 hG.k1_2 tw_209 ⟨rfl, rfl⟩ ⟨Nat.le_of_ble_eq_true rfl, Nat.le_of_ble_eq_true rfl⟩ rfl rfl (Nat.le_of_ble_eq_true rfl) dX10_fillHour_7 ⟨Nat.le_of_ble_eq_true rfl, Nat.le_of_ble_eq_true rfl⟩ (hk_ea (fun H locs hH hS => ?_))
      rw [show F_size t 2 = t (1, 2) 2 from rfl]
      refine lv_icmp_ge (tgt := 43) hx hb dX10_fillHour_10 (by decide) (fun c_3 => ?_) (fun c_3 => ?_)
      · exfalso; rw [(show t (1, 2) 2 = nI (Z.1 2) by rw [hI_fillH]; exact (hfp j (by omega)).1.1.2.2)] at c_3; first | exact nI_ge (by omega) (by omega) c_3 | exact c_3 (nI_le (by omega) (by omega)) | exact nI_nlt (by omega) (by omega) c_3 | exact c_3 (nI_lt (by omega) (by omega))
      refine lv_aload_n hx hb dX10_fillHour_13 rfl (lv_at hl 1 rfl) ?_
      refine hk_getr (L := (.inl (0, 0))) (v := .ref (G.1 (.inl (1, 2)))) hx hb ht hown hK hH kc_11 hG.k0 2 (by decide) rfl tw_170 rfl hG.r0_2 dX10_fillHour_14 ?_
      refine lv_iload_n hx hb dX10_fillHour_17 rfl (lv_at hl 0 rfl) ?_
      refine hk_cV (L := (.inl (1, 2))) (As := [.int (nI j)]) (rest := []) hx hb hml hl.1 ht hown hK hH hS (c_lget l D G t σ 2 j (Z.1 2) (nI j) (.ref (G.1 (.inl (11, j)))) hG.k1_2 (hG.a1_2 (by omega)) (hG.k2_2 (by omega)) rfl (by omega) (by have := hfq.1.2; omega) (hG.a2_2 _ (by omega)) ⟨_, rfl⟩ hfq.1.1.2.2) ymV_Jx4a65c_get_915e3 kc_0 hG.k1_2 tw_343 ⟨rfl, rfl⟩ ⟨Nat.le_of_ble_eq_true rfl, Nat.le_of_ble_eq_true rfl⟩ rfl rfl (Nat.le_of_ble_eq_true rfl) dX10_fillHour_18 ⟨Nat.le_of_ble_eq_true rfl, Nat.le_of_ble_eq_true rfl⟩ (hk_ea (fun H locs hH hS => ?_))
      refine hk_cast (L := (.inl (11, j))) hx hb ht hown hK hH kc_7 (hG.k11 j (by omega)) tw_365 dX10_fillHour_21 ?_
      refine lv_astore_n (lv' := [(2, .ref (G.1 (.inl (11, j)))), (1, .int (nI j)), (0, .ref (G.1 (.inl (0, 0))))]) hx hb dX10_fillHour_24 rfl hl (by decide) rfl (fun ls hl => ?_)
      refine lv_aload_n hx hb dX10_fillHour_25 rfl (lv_at hl 0 rfl) ?_
      refine hk_cV (L := (.inl (11, j))) (As := []) (rest := []) hx hb hml hl.1 ht hown hK hH hS (c_isEmpty l D G Z t σ j hG (by omega)) ymV_X6_isEmpty kc_7 (hG.k11 j (by omega)) tw_515 ⟨rfl, rfl⟩ ⟨Nat.le_of_ble_eq_true rfl, Nat.le_of_ble_eq_true rfl⟩ rfl rfl (Nat.le_of_ble_eq_true rfl) dX10_fillHour_26 ⟨Nat.le_of_ble_eq_true rfl, Nat.le_of_ble_eq_true rfl⟩ (hk_ea (fun H locs hH hS => ?_))
      refine lv_if_eq (tgt := 37) hx hb dX10_fillHour_29 (by decide) (fun c_4 => ?_) (fun c_4 => ?_)
      · refine lv_iinc (v := nI (j + 1)) (lv' := [(1, .int (nI (j + 1))), (2, .ref (G.1 (.inl (11, j)))), (0, .ref (G.1 (.inl (0, 0))))]) hx hb dX10_fillHour_37 hl (k := 1) rfl (nI_1 _) (by decide) rfl (fun ls hl => ?_)
        refine lv_goto (tgt := 2) hx hb dX10_fillHour_40 (by decide) ?_
        have EB_5 : (B_fillH w Z) j t = t := by simp only [B_fillH, if_pos c_4]
        have hI2 : (t = hk_it (B_fillH w Z) ((j + 1)) 0 τ) := by
          rw [hk_it_last, Nat.zero_add, ← hI_fillH]; exact EB_5.symm
        exact ih (j + 1) t _ _ _ QQ (by omega) hI2 hH hS (lv_sub hl [0, 2] rfl) (fun H locs ls hH hS hl hI_fillH => kk H locs ls (by rw [hk_it_s, EB_5]; exact hH) hS hl (by first | exact hI_fillH | (rw [hk_it_s, EB_5]; exact hI_fillH)))
      · refine lv_aload_n hx hb dX10_fillHour_32 rfl (lv_at hl 2 rfl) ?_
        refine lv_aload_n hx hb dX10_fillHour_33 rfl (lv_at hl 0 rfl) ?_
        refine hk_cV (L := (.inl (0, 0))) (As := [.ref (G.1 (.inl (11, j)))]) (rest := []) hx hb hml hl.1 ht hown hK hH hS (c_fill l D G Z t σ j w hG (by omega) hfq.1 hfq.2.1 hfq.2.2.1 (hfq.2.2.2 j (by omega)).1 (hfq.2.2.2 j (by omega)).2) ymV_X10_fill kc_11 hG.k0 tw_548 ⟨rfl, rfl⟩ ⟨Nat.le_of_ble_eq_true rfl, Nat.le_of_ble_eq_true rfl⟩ rfl rfl (Nat.le_of_ble_eq_true rfl) dX10_fillHour_34 ⟨Nat.le_of_ble_eq_true rfl, Nat.le_of_ble_eq_true rfl⟩ (hk_ev (fun H locs hH hS => ?_))
        refine lv_iinc (v := nI (j + 1)) (lv' := [(1, .int (nI (j + 1))), (2, .ref (G.1 (.inl (11, j)))), (0, .ref (G.1 (.inl (0, 0))))]) hx hb dX10_fillHour_37 hl (k := 1) rfl (nI_1 _) (by decide) rfl (fun ls hl => ?_)
        refine lv_goto (tgt := 2) hx hb dX10_fillHour_40 (by decide) ?_
        have EB_6 : (B_fillH w Z) j t = (T_fill Z t j w) := by simp only [B_fillH, if_neg c_4]
        have hI2 : ((T_fill Z t j w) = hk_it (B_fillH w Z) ((j + 1)) 0 τ) := by
          rw [hk_it_last, Nat.zero_add, ← hI_fillH]; exact EB_6.symm
        exact ih (j + 1) (T_fill Z t j w) _ _ _ QQ (by omega) hI2 hH hS (lv_sub hl [0, 2] rfl) (fun H locs ls hH hS hl hI_fillH => kk H locs ls (by rw [hk_it_s, EB_6]; exact hH) hS hl (by first | exact hI_fillH | (rw [hk_it_s, EB_6]; exact hI_fillH)))
  refine LP_1 (Z.1 2) 0 τ _ _ _ _ (by omega) rfl hH hS (lv_sub hl [0, 1] rfl) (fun H locs ls hH hS hl hI_fillH => ?_)
  exact hk_vret hx hb hr hlocks hH hS ⟨rfl, rfl, (by simp only [T_fillHour])⟩ dX10_fillHour_43
/-- what an hour asks of the states that it goes through -/
def hk_oh (Z : hk_Z) (w P : Nat) (τ : hk_v) : Prop := (hk_sz Z τ ∧ hk_nt τ 0 ∧ ∀ i, i < Z.1 1 → ¬ τ (10, i) 1 = 0) ∧ (hk_dh Z (T_pickHour Z τ) P ∧ P + 12000 < 2 ^ 30) ∧ (hk_sz Z (T_dryHour Z (T_pickHour Z τ)) ∧ T_dryHour Z (T_pickHour Z τ) (0, 0) 9 = nI w ∧ w ≤ 24) ∧ ∀ j, j ≤ Z.1 2 → hk_fp Z w (hk_it (B_fillH w Z) j 0 (T_loseHour Z (T_dryHour Z (T_pickHour Z τ)) w))
theorem ymV_X10_pickHour : hk_mV yX10_pickHour cX10_pickHour 6 none RX10 0 := ⟨tw_481, tw_480, tw_7, tw_34, rfl, by decide, by decide, by decide +kernel⟩
theorem ymV_X10_dryHour : hk_mV yX10_dryHour cX10_dryHour 3 none RX10 0 := ⟨tw_514, tw_513, tw_8, tw_34, rfl, by decide, by decide, by decide +kernel⟩
theorem ymV_X10_loseHour : hk_mV yX10_loseHour cX10_loseHour 3 none RX10 0 := ⟨tw_538, tw_537, tw_10, tw_34, rfl, by decide, by decide, by decide +kernel⟩
theorem ymV_X10_fillHour : hk_mV yX10_fillHour cX10_fillHour 3 none RX10 0 := ⟨tw_547, tw_546, tw_11, tw_34, rfl, by decide, by decide, by decide +kernel⟩
def T_passHour (Z : hk_Z) (τ : hk_v) (w : Nat) : hk_v := (hk_u (T_fillHour Z (T_loseHour Z (T_dryHour Z (T_pickHour Z τ)) w) w) (0, 0) 8 (((T_fillHour Z (T_loseHour Z (T_dryHour Z (T_pickHour Z τ)) w) w) (0, 0) 8) + 1))
set_option maxHeartbeats 4000000 in
set_option maxRecDepth 100000 in
theorem c_passHour (l : Launch) (D : hk_D) (G : hk_G) (Z : hk_Z) (τ σ : hk_v) (w : Nat) (hG : hk_Y D G Z) (P : Nat) (hok : hk_oh Z w P τ) : Met l yX10_passHour (hk_ws yX10_passHour cX10_passHour 1 none) ({ frames := 6, cells := 0, slots := 0, locals := 130 }) (hk_P D G (hk_cm τ σ) [.ref (G.1 (.inl (0, 0)))]) (hk_Q D (hk_e G (none) (hk_cm (T_passHour Z τ w) σ))) 0 0 (hk_A D) := by
  refine hk_met (by decide +kernel) (Nat.le_of_ble_eq_true rfl) (fun p e s m below meth c hx hb hr hml hlocks ht hown hin hK hH hS ls hl => ?_)
  have hl : lv_has ls 1 [(0, .ref (G.1 (.inl (0, 0))))] := hl
  refine lv_aload_n hx hb dX10_passHour_0 rfl (lv_at hl 0 rfl) ?_
  refine hk_cV (L := (.inl (0, 0))) (As := []) (rest := []) hx hb hml hl.1 ht hown hK hH hS (c_pickHour l D G Z τ σ hG hok.1.1 hok.1.2.1 hok.1.2.2) ymV_X10_pickHour kc_11 hG.k0 tw_478 ⟨rfl, rfl⟩ ⟨Nat.le_of_ble_eq_true rfl, Nat.le_of_ble_eq_true rfl⟩ rfl rfl (Nat.le_of_ble_eq_true rfl) dX10_passHour_1 ⟨Nat.le_of_ble_eq_true rfl, Nat.le_of_ble_eq_true rfl⟩ (hk_ev (fun H locs hH hS => ?_))
  refine lv_aload_n hx hb dX10_passHour_4 rfl (lv_at hl 0 rfl) ?_
  refine hk_cV (L := (.inl (0, 0))) (As := []) (rest := []) hx hb hml hl.1 ht hown hK hH hS (c_dryHour l D G Z (T_pickHour Z τ) σ hG P hok.2.1.1 hok.2.1.2) ymV_X10_dryHour kc_11 hG.k0 tw_511 ⟨rfl, rfl⟩ ⟨Nat.le_of_ble_eq_true rfl, Nat.le_of_ble_eq_true rfl⟩ rfl rfl (Nat.le_of_ble_eq_true rfl) dX10_passHour_5 ⟨Nat.le_of_ble_eq_true rfl, Nat.le_of_ble_eq_true rfl⟩ (hk_ev (fun H locs hH hS => ?_))
  refine lv_aload_n hx hb dX10_passHour_8 rfl (lv_at hl 0 rfl) ?_
  refine hk_cV (L := (.inl (0, 0))) (As := []) (rest := []) hx hb hml hl.1 ht hown hK hH hS (c_loseHour l D G Z (T_dryHour Z (T_pickHour Z τ)) σ w hG hok.2.2.1.1 hok.2.2.1.2.1 hok.2.2.1.2.2) ymV_X10_loseHour kc_11 hG.k0 tw_535 ⟨rfl, rfl⟩ ⟨Nat.le_of_ble_eq_true rfl, Nat.le_of_ble_eq_true rfl⟩ rfl rfl (Nat.le_of_ble_eq_true rfl) dX10_passHour_9 ⟨Nat.le_of_ble_eq_true rfl, Nat.le_of_ble_eq_true rfl⟩ (hk_ev (fun H locs hH hS => ?_))
  refine lv_aload_n hx hb dX10_passHour_12 rfl (lv_at hl 0 rfl) ?_
  refine hk_cV (L := (.inl (0, 0))) (As := []) (rest := []) hx hb hml hl.1 ht hown hK hH hS (c_fillHour l D G Z (T_loseHour Z (T_dryHour Z (T_pickHour Z τ)) w) σ w hG hok.2.2.2) ymV_X10_fillHour kc_11 hG.k0 tw_544 ⟨rfl, rfl⟩ ⟨Nat.le_of_ble_eq_true rfl, Nat.le_of_ble_eq_true rfl⟩ rfl rfl (Nat.le_of_ble_eq_true rfl) dX10_passHour_13 ⟨Nat.le_of_ble_eq_true rfl, Nat.le_of_ble_eq_true rfl⟩ (hk_ev (fun H locs hH hS => ?_))
  refine lv_aload_n hx hb dX10_passHour_16 rfl (lv_at hl 0 rfl) ?_
  refine lv_dup hx hb dX10_passHour_17 rfl ?_
  refine hk_geti (L := (.inl (0, 0))) (v := (T_fillHour Z (T_loseHour Z (T_dryHour Z (T_pickHour Z τ)) w) w) (0, 0) 8) hx hb ht hown hK hH kc_11 hG.k0 8 (by decide) rfl tw_176 rfl rfl dX10_passHour_18 ?_
  refine lv_iconst (v := 1) hx hb dX10_passHour_21 (by decide) ?_
  refine lv_iadd hx hb dX10_passHour_22 ?_
  refine hk_puti (L := (.inl (0, 0))) hx hb ht hown hK hH hS kc_11 hG.k0 8 (by decide) rfl tw_176 rfl (Or.inl rfl) rfl dX10_passHour_23 (fun H locs hH hS => ?_)
  rw [hk_up_l] at hH
  exact hk_vret hx hb hr hlocks hH hS ⟨rfl, rfl, (by simp only [T_passHour])⟩ dX10_passHour_26
theorem hk_hn {n : Int32} (h : ¬ hk_in n 1 24 = 0) : n = nI n.toNatClampNeg ∧ 1 ≤ n.toNatClampNeg ∧ n.toNatClampNeg ≤ 24 := by
  obtain ⟨h1, h2⟩ := hk_in_ne h
  have h0 : ¬ n < 0 := fun q => h1 (Int32.lt_trans q (by decide))
  obtain ⟨j, hj, rfl⟩ := nI_of h0
  rw [nI_clamp hj]
  refine ⟨rfl, ?_, ?_⟩
  · rcases Nat.lt_or_ge j 1 with q | q
    · exact absurd (show nI j < nI 1 from nI_lt q (by decide)) h1
    · exact q
  · rcases Nat.lt_or_ge 24 j with q | q
    · exact absurd (show nI 24 < nI j from nI_lt q hj) h2
    · exact q
theorem ymV_X10_passHour : hk_mV yX10_passHour cX10_passHour 1 none RX10 0 := ⟨tw_477, tw_476, tw_6, tw_34, rfl, by decide, by decide, by decide +kernel⟩
def B_hours (w : Nat) (Z : hk_Z) (j : Nat) (t : hk_v) : hk_v := (T_passHour Z t w)
def F_hours (Z : hk_Z) (τ : hk_v) (w : Nat) (n : Int32) : Int32 := (if (hk_in n 1 24) = 0 then (-1) else (if ((τ (0, 0) 8) + n) ≤ 480 then (hk_it (B_hours w Z) n.toNatClampNeg 0 τ) (0, 0) 8 else (-2)))
def T_hours (Z : hk_Z) (τ : hk_v) (w : Nat) (n : Int32) : hk_v := (if (hk_in n 1 24) = 0 then τ else (if ((τ (0, 0) 8) + n) ≤ 480 then (hk_it (B_hours w Z) n.toNatClampNeg 0 τ) else τ))
set_option maxHeartbeats 4000000 in
set_option maxRecDepth 100000 in
theorem c_hours (l : Launch) (D : hk_D) (G : hk_G) (Z : hk_Z) (τ σ : hk_v) (w : Nat) (n : Int32) (hG : hk_Y D G Z) (P : Nat → Nat) (hoh : ¬ hk_in n 1 24 = 0 → τ (0, 0) 8 + n ≤ 480 → ∀ j, j < n.toNatClampNeg → hk_oh Z w (P j) (hk_it (B_hours w Z) j 0 τ)) : Met l yX10_hours (hk_ws yX10_hours cX10_hours 3 (some FieldType.int)) ({ frames := 7, cells := 0, slots := 0, locals := 150 }) (hk_P D G (hk_cm τ σ) [.ref (G.1 (.inl (0, 0))), .int n]) (hk_Q D (hk_e G (some (.int (F_hours Z τ w n))) (hk_cm (T_hours Z τ w n) σ))) 0 0 (hk_A D) := by
  refine hk_met (by decide +kernel) (Nat.le_of_ble_eq_true rfl) (fun p e s m below meth c hx hb hr hml hlocks ht hown hin hK hH hS ls hl => ?_)
  have hl : lv_has ls 3 [(0, .ref (G.1 (.inl (0, 0)))), (1, .int n)] := hl
  refine lv_iload_n hx hb dX10_hours_0 rfl (lv_at hl 1 rfl) ?_
  refine lv_iconst (v := 1) hx hb dX10_hours_1 (by decide) ?_
  refine lv_bipush (v := 24) hx hb dX10_hours_2 (by decide) ?_
  refine hk_cS (As := [.int n, .int 1, .int 24]) (rest := []) hx hb hml hl.1 ht hown hK hH hS (c_within l D G τ σ n 1 24) ymS_X10_within tw_206 ⟨rfl, rfl⟩ ⟨Nat.le_of_ble_eq_true rfl, Nat.le_of_ble_eq_true rfl⟩ rfl rfl (Nat.le_of_ble_eq_true rfl) dX10_hours_4 ⟨Nat.le_of_ble_eq_true rfl, Nat.le_of_ble_eq_true rfl⟩ (hk_ea (fun H locs hH hS => ?_))
  refine lv_if_ne (tgt := 12) hx hb dX10_hours_7 (by decide) (fun c_1 => ?_) (fun c_1 => ?_)
  · refine lv_aload_n hx hb dX10_hours_12 rfl (lv_at hl 0 rfl) ?_
    refine hk_geti (L := (.inl (0, 0))) (v := τ (0, 0) 8) hx hb ht hown hK hH kc_11 hG.k0 8 (by decide) rfl tw_176 rfl rfl dX10_hours_13 ?_
    refine lv_iload_n hx hb dX10_hours_16 rfl (lv_at hl 1 rfl) ?_
    refine lv_iadd hx hb dX10_hours_17 ?_
    refine lv_sipush (v := 480) hx hb dX10_hours_18 (by decide) ?_
    refine lv_icmp_le (tgt := 27) hx hb dX10_hours_21 (by decide) (fun c_2 => ?_) (fun c_2 => ?_)
    · refine lv_iconst (v := 0) hx hb dX10_hours_27 (by decide) ?_
      refine lv_istore_n (lv' := [(2, .int 0), (0, .ref (G.1 (.inl (0, 0)))), (1, .int n)]) hx hb dX10_hours_28 rfl hl (by decide) rfl (fun ls hl => ?_)
      have LP_3 : ∀ (r j : Nat) (t : hk_v) (H : Heap) (locs : List Loc) (ls : Array Slot) (QQ : State → Prop), j + r = n.toNatClampNeg → (t = hk_it (B_hours w Z) (j) 0 τ) → hk_H D G (hk_cm t σ) H → va_S (hk_A D) s.heap H locs → lv_has ls 3 [(2, .int (nI j)), (0, .ref (G.1 (.inl (0, 0)))), (1, .int n)] → (∀ (H : Heap) (locs : List Loc) (ls : Array Slot), hk_H D G (hk_cm (hk_it (B_hours w Z) r j t) σ) H → va_S (hk_A D) s.heap H locs → lv_has ls 3 [(2, .int (nI n.toNatClampNeg)), (0, .ref (G.1 (.inl (0, 0)))), (1, .int n)] → ((hk_it (B_hours w Z) r j t) = hk_it (B_hours w Z) (n.toNatClampNeg) 0 τ) → W p l e ({ frames := 7, cells := 0, slots := 0, locals := 150 }) s m ([.ref (G.1 (.inl (0, 0))), .int n] : List Value).toArray below meth c H locs 0 0 QQ (F0 m 44 ls [])) → W p l e ({ frames := 7, cells := 0, slots := 0, locals := 150 }) s m ([.ref (G.1 (.inl (0, 0))), .int n] : List Value).toArray below meth c H locs 0 0 QQ (F0 m 29 ls []) := by
        intro r
        induction r with
        | zero =>
          intro j t H locs ls QQ hn_hours hI_hours hH hS hl kk
          have hn24 := (hk_hn c_1).2.2
          refine lv_iload_n hx hb dX10_hours_29 rfl (lv_at hl 0 rfl) ?_
          refine lv_iload_n hx hb dX10_hours_30 rfl (lv_at hl 2 rfl) ?_
          refine lv_icmp_ge (tgt := 44) hx hb dX10_hours_31 (by decide) (fun c_4 => ?_) (fun c_4 => ?_)
          rotate_left
          · exfalso; rw [(hk_hn c_1).1] at c_4; first | exact nI_ge (by omega) (by omega) c_4 | exact c_4 (nI_le (by omega) (by omega)) | exact nI_nlt (by omega) (by omega) c_4 | exact c_4 (nI_lt (by omega) (by omega))
          have hiN : j = n.toNatClampNeg := by omega
          rw [hiN] at hl hI_hours
          exact kk H locs ls hH hS (lv_sub hl [0, 1, 2] rfl) hI_hours
        | succ r ih =>
          intro j t H locs ls QQ hn_hours hI_hours hH hS hl kk
          have hn24 := (hk_hn c_1).2.2
          refine lv_iload_n hx hb dX10_hours_29 rfl (lv_at hl 0 rfl) ?_
          refine lv_iload_n hx hb dX10_hours_30 rfl (lv_at hl 2 rfl) ?_
          refine lv_icmp_ge (tgt := 44) hx hb dX10_hours_31 (by decide) (fun c_5 => ?_) (fun c_5 => ?_)
          · exfalso; rw [(hk_hn c_1).1] at c_5; first | exact nI_ge (by omega) (by omega) c_5 | exact c_5 (nI_le (by omega) (by omega)) | exact nI_nlt (by omega) (by omega) c_5 | exact c_5 (nI_lt (by omega) (by omega))
          refine lv_aload_n hx hb dX10_hours_34 rfl (lv_at hl 1 rfl) ?_
          refine hk_cV (L := (.inl (0, 0))) (As := []) (rest := []) hx hb hml hl.1 ht hown hK hH hS (c_passHour l D G Z t σ w hG (P j) (by rw [hI_hours]; exact hoh c_1 c_2 j (by omega))) ymV_X10_passHour kc_11 hG.k0 tw_474 ⟨rfl, rfl⟩ ⟨Nat.le_of_ble_eq_true rfl, Nat.le_of_ble_eq_true rfl⟩ rfl rfl (Nat.le_of_ble_eq_true rfl) dX10_hours_35 ⟨Nat.le_of_ble_eq_true rfl, Nat.le_of_ble_eq_true rfl⟩ (hk_ev (fun H locs hH hS => ?_))
          refine lv_iinc (v := nI (j + 1)) (lv' := [(2, .int (nI (j + 1))), (0, .ref (G.1 (.inl (0, 0)))), (1, .int n)]) hx hb dX10_hours_38 hl (k := 0) rfl (nI_1 _) (by decide) rfl (fun ls hl => ?_)
          refine lv_goto (tgt := 29) hx hb dX10_hours_41 (by decide) ?_
          have EB_6 : (B_hours w Z) j t = (T_passHour Z t w) := by simp only [B_hours]
          have hI2 : ((T_passHour Z t w) = hk_it (B_hours w Z) ((j + 1)) 0 τ) := by
            rw [hk_it_last, Nat.zero_add, ← hI_hours]; exact EB_6.symm
          exact ih (j + 1) (T_passHour Z t w) _ _ _ QQ (by omega) hI2 hH hS (lv_sub hl [0, 1, 2] rfl) (fun H locs ls hH hS hl hI_hours => kk H locs ls (by rw [hk_it_s, EB_6]; exact hH) hS hl (by first | exact hI_hours | (rw [hk_it_s, EB_6]; exact hI_hours)))
      refine LP_3 n.toNatClampNeg 0 τ _ _ _ _ (by omega) rfl hH hS (lv_sub hl [0, 1, 2] rfl) (fun H locs ls hH hS hl hI_hours => ?_)
      refine lv_aload_n hx hb dX10_hours_44 rfl (lv_at hl 1 rfl) ?_
      refine hk_geti (L := (.inl (0, 0))) (v := (hk_it (B_hours w Z) n.toNatClampNeg 0 τ) (0, 0) 8) hx hb ht hown hK hH kc_11 hG.k0 8 (by decide) rfl tw_176 rfl rfl dX10_hours_45 ?_
      exact hk_iret hx hb hr hlocks hH hS ⟨(by simp only [F_hours, if_neg c_1, if_pos c_2]), rfl, (by simp only [T_hours, if_neg c_1, if_pos c_2])⟩ dX10_hours_48
    · refine lv_bipush (v := -2) hx hb dX10_hours_24 (by decide) ?_
      exact hk_iret hx hb hr hlocks hH hS ⟨(by simp only [F_hours, if_neg c_1, if_neg c_2]), rfl, (by simp only [T_hours, if_neg c_1, if_neg c_2])⟩ dX10_hours_26
  · refine lv_iconst (v := -1) hx hb dX10_hours_10 (by decide) ?_
    exact hk_iret hx hb hr hlocks hH hS ⟨(by simp only [F_hours, if_pos c_1]), rfl, (by simp only [T_hours, if_pos c_1])⟩ dX10_hours_11
