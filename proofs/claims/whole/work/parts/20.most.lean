def B_addGang (k : Nat) (ra : Int32) (pl : Int32)  (j : Nat) (t : hk_v) : hk_v := (hk_u (hk_u (hk_u t (8, 1) (k + j) ((t (8, 1) j) + ra)) (8, 2) (k + j) ((t (8, 2) j) + pl)) (8, 3) (k + j) 0)
def T_addGang (τ : hk_v) (k : Nat) (ra : Int32) (pl : Int32) : hk_v := (hk_u (hk_it (B_addGang k ra pl) k 0 τ) (8, 0) 3 (if 64 < (nI (2 * k)) then 64 else (nI (2 * k))))
set_option maxHeartbeats 4000000 in
set_option maxRecDepth 100000 in
theorem c_addGang (l : Launch) (D : hk_D) (G : hk_G) (Z : hk_Z) (τ σ : hk_v) (k : Nat) (ra : Int32) (pl : Int32) (hG : hk_Y D G Z) (hkk : τ (8, 0) 3 = nI k) (hk32 : k ≤ 32) : Met l yX0_addGang (hk_ws yX0_addGang cX0_addGang 5 none) ({ frames := 1, cells := 0, slots := 0, locals := 14 }) (hk_P D G (hk_cm τ σ) [.ref (G.1 (.inl (8, 0))), .int ra, .int pl]) (hk_Q D (hk_e G (none) (hk_cm (T_addGang τ k ra pl) σ))) 0 0 (hk_A D) := by
  refine hk_met (by decide +kernel) (Nat.le_of_ble_eq_true rfl) (fun p e s m below meth c hx hb hr hml hlocks ht hown hin hK hH hS ls hl => ?_)
  have hl : lv_has ls 5 [(0, .ref (G.1 (.inl (8, 0)))), (1, .int ra), (2, .int pl)] := hl
  refine lv_aload_n hx hb dX0_addGang_0 rfl (lv_at hl 0 rfl) ?_
  refine hk_geti (L := (.inl (8, 0))) (v := τ (8, 0) 3) hx hb ht hown hK hH kc_1 hG.k8_0 3 (by decide) rfl tw_158 rfl rfl dX0_addGang_1 ?_
  refine lv_istore_n (lv' := [(3, .int (τ (8, 0) 3)), (0, .ref (G.1 (.inl (8, 0)))), (1, .int ra), (2, .int pl)]) hx hb dX0_addGang_4 rfl hl (by decide) rfl (fun ls hl => ?_)
  rw [hkk] at hl
  refine lv_iconst (v := 0) hx hb dX0_addGang_5 (by decide) ?_
  refine lv_istore (lv' := [(4, .int 0), (3, .int (nI k)), (0, .ref (G.1 (.inl (8, 0)))), (1, .int ra), (2, .int pl)]) hx hb dX0_addGang_6 hl (by decide) rfl (fun ls hl => ?_)
  have LP_1 : ∀ (r j : Nat) (t : hk_v) (H : Heap) (locs : List Loc) (ls : Array Slot) (QQ : State → Prop), j + r = k → (t (8, 0) 3 = nI k) → hk_H D G (hk_cm t σ) H → va_S (hk_A D) s.heap H locs → lv_has ls 5 [(4, .int (nI j)), (3, .int (nI k)), (0, .ref (G.1 (.inl (8, 0)))), (1, .int ra), (2, .int pl)] → (∀ (H : Heap) (locs : List Loc) (ls : Array Slot), hk_H D G (hk_cm (hk_it (B_addGang k ra pl) r j t) σ) H → va_S (hk_A D) s.heap H locs → lv_has ls 5 [(4, .int (nI k)), (3, .int (nI k)), (0, .ref (G.1 (.inl (8, 0)))), (1, .int ra), (2, .int pl)] → ((hk_it (B_addGang k ra pl) r j t) (8, 0) 3 = nI k) → W p l e ({ frames := 1, cells := 0, slots := 0, locals := 14 }) s m ([.ref (G.1 (.inl (8, 0))), .int ra, .int pl] : List Value).toArray below meth c H locs 0 0 QQ (F0 m 75 ls [])) → W p l e ({ frames := 1, cells := 0, slots := 0, locals := 14 }) s m ([.ref (G.1 (.inl (8, 0))), .int ra, .int pl] : List Value).toArray below meth c H locs 0 0 QQ (F0 m 8 ls []) := by
    intro r
    induction r with
    | zero =>
      intro j t H locs ls QQ hn_addGang hI_addGang hH hS hl kk
      refine lv_iload hx hb dX0_addGang_8 (lv_at hl 0 rfl) ?_
      refine lv_iload_n hx hb dX0_addGang_10 rfl (lv_at hl 1 rfl) ?_
      refine lv_icmp_ge (tgt := 75) hx hb dX0_addGang_11 (by decide) (fun c_2 => ?_) (fun c_2 => ?_)
      rotate_left
      · exfalso; first | exact nI_ge (by omega) (by omega) c_2 | exact c_2 (nI_le (by omega) (by omega)) | exact nI_nlt (by omega) (by omega) c_2 | exact c_2 (nI_lt (by omega) (by omega))
      have hiN : j = k := by omega
      rw [hiN] at hl
      exact kk H locs ls hH hS (lv_sub hl [0, 1, 2, 3, 4] rfl) hI_addGang
    | succ r ih =>
      intro j t H locs ls QQ hn_addGang hI_addGang hH hS hl kk
      refine lv_iload hx hb dX0_addGang_8 (lv_at hl 0 rfl) ?_
      refine lv_iload_n hx hb dX0_addGang_10 rfl (lv_at hl 1 rfl) ?_
      refine lv_icmp_ge (tgt := 75) hx hb dX0_addGang_11 (by decide) (fun c_3 => ?_) (fun c_3 => ?_)
      · exfalso; first | exact nI_ge (by omega) (by omega) c_3 | exact c_3 (nI_le (by omega) (by omega)) | exact nI_nlt (by omega) (by omega) c_3 | exact c_3 (nI_lt (by omega) (by omega))
      refine lv_iload_n hx hb dX0_addGang_14 rfl (lv_at hl 1 rfl) ?_
      refine lv_iload hx hb dX0_addGang_15 (lv_at hl 0 rfl) ?_
      refine lv_iadd hx hb dX0_addGang_17 ?_
      rw [nI_add k j]
      refine lv_bipush (v := 64) hx hb dX0_addGang_18 (by decide) ?_
      refine lv_icmp_ge (tgt := 75) hx hb dX0_addGang_20 (by decide) (fun c_4 => ?_) (fun c_4 => ?_)
      · exfalso; rw [show (64 : Int32) = nI 64 from rfl] at c_4; exact nI_ge (by omega) (by omega) c_4
      refine lv_aload_n hx hb dX0_addGang_23 rfl (lv_at hl 2 rfl) ?_
      refine hk_getr (L := (.inl (8, 0))) (v := .ref (G.1 (.inl (8, 1)))) hx hb ht hown hK hH kc_1 hG.k8_0 0 (by decide) rfl tw_155 rfl hG.r8_0 dX0_addGang_24 ?_
      refine lv_iload_n hx hb dX0_addGang_27 rfl (lv_at hl 1 rfl) ?_
      refine lv_iload hx hb dX0_addGang_28 (lv_at hl 0 rfl) ?_
      refine lv_iadd hx hb dX0_addGang_30 ?_
      rw [nI_add k j]
      refine lv_aload_n hx hb dX0_addGang_31 rfl (lv_at hl 2 rfl) ?_
      refine hk_getr (L := (.inl (8, 0))) (v := .ref (G.1 (.inl (8, 1)))) hx hb ht hown hK hH kc_1 hG.k8_0 0 (by decide) rfl tw_155 rfl hG.r8_0 dX0_addGang_32 ?_
      refine lv_iload hx hb dX0_addGang_35 (lv_at hl 0 rfl) ?_
      refine hk_ild (L := (.inl (8, 1))) (v := t (8, 1) j) hx hb hK hH hG.k8_1 (vp_in_nI (by omega) (by omega)) (by rw [nI_clamp (by omega)]; rfl) dX0_addGang_37 ?_
      refine lv_iload_n hx hb dX0_addGang_38 rfl (lv_at hl 3 rfl) ?_
      refine lv_iadd hx hb dX0_addGang_39 ?_
      refine hk_ist (L := (.inl (8, 1))) hx hb hK hH hS hG.k8_1 (vp_in_nI (by omega) (by omega)) dX0_addGang_40 (fun H locs hH hS => ?_)
      rw [hk_up_l, nI_clamp (by omega)] at hH
      refine lv_aload_n hx hb dX0_addGang_41 rfl (lv_at hl 2 rfl) ?_
      refine hk_getr (L := (.inl (8, 0))) (v := .ref (G.1 (.inl (8, 2)))) hx hb ht hown hK hH kc_1 hG.k8_0 1 (by decide) rfl tw_156 rfl hG.r8_1 dX0_addGang_42 ?_
      refine lv_iload_n hx hb dX0_addGang_45 rfl (lv_at hl 1 rfl) ?_
      refine lv_iload hx hb dX0_addGang_46 (lv_at hl 0 rfl) ?_
      refine lv_iadd hx hb dX0_addGang_48 ?_
      rw [nI_add k j]
      refine lv_aload_n hx hb dX0_addGang_49 rfl (lv_at hl 2 rfl) ?_
      refine hk_getr (L := (.inl (8, 0))) (v := .ref (G.1 (.inl (8, 2)))) hx hb ht hown hK hH kc_1 hG.k8_0 1 (by decide) rfl tw_156 rfl hG.r8_1 dX0_addGang_50 ?_
      refine lv_iload hx hb dX0_addGang_53 (lv_at hl 0 rfl) ?_
      refine hk_ild (L := (.inl (8, 2))) (v := t (8, 2) j) hx hb hK hH hG.k8_2 (vp_in_nI (by omega) (by omega)) (by rw [nI_clamp (by omega)]; simp [hk_cm, hk_u_ap]) dX0_addGang_55 ?_
      refine lv_iload_n hx hb dX0_addGang_56 rfl (lv_at hl 4 rfl) ?_
      refine lv_iadd hx hb dX0_addGang_57 ?_
      refine hk_ist (L := (.inl (8, 2))) hx hb hK hH hS hG.k8_2 (vp_in_nI (by omega) (by omega)) dX0_addGang_58 (fun H locs hH hS => ?_)
      rw [hk_up_l, nI_clamp (by omega)] at hH
      refine lv_aload_n hx hb dX0_addGang_59 rfl (lv_at hl 2 rfl) ?_
      refine hk_getr (L := (.inl (8, 0))) (v := .ref (G.1 (.inl (8, 3)))) hx hb ht hown hK hH kc_1 hG.k8_0 2 (by decide) rfl tw_157 rfl hG.r8_2 dX0_addGang_60 ?_
      refine lv_iload_n hx hb dX0_addGang_63 rfl (lv_at hl 1 rfl) ?_
      refine lv_iload hx hb dX0_addGang_64 (lv_at hl 0 rfl) ?_
      refine lv_iadd hx hb dX0_addGang_66 ?_
      rw [nI_add k j]
      refine lv_iconst (v := 0) hx hb dX0_addGang_67 (by decide) ?_
      refine hk_ist (L := (.inl (8, 3))) hx hb hK hH hS hG.k8_3 (vp_in_nI (by omega) (by omega)) dX0_addGang_68 (fun H locs hH hS => ?_)
      rw [hk_up_l, nI_clamp (by omega)] at hH
      refine lv_iinc (v := nI (j + 1)) (lv' := [(4, .int (nI (j + 1))), (3, .int (nI k)), (0, .ref (G.1 (.inl (8, 0)))), (1, .int ra), (2, .int pl)]) hx hb dX0_addGang_69 hl (k := 0) rfl (nI_1 _) (by decide) rfl (fun ls hl => ?_)
      refine lv_goto (tgt := 8) hx hb dX0_addGang_72 (by decide) ?_
      have EB_5 : (B_addGang k ra pl) j t = (hk_u (hk_u (hk_u t (8, 1) (k + j) ((t (8, 1) j) + ra)) (8, 2) (k + j) ((t (8, 2) j) + pl)) (8, 3) (k + j) 0) := by simp only [B_addGang]
      have hI2 : ((hk_u (hk_u (hk_u t (8, 1) (k + j) ((t (8, 1) j) + ra)) (8, 2) (k + j) ((t (8, 2) j) + pl)) (8, 3) (k + j) 0) (8, 0) 3 = nI k) := by
        simpa [hk_u_ap] using hI_addGang
      exact ih (j + 1) (hk_u (hk_u (hk_u t (8, 1) (k + j) ((t (8, 1) j) + ra)) (8, 2) (k + j) ((t (8, 2) j) + pl)) (8, 3) (k + j) 0) _ _ _ QQ (by omega) hI2 hH hS (lv_sub hl [0, 1, 2, 3, 4] rfl) (fun H locs ls hH hS hl hI_addGang => kk H locs ls (by rw [hk_it_s, EB_5]; exact hH) hS hl (by first | exact hI_addGang | (rw [hk_it_s, EB_5]; exact hI_addGang)))
  refine LP_1 k 0 τ _ _ _ _ (by omega) hkk hH hS (lv_sub hl [0, 1, 2, 3, 4] rfl) (fun H locs ls hH hS hl hI_addGang => ?_)
  refine lv_aload_n hx hb dX0_addGang_75 rfl (lv_at hl 2 rfl) ?_
  refine lv_iconst (v := 2) hx hb dX0_addGang_76 (by decide) ?_
  refine lv_iload_n hx hb dX0_addGang_77 rfl (lv_at hl 1 rfl) ?_
  refine lv_imul hx hb dX0_addGang_78 ?_
  rw [show (2 : Int32) * nI k = nI (2 * k) from pk_mul 2 _]
  refine lv_bipush (v := 64) hx hb dX0_addGang_79 (by decide) ?_
  refine va_mmin hx hb (hml.trans hl.1.symm) hown (ht _ tw_666) (ht _ tw_293) (ht _ tw_45) (ht _ tw_294) (Nat.le_of_ble_eq_true rfl) (Nat.le_of_ble_eq_true rfl) (Nat.zero_le _) (Nat.zero_le _) dX0_addGang_81 ?_
  refine hk_puti (L := (.inl (8, 0))) hx hb ht hown hK hH hS kc_1 hG.k8_0 3 (by decide) rfl tw_158 rfl (Or.inl rfl) rfl dX0_addGang_84 (fun H locs hH hS => ?_)
  rw [hk_up_l] at hH
  exact hk_vret hx hb hr hlocks hH hS ⟨rfl, rfl, (by simp only [T_addGang])⟩ dX0_addGang_87
theorem addl_o {k : Nat} {ra pl : Int32} {t : hk_v} {q : Nat × Nat} {i n j : Nat} (h : q.1 ≠ 8) : hk_it (B_addGang k ra pl) n j t q i = t q i := by
  refine hk_it_inv (f := B_addGang k ra pl) (fun _ s => s q i = t q i) n j t rfl (fun j s _ _ hs => ?_)
  unfold B_addGang
  rw [hk_u_o h, hk_u_o h, hk_u_o h]
  exact hs
theorem addGang_o {k : Nat} {ra pl : Int32} {t : hk_v} {q : Nat × Nat} {i : Nat} (h : q.1 ≠ 8) : T_addGang t k ra pl q i = t q i := by
  unfold T_addGang
  rw [hk_u_o h, addl_o h]
theorem addGang_3 {k : Nat} (hk : k ≤ 32) {ra pl : Int32} {t : hk_v} : T_addGang t k ra pl (8, 0) 3 = nI (2 * k) := by
  unfold T_addGang
  rw [hk_u_ap, if_pos ⟨rfl, rfl⟩, show (64 : Int32) = nI 64 from rfl]
  rw [if_neg (nI_nlt (by omega) (by omega))]
theorem hk_pow {j : Nat} (h : j < 6) : 2 ^ j ≤ 32 := by
  have : ∀ j : Fin 6, 2 ^ j.val ≤ 32 := by decide
  exact this ⟨j, h⟩
theorem ymV_X0_addGang : hk_mV yX0_addGang cX0_addGang 5 none RX0 2 := ⟨tw_665, tw_663, tw_664, tw_41, rfl, by decide, by decide, by decide +kernel⟩
def B_begin  (j : Nat) (s : Int32 × hk_v) : Int32 × hk_v := match s with
  | (pl, t) => (pl * 7, (T_addGang t (2 ^ j) (t (10, j) 0) pl))
def T_begin (Z : hk_Z) (τ : hk_v)  : hk_v := (hk_it B_begin (Z.1 1) 0 (1, (hk_u (hk_u τ (8, 0) 3 1) (8, 3) 0 0))).2
set_option maxHeartbeats 4000000 in
set_option maxRecDepth 100000 in
theorem c_begin (l : Launch) (D : hk_D) (G : hk_G) (Z : hk_Z) (τ σ : hk_v)  (hG : hk_Y D G Z) (hs : hk_sz Z τ) : Met l yX0_begin (hk_ws yX0_begin cX0_begin 4 none) ({ frames := 3, cells := 0, slots := 0, locals := 64 }) (hk_P D G (hk_cm τ σ) [.ref (G.1 (.inl (8, 0))), .ref (G.1 (.inl (1, 1)))]) (hk_Q D (hk_e G (none) (hk_cm (T_begin Z τ) σ))) 0 0 (hk_A D) := by
  refine hk_met (by decide +kernel) (Nat.le_of_ble_eq_true rfl) (fun p e s m below meth c hx hb hr hml hlocks ht hown hin hK hH hS ls hl => ?_)
  have hl : lv_has ls 4 [(0, .ref (G.1 (.inl (8, 0)))), (1, .ref (G.1 (.inl (1, 1))))] := hl
  refine lv_aload_n hx hb dX0_begin_0 rfl (lv_at hl 0 rfl) ?_
  refine lv_iconst (v := 1) hx hb dX0_begin_1 (by decide) ?_
  refine hk_puti (L := (.inl (8, 0))) hx hb ht hown hK hH hS kc_1 hG.k8_0 3 (by decide) rfl tw_158 rfl (Or.inl rfl) rfl dX0_begin_2 (fun H locs hH hS => ?_)
  rw [hk_up_l] at hH
  refine lv_aload_n hx hb dX0_begin_5 rfl (lv_at hl 0 rfl) ?_
  refine hk_getr (L := (.inl (8, 0))) (v := .ref (G.1 (.inl (8, 3)))) hx hb ht hown hK hH kc_1 hG.k8_0 2 (by decide) rfl tw_157 rfl hG.r8_2 dX0_begin_6 ?_
  refine lv_iconst (v := 0) hx hb dX0_begin_9 (by decide) ?_
  refine lv_iconst (v := 0) hx hb dX0_begin_10 (by decide) ?_
  refine hk_ist (L := (.inl (8, 3))) hx hb hK hH hS hG.k8_3 (show vp_in (nI 0) _ from vp_in_nI (by omega) (by omega)) dX0_begin_11 (fun H locs hH hS => ?_)
  rw [hk_up_l, show (0 : Int32).toNatClampNeg = 0 from rfl] at hH
  refine lv_iconst (v := 1) hx hb dX0_begin_12 (by decide) ?_
  refine lv_istore_n (lv' := [(2, .int 1), (0, .ref (G.1 (.inl (8, 0)))), (1, .ref (G.1 (.inl (1, 1))))]) hx hb dX0_begin_13 rfl hl (by decide) rfl (fun ls hl => ?_)
  refine lv_iconst (v := 0) hx hb dX0_begin_14 (by decide) ?_
  refine lv_istore_n (lv' := [(3, .int 0), (2, .int 1), (0, .ref (G.1 (.inl (8, 0)))), (1, .ref (G.1 (.inl (1, 1))))]) hx hb dX0_begin_15 rfl hl (by decide) rfl (fun ls hl => ?_)
  have LP_1 : ∀ (r j : Nat) (pl : Int32) (t : hk_v) (H : Heap) (locs : List Loc) (ls : Array Slot) (QQ : State → Prop), j + r = Z.1 1 → (hk_sz Z t ∧ t (8, 0) 3 = nI (2 ^ (j))) → hk_H D G (hk_cm t σ) H → va_S (hk_A D) s.heap H locs → lv_has ls 4 [(3, .int (nI j)), (2, .int pl), (0, .ref (G.1 (.inl (8, 0)))), (1, .ref (G.1 (.inl (1, 1))))] → (∀ (H : Heap) (locs : List Loc) (ls : Array Slot), hk_H D G (hk_cm (hk_it B_begin r j (pl, t)).2 σ) H → va_S (hk_A D) s.heap H locs → lv_has ls 4 [(3, .int (nI (Z.1 1))), (2, .int ((hk_it B_begin r j (pl, t)).1)), (0, .ref (G.1 (.inl (8, 0)))), (1, .ref (G.1 (.inl (1, 1))))] → (hk_sz Z (hk_it B_begin r j (pl, t)).2 ∧ (hk_it B_begin r j (pl, t)).2 (8, 0) 3 = nI (2 ^ (Z.1 1))) → W p l e ({ frames := 3, cells := 0, slots := 0, locals := 64 }) s m ([.ref (G.1 (.inl (8, 0))), .ref (G.1 (.inl (1, 1)))] : List Value).toArray below meth c H locs 0 0 QQ (F0 m 57 ls [])) → W p l e ({ frames := 3, cells := 0, slots := 0, locals := 64 }) s m ([.ref (G.1 (.inl (8, 0))), .ref (G.1 (.inl (1, 1)))] : List Value).toArray below meth c H locs 0 0 QQ (F0 m 16 ls []) := by
    intro r
    induction r with
    | zero =>
      intro j pl t H locs ls QQ hn_begin hI_begin hH hS hl kk
      have hz6 := hI_begin.1.2
      refine lv_iload_n hx hb dX0_begin_16 rfl (lv_at hl 0 rfl) ?_
      refine lv_aload_n hx hb dX0_begin_17 rfl (lv_at hl 3 rfl) ?_
      refine hk_cV (L := (.inl (1, 1))) (As := []) (rest := [.int (nI j)]) hx hb hml hl.1 ht hown hK hH hS (c_size l D G t σ 1 hG.k1_1) ymV_Jx4a65c_size_8abf5 kc_0 hG.k1_1 tw_659 ⟨rfl, rfl⟩ ⟨Nat.le_of_ble_eq_true rfl, Nat.le_of_ble_eq_true rfl⟩ rfl rfl (Nat.le_of_ble_eq_true rfl) dX0_begin_18 ⟨Nat.le_of_ble_eq_true rfl, Nat.le_of_ble_eq_true rfl⟩ (hk_ea (fun H locs hH hS => ?_))
      rw [show F_size t 1 = t (1, 1) 2 from rfl]
      refine lv_icmp_ge (tgt := 57) hx hb dX0_begin_21 (by decide) (fun c_2 => ?_) (fun c_2 => ?_)
      rotate_left
      · exfalso; rw [hI_begin.1.1.2.1] at c_2; first | exact nI_ge (by omega) (by omega) c_2 | exact c_2 (nI_le (by omega) (by omega)) | exact nI_nlt (by omega) (by omega) c_2 | exact c_2 (nI_lt (by omega) (by omega))
      have hiN : j = Z.1 1 := by omega
      rw [hiN] at hl hI_begin
      exact kk H locs ls hH hS (lv_sub hl [0, 1, 2, 3] rfl) hI_begin
    | succ r ih =>
      intro j pl t H locs ls QQ hn_begin hI_begin hH hS hl kk
      have hz6 := hI_begin.1.2
      refine lv_iload_n hx hb dX0_begin_16 rfl (lv_at hl 0 rfl) ?_
      refine lv_aload_n hx hb dX0_begin_17 rfl (lv_at hl 3 rfl) ?_
      refine hk_cV (L := (.inl (1, 1))) (As := []) (rest := [.int (nI j)]) hx hb hml hl.1 ht hown hK hH hS (c_size l D G t σ 1 hG.k1_1) ymV_Jx4a65c_size_8abf5 kc_0 hG.k1_1 tw_659 ⟨rfl, rfl⟩ ⟨Nat.le_of_ble_eq_true rfl, Nat.le_of_ble_eq_true rfl⟩ rfl rfl (Nat.le_of_ble_eq_true rfl) dX0_begin_18 ⟨Nat.le_of_ble_eq_true rfl, Nat.le_of_ble_eq_true rfl⟩ (hk_ea (fun H locs hH hS => ?_))
      rw [show F_size t 1 = t (1, 1) 2 from rfl]
      refine lv_icmp_ge (tgt := 57) hx hb dX0_begin_21 (by decide) (fun c_3 => ?_) (fun c_3 => ?_)
      · exfalso; rw [hI_begin.1.1.2.1] at c_3; first | exact nI_ge (by omega) (by omega) c_3 | exact c_3 (nI_le (by omega) (by omega)) | exact nI_nlt (by omega) (by omega) c_3 | exact c_3 (nI_lt (by omega) (by omega))
      refine lv_iload_n hx hb dX0_begin_24 rfl (lv_at hl 0 rfl) ?_
      refine lv_bipush (v := 6) hx hb dX0_begin_25 (by decide) ?_
      refine lv_icmp_ge (tgt := 57) hx hb dX0_begin_27 (by decide) (fun c_4 => ?_) (fun c_4 => ?_)
      · exfalso; rw [show (6 : Int32) = nI 6 from rfl] at c_4; exact nI_ge (by omega) (by omega) c_4
      refine lv_aload_n hx hb dX0_begin_30 rfl (lv_at hl 2 rfl) ?_
      refine lv_aload_n hx hb dX0_begin_31 rfl (lv_at hl 3 rfl) ?_
      refine lv_iload_n hx hb dX0_begin_32 rfl (lv_at hl 0 rfl) ?_
      refine hk_cV (L := (.inl (1, 1))) (As := [.int (nI j)]) (rest := [.ref (G.1 (.inl (8, 0)))]) hx hb hml hl.1 ht hown hK hH hS (c_lget l D G t σ 1 j (Z.1 1) (nI j) (.ref (G.1 (.inl (10, j)))) hG.k1_1 (hG.a1_1 (by omega)) (hG.k2_1 (by omega)) rfl (by omega) (by have := hI_begin.1.2; omega) (hG.a2_1 _ (by omega)) ⟨_, rfl⟩ hI_begin.1.1.2.1) ymV_Jx4a65c_get_915e3 kc_0 hG.k1_1 tw_660 ⟨rfl, rfl⟩ ⟨Nat.le_of_ble_eq_true rfl, Nat.le_of_ble_eq_true rfl⟩ rfl rfl (Nat.le_of_ble_eq_true rfl) dX0_begin_33 ⟨Nat.le_of_ble_eq_true rfl, Nat.le_of_ble_eq_true rfl⟩ (hk_ea (fun H locs hH hS => ?_))
      refine hk_cast (L := (.inl (10, j))) hx hb ht hown hK hH kc_4 (hG.k10 j (by omega)) tw_661 dX0_begin_36 ?_
      refine hk_geti (L := (.inl (10, j))) (v := t (10, j) 0) hx hb ht hown hK hH kc_4 (hG.k10 j (by omega)) 0 (by decide) rfl tw_311 rfl rfl dX0_begin_39 ?_
      refine lv_iload_n hx hb dX0_begin_42 rfl (lv_at hl 1 rfl) ?_
      refine hk_cV (L := (.inl (8, 0))) (As := [.int (t (10, j) 0), .int pl]) (rest := []) hx hb hml hl.1 ht hown hK hH hS (c_addGang l D G Z t σ (2 ^ j) (t (10, j) 0) pl hG hI_begin.2 (hk_pow (by omega))) ymV_X0_addGang kc_1 hG.k8_0 tw_662 ⟨rfl, rfl⟩ ⟨Nat.le_of_ble_eq_true rfl, Nat.le_of_ble_eq_true rfl⟩ rfl rfl (Nat.le_of_ble_eq_true rfl) dX0_begin_43 ⟨Nat.le_of_ble_eq_true rfl, Nat.le_of_ble_eq_true rfl⟩ (hk_ev (fun H locs hH hS => ?_))
      refine lv_iload_n hx hb dX0_begin_46 rfl (lv_at hl 1 rfl) ?_
      refine lv_bipush (v := 7) hx hb dX0_begin_47 (by decide) ?_
      refine lv_imul hx hb dX0_begin_49 ?_
      refine lv_istore_n (lv' := [(2, .int (pl * 7)), (3, .int (nI j)), (0, .ref (G.1 (.inl (8, 0)))), (1, .ref (G.1 (.inl (1, 1))))]) hx hb dX0_begin_50 rfl hl (by decide) rfl (fun ls hl => ?_)
      refine lv_iinc (v := nI (j + 1)) (lv' := [(3, .int (nI (j + 1))), (2, .int (pl * 7)), (0, .ref (G.1 (.inl (8, 0)))), (1, .ref (G.1 (.inl (1, 1))))]) hx hb dX0_begin_51 hl (k := 1) rfl (nI_1 _) (by decide) rfl (fun ls hl => ?_)
      refine lv_goto (tgt := 16) hx hb dX0_begin_54 (by decide) ?_
      have EB_5 : B_begin j (pl, t) = (pl * 7, (T_addGang t (2 ^ j) (t (10, j) 0) pl)) := by simp only [B_begin]
      have hI2 : (hk_sz Z (T_addGang t (2 ^ j) (t (10, j) 0) pl) ∧ (T_addGang t (2 ^ j) (t (10, j) 0) pl) (8, 0) 3 = nI (2 ^ ((j + 1)))) := by
        exact ⟨hI_begin.1.of (fun j => addGang_o (show (1 : Nat) ≠ 8 by decide)), by rw [addGang_3 (hk_pow (by omega)), Nat.pow_succ, Nat.mul_comm]⟩
      exact ih (j + 1) (pl * 7) (T_addGang t (2 ^ j) (t (10, j) 0) pl) _ _ _ QQ (by omega) hI2 hH hS (lv_sub hl [0, 1, 2, 3] rfl) (fun H locs ls hH hS hl hI_begin => kk H locs ls (by rw [hk_it_s, EB_5]; exact hH) hS (by rw [hk_it_s, EB_5]; exact hl) (by first | exact hI_begin | (rw [hk_it_s, EB_5]; exact hI_begin)))
  refine LP_1 (Z.1 1) 0 1 (hk_u (hk_u τ (8, 0) 3 1) (8, 3) 0 0) _ _ _ _ (by omega) ⟨hs.of (fun j => by rw [hk_u_o (show (1 : Nat) ≠ 8 by decide), hk_u_o (show (1 : Nat) ≠ 8 by decide)]), by simp [hk_u_ap]; rfl⟩ hH hS (lv_sub hl [0, 1, 2, 3] rfl) (fun H locs ls hH hS hl hI_begin => ?_)
  exact hk_vret hx hb hr hlocks hH hS ⟨rfl, rfl, (by simp only [T_begin])⟩ dX0_begin_57
theorem nx_and (a b : Nat) : nI a &&& nI b = nI (a &&& b) := by
  apply Int32.toBitVec_inj.1
  show BitVec.ofNat 32 a &&& BitVec.ofNat 32 b = BitVec.ofNat 32 (a &&& b)
  apply BitVec.eq_of_getLsbD_eq
  intro i hi
  simp [hi]
theorem nx_xor (a b : Nat) : nI a ^^^ nI b = nI (a ^^^ b) := by
  apply Int32.toBitVec_inj.1
  show BitVec.ofNat 32 a ^^^ BitVec.ofNat 32 b = BitVec.ofNat 32 (a ^^^ b)
  apply BitVec.eq_of_getLsbD_eq
  intro i hi
  simp [hi]
theorem offp_step {part : Int32} {q n r : Nat} (hq : part = nI q) (hq64 : q < 64) (hqn : q < n + 1) (h0 : ¬ nI q ≤ 0) : ∃ q2 : Nat, (part - 1) &&& nI (r + 1) = nI q2 ∧ q2 < 64 ∧ q2 < n := by
  have hpos : 1 ≤ q := by
    rcases Nat.eq_zero_or_pos q with h | h
    · subst h; exact absurd (by decide) h0
    · exact h
  refine ⟨(q - 1) &&& (r + 1), ?_, ?_, ?_⟩
  · subst hq
    rw [show (1 : Int32) = nI 1 from rfl, pk_sub hpos]
    exact nx_and _ _
  · exact Nat.lt_of_le_of_lt Nat.and_le_left (by omega)
  · exact Nat.lt_of_le_of_lt Nat.and_le_left (by omega)
theorem offp_in {part : Int32} {q : Nat} (hq : part = nI q) (hq64 : q < 64) : vp_in part 64 := by rw [hq]; exact vp_in_nI hq64 (by omega)
theorem offp_x {part : Int32} {q r : Nat} (hq : part = nI q) (hq64 : q < 64) (hr : r < 64) : vp_in (nI r ^^^ part) 64 := by
  rw [hq]
  have : nI r ^^^ nI q = nI (r ^^^ q) := nx_xor _ _
  rw [this]
  exact vp_in_nI (Nat.xor_lt_two_pow (n := 6) hr hq64) (by omega)
def B_offp (sn : Nat) (g : Int32) (left : Int32) (t : hk_v) (s : Int32 × Int32) : Option (Int32 × Int32) := match s with
  | (best, part) => (if part ≤ 0 then none else some (if best < ((((if left < ((t (8, 1) part.toNatClampNeg) * 12) then left else ((t (8, 1) part.toNatClampNeg) * 12)) * 117649) - ((t (8, 2) part.toNatClampNeg) * (g + 1))) + (t (8, 3) (((nI sn) ^^^ part).toNatClampNeg))) then ((((if left < ((t (8, 1) part.toNatClampNeg) * 12) then left else ((t (8, 1) part.toNatClampNeg) * 12)) * 117649) - ((t (8, 2) part.toNatClampNeg) * (g + 1))) + (t (8, 3) (((nI sn) ^^^ part).toNatClampNeg))) else best, (part - 1) &&& (nI sn)))
def B_offer (g : Int32) (left : Int32)  (r : Nat) (t : hk_v) : hk_v := (hk_u t (8, 3) r ((hk_wh (B_offp r g left t) 64 (t (8, 3) r, nI r)).1))
def T_offer (τ : hk_v) (mm : Nat) (g : Int32) (left : Int32) : hk_v := (hk_dp (B_offer g left) mm τ)
set_option maxHeartbeats 4000000 in
set_option maxRecDepth 100000 in
theorem c_offer (l : Launch) (D : hk_D) (G : hk_G) (Z : hk_Z) (τ σ : hk_v) (mm : Nat) (g : Int32) (left : Int32) (hG : hk_Y D G Z) (hset : τ (8, 0) 3 = nI (mm + 1)) (hm64 : mm < 64) : Met l yX0_offer (hk_ws yX0_offer cX0_offer 8 none) ({ frames := 1, cells := 0, slots := 0, locals := 13 }) (hk_P D G (hk_cm τ σ) [.ref (G.1 (.inl (8, 0))), .int g, .int left]) (hk_Q D (hk_e G (none) (hk_cm (T_offer τ mm g left) σ))) 0 0 (hk_A D) := by
  refine hk_met (by decide +kernel) (Nat.le_of_ble_eq_true rfl) (fun p e s m below meth c hx hb hr hml hlocks ht hown hin hK hH hS ls hl => ?_)
  have hl : lv_has ls 8 [(0, .ref (G.1 (.inl (8, 0)))), (1, .int g), (2, .int left)] := hl
  refine lv_aload_n hx hb dX0_offer_0 rfl (lv_at hl 0 rfl) ?_
  refine hk_geti (L := (.inl (8, 0))) (v := τ (8, 0) 3) hx hb ht hown hK hH kc_1 hG.k8_0 3 (by decide) rfl tw_158 rfl rfl dX0_offer_1 ?_
  refine lv_iconst (v := 1) hx hb dX0_offer_4 (by decide) ?_
  refine lv_isub hx hb dX0_offer_5 ?_
  refine lv_istore_n (lv' := [(3, .int ((τ (8, 0) 3) - 1)), (0, .ref (G.1 (.inl (8, 0)))), (1, .int g), (2, .int left)]) hx hb dX0_offer_6 rfl hl (by decide) rfl (fun ls hl => ?_)
  have LP_1 : ∀ (r : Nat) (t : hk_v) (H : Heap) (locs : List Loc) (ls : Array Slot) (QQ : State → Prop), r ≤ mm → (t (8, 0) 3 = nI (mm + 1)) → hk_H D G (hk_cm t σ) H → va_S (hk_A D) s.heap H locs → lv_has ls 8 [(3, .int (nI r)), (0, .ref (G.1 (.inl (8, 0)))), (1, .int g), (2, .int left)] → (∀ (H : Heap) (locs : List Loc) (ls : Array Slot), hk_H D G (hk_cm (hk_dp (B_offer g left) r t) σ) H → va_S (hk_A D) s.heap H locs → lv_has ls 8 [(3, .int (nI 0)), (0, .ref (G.1 (.inl (8, 0)))), (1, .int g), (2, .int left)] → ((hk_dp (B_offer g left) r t) (8, 0) 3 = nI (mm + 1)) → W p l e ({ frames := 1, cells := 0, slots := 0, locals := 13 }) s m ([.ref (G.1 (.inl (8, 0))), .int g, .int left] : List Value).toArray below meth c H locs 0 0 QQ (F0 m 106 ls [])) → W p l e ({ frames := 1, cells := 0, slots := 0, locals := 13 }) s m ([.ref (G.1 (.inl (8, 0))), .int g, .int left] : List Value).toArray below meth c H locs 0 0 QQ (F0 m 7 ls []) := by
    intro r
    induction r with
    | zero =>
      intro t H locs ls QQ hn_offer hI_offer hH hS hl kk
      refine lv_iload_n hx hb dX0_offer_7 rfl (lv_at hl 0 rfl) ?_
      refine lv_if_le (tgt := 106) hx hb dX0_offer_8 (by decide) (fun c_2 => ?_) (fun c_2 => ?_)
      rotate_left
      · exfalso; first | exact absurd c_2 (by decide) | exact c_2 (by decide)
      exact kk H locs ls hH hS (lv_sub hl [0, 1, 2, 3] rfl) hI_offer
    | succ r ih =>
      intro t H locs ls QQ hn_offer hI_offer hH hS hl kk
      refine lv_iload_n hx hb dX0_offer_7 rfl (lv_at hl 0 rfl) ?_
      refine lv_if_le (tgt := 106) hx hb dX0_offer_8 (by decide) (fun c_3 => ?_) (fun c_3 => ?_)
      · exfalso; first | exact nI_pos (by omega) c_3 | exact nI_nle (by omega) (by omega) c_3 | exact c_3 (nI_lt (a := 0) (by omega) (by omega)) | exact c_3 (nI_pos' (by omega))
      refine lv_aload_n hx hb dX0_offer_11 rfl (lv_at hl 1 rfl) ?_
      refine hk_getr (L := (.inl (8, 0))) (v := .ref (G.1 (.inl (8, 3)))) hx hb ht hown hK hH kc_1 hG.k8_0 2 (by decide) rfl tw_157 rfl hG.r8_2 dX0_offer_12 ?_
      refine lv_iload_n hx hb dX0_offer_15 rfl (lv_at hl 0 rfl) ?_
      refine hk_ild (L := (.inl (8, 3))) (v := t (8, 3) (r + 1)) hx hb hK hH hG.k8_3 (vp_in_nI (by omega) (by omega)) (by rw [nI_clamp (by omega)]; rfl) dX0_offer_16 ?_
      refine lv_istore (lv' := [(4, .int (t (8, 3) (r + 1))), (3, .int (nI (r + 1))), (0, .ref (G.1 (.inl (8, 0)))), (1, .int g), (2, .int left)]) hx hb dX0_offer_17 hl (by decide) rfl (fun ls hl => ?_)
      refine lv_iload_n hx hb dX0_offer_19 rfl (lv_at hl 1 rfl) ?_
      refine lv_istore (lv' := [(5, .int (nI (r + 1))), (4, .int (t (8, 3) (r + 1))), (3, .int (nI (r + 1))), (0, .ref (G.1 (.inl (8, 0)))), (1, .int g), (2, .int left)]) hx hb dX0_offer_20 hl (by decide) rfl (fun ls hl => ?_)
      have LP_4 : ∀ (n : Nat) (best : Int32) (part : Int32) (H : Heap) (locs : List Loc) (ls : Array Slot) (QQ : State → Prop), ((∃ q : Nat, part = nI q ∧ q < 64 ∧ q < n)) → hk_H D G (hk_cm t σ) H → va_S (hk_A D) s.heap H locs → lv_has ls 8 [(5, .int part), (4, .int best), (3, .int (nI (r + 1))), (0, .ref (G.1 (.inl (8, 0)))), (1, .int g), (2, .int left)] → (∀ (H : Heap) (locs : List Loc) (ls : Array Slot), hk_H D G (hk_cm t σ) H → va_S (hk_A D) s.heap H locs → lv_has ls 8 [(5, .int ((hk_wh (B_offp (r + 1) g left t) n (best, part)).2)), (4, .int ((hk_wh (B_offp (r + 1) g left t) n (best, part)).1)), (3, .int (nI (r + 1))), (0, .ref (G.1 (.inl (8, 0)))), (1, .int g), (2, .int left)] → W p l e ({ frames := 1, cells := 0, slots := 0, locals := 13 }) s m ([.ref (G.1 (.inl (8, 0))), .int g, .int left] : List Value).toArray below meth c H locs 0 0 QQ (F0 m 92 ls [])) → W p l e ({ frames := 1, cells := 0, slots := 0, locals := 13 }) s m ([.ref (G.1 (.inl (8, 0))), .int g, .int left] : List Value).toArray below meth c H locs 0 0 QQ (F0 m 22 ls []) := by
        intro n
        induction n with
        | zero =>
          intro best part H locs ls QQ hI hH hS hl kk
          obtain ⟨q, -, -, h⟩ := hI; omega
        | succ n ih =>
          intro best part H locs ls QQ hI hH hS hl kk
          obtain ⟨q, hq, hq64, hqn⟩ := hI
          refine lv_iload hx hb dX0_offer_22 (lv_at hl 0 rfl) ?_
          refine lv_if_le (tgt := 92) hx hb dX0_offer_24 (by decide) (fun c_5 => ?_) (fun c_5 => ?_)
          · have EB_6 : (B_offp (r + 1) g left t) (best, part) = none := by simp only [B_offp, if_pos c_5]
            exact kk H locs ls hH hS (by rw [hk_wh_n EB_6]; exact lv_sub hl [0, 1, 2, 3, 4, 5] rfl)
          · refine lv_aload_n hx hb dX0_offer_27 rfl (lv_at hl 3 rfl) ?_
            refine hk_getr (L := (.inl (8, 0))) (v := .ref (G.1 (.inl (8, 1)))) hx hb ht hown hK hH kc_1 hG.k8_0 0 (by decide) rfl tw_155 rfl hG.r8_0 dX0_offer_28 ?_
            refine lv_iload hx hb dX0_offer_31 (lv_at hl 0 rfl) ?_
            refine hk_ild (L := (.inl (8, 1))) (v := t (8, 1) part.toNatClampNeg) hx hb hK hH hG.k8_1 (offp_in hq hq64) rfl dX0_offer_33 ?_
            refine lv_bipush (v := 12) hx hb dX0_offer_34 (by decide) ?_
            refine lv_imul hx hb dX0_offer_36 ?_
            refine lv_iload_n hx hb dX0_offer_37 rfl (lv_at hl 5 rfl) ?_
            refine va_mmin hx hb (hml.trans hl.1.symm) hown (ht _ tw_666) (ht _ tw_293) (ht _ tw_45) (ht _ tw_294) (Nat.le_of_ble_eq_true rfl) (Nat.le_of_ble_eq_true rfl) (Nat.zero_le _) (Nat.zero_le _) dX0_offer_38 ?_
            refine lv_istore (lv' := [(6, .int (if left < ((t (8, 1) part.toNatClampNeg) * 12) then left else ((t (8, 1) part.toNatClampNeg) * 12))), (5, .int part), (4, .int best), (3, .int (nI (r + 1))), (0, .ref (G.1 (.inl (8, 0)))), (1, .int g), (2, .int left)]) hx hb dX0_offer_41 hl (by decide) rfl (fun ls hl => ?_)
            refine lv_iload hx hb dX0_offer_43 (lv_at hl 0 rfl) ?_
            refine lv_ldc (v := 117649) hx hb hown (ht _ tw_671) dX0_offer_45 ?_
            refine lv_imul hx hb dX0_offer_47 ?_
            refine lv_aload_n hx hb dX0_offer_48 rfl (lv_at hl 4 rfl) ?_
            refine hk_getr (L := (.inl (8, 0))) (v := .ref (G.1 (.inl (8, 2)))) hx hb ht hown hK hH kc_1 hG.k8_0 1 (by decide) rfl tw_156 rfl hG.r8_1 dX0_offer_49 ?_
            refine lv_iload hx hb dX0_offer_52 (lv_at hl 1 rfl) ?_
            refine hk_ild (L := (.inl (8, 2))) (v := t (8, 2) part.toNatClampNeg) hx hb hK hH hG.k8_2 (offp_in hq hq64) rfl dX0_offer_54 ?_
            refine lv_iload_n hx hb dX0_offer_55 rfl (lv_at hl 5 rfl) ?_
            refine lv_iconst (v := 1) hx hb dX0_offer_56 (by decide) ?_
            refine lv_iadd hx hb dX0_offer_57 ?_
            refine lv_imul hx hb dX0_offer_58 ?_
            refine lv_isub hx hb dX0_offer_59 ?_
            refine lv_istore (lv' := [(7, .int (((if left < ((t (8, 1) part.toNatClampNeg) * 12) then left else ((t (8, 1) part.toNatClampNeg) * 12)) * 117649) - ((t (8, 2) part.toNatClampNeg) * (g + 1)))), (6, .int (if left < ((t (8, 1) part.toNatClampNeg) * 12) then left else ((t (8, 1) part.toNatClampNeg) * 12))), (5, .int part), (4, .int best), (3, .int (nI (r + 1))), (0, .ref (G.1 (.inl (8, 0)))), (1, .int g), (2, .int left)]) hx hb dX0_offer_60 hl (by decide) rfl (fun ls hl => ?_)
            refine lv_iload hx hb dX0_offer_62 (lv_at hl 3 rfl) ?_
            refine lv_iload hx hb dX0_offer_64 (lv_at hl 0 rfl) ?_
            refine lv_aload_n hx hb dX0_offer_66 rfl (lv_at hl 5 rfl) ?_
            refine hk_getr (L := (.inl (8, 0))) (v := .ref (G.1 (.inl (8, 3)))) hx hb ht hown hK hH kc_1 hG.k8_0 2 (by decide) rfl tw_157 rfl hG.r8_2 dX0_offer_67 ?_
            refine lv_iload_n hx hb dX0_offer_70 rfl (lv_at hl 4 rfl) ?_
            refine lv_iload hx hb dX0_offer_71 (lv_at hl 2 rfl) ?_
            refine lv_ixor hx hb dX0_offer_73 ?_
            refine hk_ild (L := (.inl (8, 3))) (v := t (8, 3) (((nI (r + 1)) ^^^ part).toNatClampNeg)) hx hb hK hH hG.k8_3 (offp_x hq hq64 (by omega)) rfl dX0_offer_74 ?_
            refine lv_iadd hx hb dX0_offer_75 ?_
            refine va_mmax hx hb (hml.trans hl.1.symm) hown (ht _ tw_672) (ht _ tw_260) (ht _ tw_45) (ht _ tw_261) (Nat.le_of_ble_eq_true rfl) (Nat.le_of_ble_eq_true rfl) (Nat.zero_le _) (Nat.zero_le _) dX0_offer_76 ?_
            refine lv_istore (lv' := [(4, .int (if best < ((((if left < ((t (8, 1) part.toNatClampNeg) * 12) then left else ((t (8, 1) part.toNatClampNeg) * 12)) * 117649) - ((t (8, 2) part.toNatClampNeg) * (g + 1))) + (t (8, 3) (((nI (r + 1)) ^^^ part).toNatClampNeg))) then ((((if left < ((t (8, 1) part.toNatClampNeg) * 12) then left else ((t (8, 1) part.toNatClampNeg) * 12)) * 117649) - ((t (8, 2) part.toNatClampNeg) * (g + 1))) + (t (8, 3) (((nI (r + 1)) ^^^ part).toNatClampNeg))) else best)), (7, .int (((if left < ((t (8, 1) part.toNatClampNeg) * 12) then left else ((t (8, 1) part.toNatClampNeg) * 12)) * 117649) - ((t (8, 2) part.toNatClampNeg) * (g + 1)))), (6, .int (if left < ((t (8, 1) part.toNatClampNeg) * 12) then left else ((t (8, 1) part.toNatClampNeg) * 12))), (5, .int part), (3, .int (nI (r + 1))), (0, .ref (G.1 (.inl (8, 0)))), (1, .int g), (2, .int left)]) hx hb dX0_offer_79 hl (by decide) rfl (fun ls hl => ?_)
            refine lv_iload hx hb dX0_offer_81 (lv_at hl 3 rfl) ?_
            refine lv_iconst (v := 1) hx hb dX0_offer_83 (by decide) ?_
            refine lv_isub hx hb dX0_offer_84 ?_
            refine lv_iload_n hx hb dX0_offer_85 rfl (lv_at hl 4 rfl) ?_
            refine lv_iand hx hb dX0_offer_86 ?_
            refine lv_istore (lv' := [(5, .int ((part - 1) &&& (nI (r + 1)))), (4, .int (if best < ((((if left < ((t (8, 1) part.toNatClampNeg) * 12) then left else ((t (8, 1) part.toNatClampNeg) * 12)) * 117649) - ((t (8, 2) part.toNatClampNeg) * (g + 1))) + (t (8, 3) (((nI (r + 1)) ^^^ part).toNatClampNeg))) then ((((if left < ((t (8, 1) part.toNatClampNeg) * 12) then left else ((t (8, 1) part.toNatClampNeg) * 12)) * 117649) - ((t (8, 2) part.toNatClampNeg) * (g + 1))) + (t (8, 3) (((nI (r + 1)) ^^^ part).toNatClampNeg))) else best)), (7, .int (((if left < ((t (8, 1) part.toNatClampNeg) * 12) then left else ((t (8, 1) part.toNatClampNeg) * 12)) * 117649) - ((t (8, 2) part.toNatClampNeg) * (g + 1)))), (6, .int (if left < ((t (8, 1) part.toNatClampNeg) * 12) then left else ((t (8, 1) part.toNatClampNeg) * 12))), (3, .int (nI (r + 1))), (0, .ref (G.1 (.inl (8, 0)))), (1, .int g), (2, .int left)]) hx hb dX0_offer_87 hl (by decide) rfl (fun ls hl => ?_)
            refine lv_goto (tgt := 22) hx hb dX0_offer_89 (by decide) ?_
            have EB_7 : (B_offp (r + 1) g left t) (best, part) = some (if best < ((((if left < ((t (8, 1) part.toNatClampNeg) * 12) then left else ((t (8, 1) part.toNatClampNeg) * 12)) * 117649) - ((t (8, 2) part.toNatClampNeg) * (g + 1))) + (t (8, 3) (((nI (r + 1)) ^^^ part).toNatClampNeg))) then ((((if left < ((t (8, 1) part.toNatClampNeg) * 12) then left else ((t (8, 1) part.toNatClampNeg) * 12)) * 117649) - ((t (8, 2) part.toNatClampNeg) * (g + 1))) + (t (8, 3) (((nI (r + 1)) ^^^ part).toNatClampNeg))) else best, (part - 1) &&& (nI (r + 1))) := by simp only [B_offp, if_neg c_5]
            have hI2 : (∃ q : Nat, (part - 1) &&& nI (r + 1) = nI q ∧ q < 64 ∧ q < n) := offp_step hq hq64 hqn (by rw [hq] at c_5; exact c_5)
            exact ih (if best < ((((if left < ((t (8, 1) part.toNatClampNeg) * 12) then left else ((t (8, 1) part.toNatClampNeg) * 12)) * 117649) - ((t (8, 2) part.toNatClampNeg) * (g + 1))) + (t (8, 3) (((nI (r + 1)) ^^^ part).toNatClampNeg))) then ((((if left < ((t (8, 1) part.toNatClampNeg) * 12) then left else ((t (8, 1) part.toNatClampNeg) * 12)) * 117649) - ((t (8, 2) part.toNatClampNeg) * (g + 1))) + (t (8, 3) (((nI (r + 1)) ^^^ part).toNatClampNeg))) else best) ((part - 1) &&& (nI (r + 1))) _ _ _ QQ hI2 hH hS (lv_sub hl [0, 1, 4, 5, 6, 7] rfl) (fun H locs ls hH hS hl => kk H locs ls hH hS (by rw [hk_wh_s EB_7]; exact hl))
      refine LP_4 64 (t (8, 3) (r + 1)) (nI (r + 1)) _ _ _ _ ⟨r + 1, rfl, by omega, by omega⟩ hH hS (lv_sub hl [0, 1, 2, 3, 4, 5] rfl) (fun H locs ls hH hS hl => ?_)
      refine lv_aload_n hx hb dX0_offer_92 rfl (lv_at hl 3 rfl) ?_
      refine hk_getr (L := (.inl (8, 0))) (v := .ref (G.1 (.inl (8, 3)))) hx hb ht hown hK hH kc_1 hG.k8_0 2 (by decide) rfl tw_157 rfl hG.r8_2 dX0_offer_93 ?_
      refine lv_iload_n hx hb dX0_offer_96 rfl (lv_at hl 2 rfl) ?_
      refine lv_iload hx hb dX0_offer_97 (lv_at hl 1 rfl) ?_
      refine hk_ist (L := (.inl (8, 3))) hx hb hK hH hS hG.k8_3 (vp_in_nI (by omega) (by omega)) dX0_offer_99 (fun H locs hH hS => ?_)
      rw [hk_up_l, nI_clamp (by omega)] at hH
      refine lv_iinc (v := nI r) (lv' := [(3, .int (nI r)), (5, .int ((hk_wh (B_offp (r + 1) g left t) 64 (t (8, 3) (r + 1), nI (r + 1))).2)), (4, .int ((hk_wh (B_offp (r + 1) g left t) 64 (t (8, 3) (r + 1), nI (r + 1))).1)), (0, .ref (G.1 (.inl (8, 0)))), (1, .int g), (2, .int left)]) hx hb dX0_offer_100 hl (k := 2) rfl (by rw [hk_m1, nI_pred]) (by decide) rfl (fun ls hl => ?_)
      refine lv_goto (tgt := 7) hx hb dX0_offer_103 (by decide) ?_
      have EB_8 : (B_offer g left) (r + 1) t = (hk_u t (8, 3) (r + 1) ((hk_wh (B_offp (r + 1) g left t) 64 (t (8, 3) (r + 1), nI (r + 1))).1)) := by simp only [B_offer]
      have hI2 : ((hk_u t (8, 3) (r + 1) ((hk_wh (B_offp (r + 1) g left t) 64 (t (8, 3) (r + 1), nI (r + 1))).1)) (8, 0) 3 = nI (mm + 1)) := by
        simpa [hk_u_ap] using hI_offer
      exact ih (hk_u t (8, 3) (r + 1) ((hk_wh (B_offp (r + 1) g left t) 64 (t (8, 3) (r + 1), nI (r + 1))).1)) _ _ _ QQ (by omega) hI2 hH hS (lv_sub hl [0, 3, 4, 5] rfl) (fun H locs ls hH hS hl hI_offer => kk H locs ls (by rw [hk_dp_s, EB_8]; exact hH) hS hl (by first | exact hI_offer | (rw [hk_dp_s, EB_8]; exact hI_offer)))
  rw [hset, nI_pred] at hl
  refine LP_1 mm τ _ _ _ _ (Nat.le_refl _) hset hH hS (lv_sub hl [0, 1, 2, 3] rfl) (fun H locs ls hH hS hl hI_offer => ?_)
  exact hk_vret hx hb hr hlocks hH hS ⟨rfl, rfl, (by simp only [T_offer])⟩ dX0_offer_106
def F_bushels (τ : hk_v) (mm : Nat) : Int32 := (((τ (8, 3) (((τ (8, 0) 3) - 1).toNatClampNeg)) + 117649) - 1) / 117649
set_option maxHeartbeats 4000000 in
set_option maxRecDepth 100000 in
theorem c_bushels (l : Launch) (D : hk_D) (G : hk_G) (Z : hk_Z) (τ σ : hk_v) (mm : Nat) (hG : hk_Y D G Z) (hset : τ (8, 0) 3 = nI (mm + 1)) (hm64 : mm < 64) : Met l yX0_bushels (hk_ws yX0_bushels cX0_bushels 1 (some FieldType.int)) ({ frames := 0, cells := 0, slots := 0, locals := 0 }) (hk_P D G (hk_cm τ σ) [.ref (G.1 (.inl (8, 0)))]) (hk_Q D (hk_e G (some (.int (F_bushels τ mm))) (hk_cm τ σ))) 0 0 (hk_A D) := by
  refine hk_met (by decide +kernel) (Nat.le_of_ble_eq_true rfl) (fun p e s m below meth c hx hb hr hml hlocks ht hown hin hK hH hS ls hl => ?_)
  have hl : lv_has ls 1 [(0, .ref (G.1 (.inl (8, 0))))] := hl
  refine lv_aload_n hx hb dX0_bushels_0 rfl (lv_at hl 0 rfl) ?_
  refine hk_getr (L := (.inl (8, 0))) (v := .ref (G.1 (.inl (8, 3)))) hx hb ht hown hK hH kc_1 hG.k8_0 2 (by decide) rfl tw_157 rfl hG.r8_2 dX0_bushels_1 ?_
  refine lv_aload_n hx hb dX0_bushels_4 rfl (lv_at hl 0 rfl) ?_
  refine hk_geti (L := (.inl (8, 0))) (v := τ (8, 0) 3) hx hb ht hown hK hH kc_1 hG.k8_0 3 (by decide) rfl tw_158 rfl rfl dX0_bushels_5 ?_
  refine lv_iconst (v := 1) hx hb dX0_bushels_8 (by decide) ?_
  refine lv_isub hx hb dX0_bushels_9 ?_
  refine hk_ild (L := (.inl (8, 3))) (v := τ (8, 3) (((τ (8, 0) 3) - 1).toNatClampNeg)) hx hb hK hH hG.k8_3 (by rw [hset, nI_pred]; exact vp_in_nI hm64 (by omega)) rfl dX0_bushels_10 ?_
  refine lv_ldc (v := 117649) hx hb hown (ht _ tw_671) dX0_bushels_11 ?_
  refine lv_iadd hx hb dX0_bushels_13 ?_
  refine lv_iconst (v := 1) hx hb dX0_bushels_14 (by decide) ?_
  refine lv_isub hx hb dX0_bushels_15 ?_
  refine lv_ldc (v := 117649) hx hb hown (ht _ tw_671) dX0_bushels_16 ?_
  refine lv_idiv hx hb dX0_bushels_18 (by decide) ?_
  exact hk_iret hx hb hr hlocks hH hS ⟨(by simp only [F_bushels]), rfl, rfl⟩ dX0_bushels_19
theorem ymV_X0_bushels : hk_mV yX0_bushels cX0_bushels 1 (some FieldType.int) RX0 0 := ⟨tw_676, tw_674, tw_675, tw_41, rfl, by decide, by decide, by decide +kernel⟩
def F_number (τ : hk_v) (mm : Nat) : Int32 := ((F_bushels τ mm) * 117649) - (τ (8, 3) (((τ (8, 0) 3) - 1).toNatClampNeg))
set_option maxHeartbeats 4000000 in
set_option maxRecDepth 100000 in
theorem c_number (l : Launch) (D : hk_D) (G : hk_G) (Z : hk_Z) (τ σ : hk_v) (mm : Nat) (hG : hk_Y D G Z) (hset : τ (8, 0) 3 = nI (mm + 1)) (hm64 : mm < 64) : Met l yX0_number (hk_ws yX0_number cX0_number 1 (some FieldType.int)) ({ frames := 1, cells := 0, slots := 0, locals := 20 }) (hk_P D G (hk_cm τ σ) [.ref (G.1 (.inl (8, 0)))]) (hk_Q D (hk_e G (some (.int (F_number τ mm))) (hk_cm τ σ))) 0 0 (hk_A D) := by
  refine hk_met (by decide +kernel) (Nat.le_of_ble_eq_true rfl) (fun p e s m below meth c hx hb hr hml hlocks ht hown hin hK hH hS ls hl => ?_)
  have hl : lv_has ls 1 [(0, .ref (G.1 (.inl (8, 0))))] := hl
  refine lv_aload_n hx hb dX0_number_0 rfl (lv_at hl 0 rfl) ?_
  refine hk_cV (L := (.inl (8, 0))) (As := []) (rest := []) hx hb hml hl.1 ht hown hK hH hS (c_bushels l D G Z τ σ mm hG hset hm64) ymV_X0_bushels kc_1 hG.k8_0 tw_681 ⟨rfl, rfl⟩ ⟨Nat.le_of_ble_eq_true rfl, Nat.le_of_ble_eq_true rfl⟩ rfl rfl (Nat.le_of_ble_eq_true rfl) dX0_number_1 ⟨Nat.le_of_ble_eq_true rfl, Nat.le_of_ble_eq_true rfl⟩ (hk_ea (fun H locs hH hS => ?_))
  refine lv_ldc (v := 117649) hx hb hown (ht _ tw_671) dX0_number_4 ?_
  refine lv_imul hx hb dX0_number_6 ?_
  refine lv_aload_n hx hb dX0_number_7 rfl (lv_at hl 0 rfl) ?_
  refine hk_getr (L := (.inl (8, 0))) (v := .ref (G.1 (.inl (8, 3)))) hx hb ht hown hK hH kc_1 hG.k8_0 2 (by decide) rfl tw_157 rfl hG.r8_2 dX0_number_8 ?_
  refine lv_aload_n hx hb dX0_number_11 rfl (lv_at hl 0 rfl) ?_
  refine hk_geti (L := (.inl (8, 0))) (v := τ (8, 0) 3) hx hb ht hown hK hH kc_1 hG.k8_0 3 (by decide) rfl tw_158 rfl rfl dX0_number_12 ?_
  refine lv_iconst (v := 1) hx hb dX0_number_15 (by decide) ?_
  refine lv_isub hx hb dX0_number_16 ?_
  refine hk_ild (L := (.inl (8, 3))) (v := τ (8, 3) (((τ (8, 0) 3) - 1).toNatClampNeg)) hx hb hK hH hG.k8_3 (by rw [hset, nI_pred]; exact vp_in_nI hm64 (by omega)) rfl dX0_number_17 ?_
  refine lv_isub hx hb dX0_number_18 ?_
  exact hk_iret hx hb hr hlocks hH hS ⟨(by simp only [F_number]), rfl, rfl⟩ dX0_number_19
theorem hk_dp_inv {α : Type} {f : Nat → α → α} (I : α → Prop) (hs : ∀ j t, I t → I (f j t)) : ∀ (n : Nat) (s : α), I s → I (hk_dp f n s)
  | 0, _, h => h
  | n + 1, s, h => hk_dp_inv I hs n (f (n + 1) s) (hs _ _ h)
theorem offer_o {mm : Nat} {g left : Int32} {t : hk_v} {q : Nat × Nat} {i : Nat} (h : q ≠ (8, 3)) : T_offer t mm g left q i = t q i := by
  unfold T_offer
  refine hk_dp_inv (fun s => s q i = t q i) (fun j s hs => ?_) mm t rfl
  unfold B_offer
  rw [hk_u_ap, if_neg (fun e => h e.1)]
  exact hs
theorem begin_in (Z : hk_Z) (τ : hk_v) (n : Nat) (hn : n ≤ 6) (p : Int32) (s : hk_v) (h : s (8, 0) 3 = nI 1) : (∀ q i, q.1 ≠ 8 → (hk_it B_begin n 0 (p, s)).2 q i = s q i) ∧ (hk_it B_begin n 0 (p, s)).2 (8, 0) 3 = nI (2 ^ n) := by
  have := hk_it_inv (f := B_begin) (fun j x => (∀ q i, q.1 ≠ 8 → x.2 q i = s q i) ∧ x.2 (8, 0) 3 = nI (2 ^ j)) n 0 (p, s) ⟨fun _ _ _ => rfl, h⟩ (fun j x _ hj hI => by
    obtain ⟨pl, t⟩ := x
    refine ⟨fun q i hq => ?_, ?_⟩
    · show T_addGang t (2 ^ j) (t (10, j) 0) pl q i = _
      rw [addGang_o hq]; exact hI.1 q i hq
    · show T_addGang t (2 ^ j) (t (10, j) 0) pl (8, 0) 3 = _
      rw [addGang_3 (hk_pow (by omega)), Nat.pow_succ, Nat.mul_comm])
  rw [Nat.zero_add] at this
  exact this
theorem begin_o {Z : hk_Z} {τ : hk_v} (hn : Z.1 1 ≤ 6) {q : Nat × Nat} {i : Nat} (h : q.1 ≠ 8) : T_begin Z τ q i = τ q i := by
  unfold T_begin
  rw [(begin_in Z τ (Z.1 1) hn 1 _ rfl).1 q i h, hk_u_o h, hk_u_o h]
theorem begin_3 {Z : hk_Z} {τ : hk_v} (hn : Z.1 1 ≤ 6) : T_begin Z τ (8, 0) 3 = nI (2 ^ Z.1 1) := by
  unfold T_begin
  exact (begin_in Z τ (Z.1 1) hn 1 _ rfl).2
theorem hk_pow1 {n : Nat} (h : n ≤ 6) : 2 ^ n - 1 < 64 ∧ 2 ^ n = 2 ^ n - 1 + 1 := by
  have : ∀ j : Fin 7, 2 ^ j.val - 1 < 64 ∧ 2 ^ j.val = 2 ^ j.val - 1 + 1 := by decide
  exact this ⟨n, by omega⟩
theorem ymV_X0_begin : hk_mV yX0_begin cX0_begin 4 none RX0 1 := ⟨tw_658, tw_656, tw_657, tw_41, rfl, by decide, by decide, by decide +kernel⟩
theorem ymV_X0_offer : hk_mV yX0_offer cX0_offer 8 none RX0 2 := ⟨tw_670, tw_668, tw_669, tw_41, rfl, by decide, by decide, by decide +kernel⟩
theorem ymV_X0_number : hk_mV yX0_number cX0_number 1 (some FieldType.int) RX0 0 := ⟨tw_680, tw_678, tw_679, tw_41, rfl, by decide, by decide, by decide +kernel⟩
def B_most (day : Int32) (Z : hk_Z) (j : Nat) (t : hk_v) : hk_v := (if (F_isRipe t j day) = 0 then t else (T_offer t (2 ^ Z.1 1 - 1) (nI j) (t (9, j) 2)))
def F_most (Z : hk_Z) (τ : hk_v) (day : Int32) (w : Int32) : Int32 := (if (hk_in day 0 40) = 0 then (-1) else (if (hk_in w 0 1) = 0 then (-1) else (if w = 0 then F_bushels (hk_it (B_most day Z) (Z.1 0) 0 (T_begin Z τ)) (2 ^ Z.1 1 - 1) else F_number (hk_it (B_most day Z) (Z.1 0) 0 (T_begin Z τ)) (2 ^ Z.1 1 - 1))))
def T_most (Z : hk_Z) (τ : hk_v) (day : Int32) (w : Int32) : hk_v := (if (hk_in day 0 40) = 0 then τ else (if (hk_in w 0 1) = 0 then τ else (hk_it (B_most day Z) (Z.1 0) 0 (T_begin Z τ))))
set_option maxHeartbeats 4000000 in
set_option maxRecDepth 100000 in
theorem c_most (l : Launch) (D : hk_D) (G : hk_G) (Z : hk_Z) (τ σ : hk_v) (day : Int32) (w : Int32) (hG : hk_Y D G Z) (hs : hk_sz Z τ) (hna : Z.1 1 ≤ 6) : Met l yX10_most (hk_ws yX10_most cX10_most 5 (some FieldType.int)) ({ frames := 4, cells := 0, slots := 0, locals := 87 }) (hk_P D G (hk_cm τ σ) [.ref (G.1 (.inl (0, 0))), .int day, .int w]) (hk_Q D (hk_e G (some (.int (F_most Z τ day w))) (hk_cm (T_most Z τ day w) σ))) 0 0 (hk_A D) := by
  refine hk_met (by decide +kernel) (Nat.le_of_ble_eq_true rfl) (fun p e s m below meth c hx hb hr hml hlocks ht hown hin hK hH hS ls hl => ?_)
  have hl : lv_has ls 5 [(0, .ref (G.1 (.inl (0, 0)))), (1, .int day), (2, .int w)] := hl
  refine lv_iload_n hx hb dX10_most_0 rfl (lv_at hl 1 rfl) ?_
  refine lv_iconst (v := 0) hx hb dX10_most_1 (by decide) ?_
  refine lv_bipush (v := 40) hx hb dX10_most_2 (by decide) ?_
  refine hk_cS (As := [.int day, .int 0, .int 40]) (rest := []) hx hb hml hl.1 ht hown hK hH hS (c_within l D G τ σ day 0 40) ymS_X10_within tw_206 ⟨rfl, rfl⟩ ⟨Nat.le_of_ble_eq_true rfl, Nat.le_of_ble_eq_true rfl⟩ rfl rfl (Nat.le_of_ble_eq_true rfl) dX10_most_4 ⟨Nat.le_of_ble_eq_true rfl, Nat.le_of_ble_eq_true rfl⟩ (hk_ea (fun H locs hH hS => ?_))
  refine lv_if_eq (tgt := 19) hx hb dX10_most_7 (by decide) (fun c_1 => ?_) (fun c_1 => ?_)
  · refine lv_iconst (v := -1) hx hb dX10_most_19 (by decide) ?_
    exact hk_iret hx hb hr hlocks hH hS ⟨(by simp only [F_most, if_pos c_1]), rfl, (by simp only [T_most, if_pos c_1])⟩ dX10_most_20
  · refine lv_iload_n hx hb dX10_most_10 rfl (lv_at hl 2 rfl) ?_
    refine lv_iconst (v := 0) hx hb dX10_most_11 (by decide) ?_
    refine lv_iconst (v := 1) hx hb dX10_most_12 (by decide) ?_
    refine hk_cS (As := [.int w, .int 0, .int 1]) (rest := []) hx hb hml hl.1 ht hown hK hH hS (c_within l D G τ σ w 0 1) ymS_X10_within tw_206 ⟨rfl, rfl⟩ ⟨Nat.le_of_ble_eq_true rfl, Nat.le_of_ble_eq_true rfl⟩ rfl rfl (Nat.le_of_ble_eq_true rfl) dX10_most_13 ⟨Nat.le_of_ble_eq_true rfl, Nat.le_of_ble_eq_true rfl⟩ (hk_ea (fun H locs hH hS => ?_))
    refine lv_if_ne (tgt := 21) hx hb dX10_most_16 (by decide) (fun c_2 => ?_) (fun c_2 => ?_)
    · refine lv_aload_n hx hb dX10_most_21 rfl (lv_at hl 0 rfl) ?_
      refine hk_getr (L := (.inl (0, 0))) (v := .ref (G.1 (.inl (8, 0)))) hx hb ht hown hK hH kc_11 hG.k0 7 (by decide) rfl tw_175 rfl hG.r0_7 dX10_most_22 ?_
      refine lv_aload_n hx hb dX10_most_25 rfl (lv_at hl 0 rfl) ?_
      refine hk_getr (L := (.inl (0, 0))) (v := .ref (G.1 (.inl (1, 1)))) hx hb ht hown hK hH kc_11 hG.k0 1 (by decide) rfl tw_169 rfl hG.r0_1 dX10_most_26 ?_
      refine hk_cV (L := (.inl (8, 0))) (As := [.ref (G.1 (.inl (1, 1)))]) (rest := []) hx hb hml hl.1 ht hown hK hH hS (c_begin l D G Z τ σ hG hs) ymV_X0_begin kc_1 hG.k8_0 tw_655 ⟨rfl, rfl⟩ ⟨Nat.le_of_ble_eq_true rfl, Nat.le_of_ble_eq_true rfl⟩ rfl rfl (Nat.le_of_ble_eq_true rfl) dX10_most_29 ⟨Nat.le_of_ble_eq_true rfl, Nat.le_of_ble_eq_true rfl⟩ (hk_ev (fun H locs hH hS => ?_))
      refine lv_iconst (v := 0) hx hb dX10_most_32 (by decide) ?_
      refine lv_istore_n (lv' := [(3, .int 0), (0, .ref (G.1 (.inl (0, 0)))), (1, .int day), (2, .int w)]) hx hb dX10_most_33 rfl hl (by decide) rfl (fun ls hl => ?_)
      have LP_3 : ∀ (r j : Nat) (t : hk_v) (H : Heap) (locs : List Loc) (ls : Array Slot) (QQ : State → Prop), j + r = Z.1 0 → (hk_sz Z t ∧ t (8, 0) 3 = nI (2 ^ Z.1 1)) → hk_H D G (hk_cm t σ) H → va_S (hk_A D) s.heap H locs → lv_has ls 5 [(3, .int (nI j)), (0, .ref (G.1 (.inl (0, 0)))), (1, .int day), (2, .int w)] → (∀ (H : Heap) (locs : List Loc) (ls : Array Slot), hk_H D G (hk_cm (hk_it (B_most day Z) r j t) σ) H → va_S (hk_A D) s.heap H locs → lv_has ls 5 [(3, .int (nI (Z.1 0))), (0, .ref (G.1 (.inl (0, 0)))), (1, .int day), (2, .int w)] → (hk_sz Z (hk_it (B_most day Z) r j t) ∧ (hk_it (B_most day Z) r j t) (8, 0) 3 = nI (2 ^ Z.1 1)) → W p l e ({ frames := 4, cells := 0, slots := 0, locals := 87 }) s m ([.ref (G.1 (.inl (0, 0))), .int day, .int w] : List Value).toArray below meth c H locs 0 0 QQ (F0 m 86 ls [])) → W p l e ({ frames := 4, cells := 0, slots := 0, locals := 87 }) s m ([.ref (G.1 (.inl (0, 0))), .int day, .int w] : List Value).toArray below meth c H locs 0 0 QQ (F0 m 34 ls []) := by
        intro r
        induction r with
        | zero =>
          intro j t H locs ls QQ hn_most hI_most hH hS hl kk
          have hz6 := hI_most.1.2
          have hna := hz6.2.1
          refine lv_iload_n hx hb dX10_most_34 rfl (lv_at hl 0 rfl) ?_
          refine lv_aload_n hx hb dX10_most_35 rfl (lv_at hl 1 rfl) ?_
          refine hk_getr (L := (.inl (0, 0))) (v := .ref (G.1 (.inl (1, 0)))) hx hb ht hown hK hH kc_11 hG.k0 0 (by decide) rfl tw_168 rfl hG.r0_0 dX10_most_36 ?_
          refine hk_cV (L := (.inl (1, 0))) (As := []) (rest := [.int (nI j)]) hx hb hml hl.1 ht hown hK hH hS (c_size l D G t σ 0 hG.k1_0) ymV_Jx4a65c_size_8abf5 kc_0 hG.k1_0 tw_209 ⟨rfl, rfl⟩ ⟨Nat.le_of_ble_eq_true rfl, Nat.le_of_ble_eq_true rfl⟩ rfl rfl (Nat.le_of_ble_eq_true rfl) dX10_most_39 ⟨Nat.le_of_ble_eq_true rfl, Nat.le_of_ble_eq_true rfl⟩ (hk_ea (fun H locs hH hS => ?_))
          rw [show F_size t 0 = t (1, 0) 2 from rfl]
          refine lv_icmp_ge (tgt := 86) hx hb dX10_most_42 (by decide) (fun c_4 => ?_) (fun c_4 => ?_)
          rotate_left
          · exfalso; rw [hI_most.1.1.1] at c_4; first | exact nI_ge (by omega) (by omega) c_4 | exact c_4 (nI_le (by omega) (by omega)) | exact nI_nlt (by omega) (by omega) c_4 | exact c_4 (nI_lt (by omega) (by omega))
          have hiN : j = Z.1 0 := by omega
          rw [hiN] at hl
          exact kk H locs ls hH hS (lv_sub hl [0, 1, 2, 3] rfl) hI_most
        | succ r ih =>
          intro j t H locs ls QQ hn_most hI_most hH hS hl kk
          have hz6 := hI_most.1.2
          have hna := hz6.2.1
          refine lv_iload_n hx hb dX10_most_34 rfl (lv_at hl 0 rfl) ?_
          refine lv_aload_n hx hb dX10_most_35 rfl (lv_at hl 1 rfl) ?_
          refine hk_getr (L := (.inl (0, 0))) (v := .ref (G.1 (.inl (1, 0)))) hx hb ht hown hK hH kc_11 hG.k0 0 (by decide) rfl tw_168 rfl hG.r0_0 dX10_most_36 ?_
          refine hk_cV (L := (.inl (1, 0))) (As := []) (rest := [.int (nI j)]) hx hb hml hl.1 ht hown hK hH hS (c_size l D G t σ 0 hG.k1_0) ymV_Jx4a65c_size_8abf5 kc_0 hG.k1_0 tw_209 ⟨rfl, rfl⟩ ⟨Nat.le_of_ble_eq_true rfl, Nat.le_of_ble_eq_true rfl⟩ rfl rfl (Nat.le_of_ble_eq_true rfl) dX10_most_39 ⟨Nat.le_of_ble_eq_true rfl, Nat.le_of_ble_eq_true rfl⟩ (hk_ea (fun H locs hH hS => ?_))
          rw [show F_size t 0 = t (1, 0) 2 from rfl]
          refine lv_icmp_ge (tgt := 86) hx hb dX10_most_42 (by decide) (fun c_5 => ?_) (fun c_5 => ?_)
          · exfalso; rw [hI_most.1.1.1] at c_5; first | exact nI_ge (by omega) (by omega) c_5 | exact c_5 (nI_le (by omega) (by omega)) | exact nI_nlt (by omega) (by omega) c_5 | exact c_5 (nI_lt (by omega) (by omega))
          refine lv_aload_n hx hb dX10_most_45 rfl (lv_at hl 1 rfl) ?_
          refine hk_getr (L := (.inl (0, 0))) (v := .ref (G.1 (.inl (1, 0)))) hx hb ht hown hK hH kc_11 hG.k0 0 (by decide) rfl tw_168 rfl hG.r0_0 dX10_most_46 ?_
          refine lv_iload_n hx hb dX10_most_49 rfl (lv_at hl 0 rfl) ?_
          refine hk_cV (L := (.inl (1, 0))) (As := [.int (nI j)]) (rest := []) hx hb hml hl.1 ht hown hK hH hS (c_lget l D G t σ 0 j (Z.1 0) (nI j) (.ref (G.1 (.inl (9, j)))) hG.k1_0 (hG.a1_0 (by omega)) (hG.k2_0 (by omega)) rfl (by omega) (by have := hI_most.1.2; omega) (hG.a2_0 _ (by omega)) ⟨_, rfl⟩ hI_most.1.1.1) ymV_Jx4a65c_get_915e3 kc_0 hG.k1_0 tw_343 ⟨rfl, rfl⟩ ⟨Nat.le_of_ble_eq_true rfl, Nat.le_of_ble_eq_true rfl⟩ rfl rfl (Nat.le_of_ble_eq_true rfl) dX10_most_50 ⟨Nat.le_of_ble_eq_true rfl, Nat.le_of_ble_eq_true rfl⟩ (hk_ea (fun H locs hH hS => ?_))
          refine hk_cast (L := (.inl (9, j))) hx hb ht hown hK hH kc_5 (hG.k9 j (by omega)) tw_213 dX10_most_53 ?_
          refine lv_astore (lv' := [(4, .ref (G.1 (.inl (9, j)))), (3, .int (nI j)), (0, .ref (G.1 (.inl (0, 0)))), (1, .int day), (2, .int w)]) hx hb dX10_most_56 hl (by decide) rfl (fun ls hl => ?_)
          refine lv_aload hx hb dX10_most_58 (lv_at hl 0 rfl) ?_
          refine lv_iload_n hx hb dX10_most_60 rfl (lv_at hl 3 rfl) ?_
          refine hk_cV (L := (.inl (9, j))) (As := [.int day]) (rest := []) hx hb hml hl.1 ht hown hK hH hS (c_isRipe l D G Z t σ j day hG (by omega)) ymV_X4_isRipe kc_5 (hG.k9 j (by omega)) tw_486 ⟨rfl, rfl⟩ ⟨Nat.le_of_ble_eq_true rfl, Nat.le_of_ble_eq_true rfl⟩ rfl rfl (Nat.le_of_ble_eq_true rfl) dX10_most_61 ⟨Nat.le_of_ble_eq_true rfl, Nat.le_of_ble_eq_true rfl⟩ (hk_ea (fun H locs hH hS => ?_))
          refine lv_if_eq (tgt := 80) hx hb dX10_most_64 (by decide) (fun c_6 => ?_) (fun c_6 => ?_)
          · refine lv_iinc (v := nI (j + 1)) (lv' := [(3, .int (nI (j + 1))), (4, .ref (G.1 (.inl (9, j)))), (0, .ref (G.1 (.inl (0, 0)))), (1, .int day), (2, .int w)]) hx hb dX10_most_80 hl (k := 1) rfl (nI_1 _) (by decide) rfl (fun ls hl => ?_)
            refine lv_goto (tgt := 34) hx hb dX10_most_83 (by decide) ?_
            have EB_7 : (B_most day Z) j t = t := by simp only [B_most, if_pos c_6]
            have hI2 : (hk_sz Z t ∧ t (8, 0) 3 = nI (2 ^ Z.1 1)) := by
              first | exact hI_most | exact ⟨hI_most.1.of (fun j => offer_o (by simp)), by rw [offer_o (by decide)]; exact hI_most.2⟩
            exact ih (j + 1) t _ _ _ QQ (by omega) hI2 hH hS (lv_sub hl [0, 2, 3, 4] rfl) (fun H locs ls hH hS hl hI_most => kk H locs ls (by rw [hk_it_s, EB_7]; exact hH) hS hl (by first | exact hI_most | (rw [hk_it_s, EB_7]; exact hI_most)))
          · refine lv_aload_n hx hb dX10_most_67 rfl (lv_at hl 2 rfl) ?_
            refine hk_getr (L := (.inl (0, 0))) (v := .ref (G.1 (.inl (8, 0)))) hx hb ht hown hK hH kc_11 hG.k0 7 (by decide) rfl tw_175 rfl hG.r0_7 dX10_most_68 ?_
            refine lv_iload_n hx hb dX10_most_71 rfl (lv_at hl 1 rfl) ?_
            refine lv_aload hx hb dX10_most_72 (lv_at hl 0 rfl) ?_
            refine hk_geti (L := (.inl (9, j))) (v := t (9, j) 2) hx hb ht hown hK hH kc_5 (hG.k9 j (by omega)) 2 (by decide) rfl tw_222 rfl rfl dX10_most_74 ?_
            refine hk_cV (L := (.inl (8, 0))) (As := [.int (nI j), .int (t (9, j) 2)]) (rest := []) hx hb hml hl.1 ht hown hK hH hS (c_offer l D G Z t σ (2 ^ Z.1 1 - 1) (nI j) (t (9, j) 2) hG (by rw [hI_most.2, ← (hk_pow1 hna).2]) (hk_pow1 hna).1) ymV_X0_offer kc_1 hG.k8_0 tw_667 ⟨rfl, rfl⟩ ⟨Nat.le_of_ble_eq_true rfl, Nat.le_of_ble_eq_true rfl⟩ rfl rfl (Nat.le_of_ble_eq_true rfl) dX10_most_77 ⟨Nat.le_of_ble_eq_true rfl, Nat.le_of_ble_eq_true rfl⟩ (hk_ev (fun H locs hH hS => ?_))
            refine lv_iinc (v := nI (j + 1)) (lv' := [(3, .int (nI (j + 1))), (4, .ref (G.1 (.inl (9, j)))), (0, .ref (G.1 (.inl (0, 0)))), (1, .int day), (2, .int w)]) hx hb dX10_most_80 hl (k := 1) rfl (nI_1 _) (by decide) rfl (fun ls hl => ?_)
            refine lv_goto (tgt := 34) hx hb dX10_most_83 (by decide) ?_
            have EB_8 : (B_most day Z) j t = (T_offer t (2 ^ Z.1 1 - 1) (nI j) (t (9, j) 2)) := by simp only [B_most, if_neg c_6]
            have hI2 : (hk_sz Z (T_offer t (2 ^ Z.1 1 - 1) (nI j) (t (9, j) 2)) ∧ (T_offer t (2 ^ Z.1 1 - 1) (nI j) (t (9, j) 2)) (8, 0) 3 = nI (2 ^ Z.1 1)) := by
              first | exact hI_most | exact ⟨hI_most.1.of (fun j => offer_o (by simp)), by rw [offer_o (by decide)]; exact hI_most.2⟩
            exact ih (j + 1) (T_offer t (2 ^ Z.1 1 - 1) (nI j) (t (9, j) 2)) _ _ _ QQ (by omega) hI2 hH hS (lv_sub hl [0, 2, 3, 4] rfl) (fun H locs ls hH hS hl hI_most => kk H locs ls (by rw [hk_it_s, EB_8]; exact hH) hS hl (by first | exact hI_most | (rw [hk_it_s, EB_8]; exact hI_most)))
      refine LP_3 (Z.1 0) 0 (T_begin Z τ) _ _ _ _ (by omega) ⟨hs.of (fun j => begin_o hs.2.2.1 (show (1 : Nat) ≠ 8 by decide)), begin_3 hs.2.2.1⟩ hH hS (lv_sub hl [0, 1, 2, 3] rfl) (fun H locs ls hH hS hl hI_most => ?_)
      refine lv_iload_n hx hb dX10_most_86 rfl (lv_at hl 3 rfl) ?_
      refine lv_if_ne (tgt := 100) hx hb dX10_most_87 (by decide) (fun c_9 => ?_) (fun c_9 => ?_)
      · refine lv_aload_n hx hb dX10_most_100 rfl (lv_at hl 1 rfl) ?_
        refine hk_getr (L := (.inl (0, 0))) (v := .ref (G.1 (.inl (8, 0)))) hx hb ht hown hK hH kc_11 hG.k0 7 (by decide) rfl tw_175 rfl hG.r0_7 dX10_most_101 ?_
        refine hk_cV (L := (.inl (8, 0))) (As := []) (rest := []) hx hb hml hl.1 ht hown hK hH hS (c_number l D G Z (hk_it (B_most day Z) (Z.1 0) 0 (T_begin Z τ)) σ (2 ^ Z.1 1 - 1) hG (by rw [hI_most.2, ← (hk_pow1 hna).2]) (hk_pow1 hna).1) ymV_X0_number kc_1 hG.k8_0 tw_677 ⟨rfl, rfl⟩ ⟨Nat.le_of_ble_eq_true rfl, Nat.le_of_ble_eq_true rfl⟩ rfl rfl (Nat.le_of_ble_eq_true rfl) dX10_most_104 ⟨Nat.le_of_ble_eq_true rfl, Nat.le_of_ble_eq_true rfl⟩ (hk_ea (fun H locs hH hS => ?_))
        exact hk_iret hx hb hr hlocks hH hS ⟨(by simp only [F_most, if_neg c_1, if_neg c_2, if_neg c_9]), rfl, (by simp only [T_most, if_neg c_1, if_neg c_2, if_neg c_9])⟩ dX10_most_107
      · refine lv_aload_n hx hb dX10_most_90 rfl (lv_at hl 1 rfl) ?_
        refine hk_getr (L := (.inl (0, 0))) (v := .ref (G.1 (.inl (8, 0)))) hx hb ht hown hK hH kc_11 hG.k0 7 (by decide) rfl tw_175 rfl hG.r0_7 dX10_most_91 ?_
        refine hk_cV (L := (.inl (8, 0))) (As := []) (rest := []) hx hb hml hl.1 ht hown hK hH hS (c_bushels l D G Z (hk_it (B_most day Z) (Z.1 0) 0 (T_begin Z τ)) σ (2 ^ Z.1 1 - 1) hG (by rw [hI_most.2, ← (hk_pow1 hna).2]) (hk_pow1 hna).1) ymV_X0_bushels kc_1 hG.k8_0 tw_673 ⟨rfl, rfl⟩ ⟨Nat.le_of_ble_eq_true rfl, Nat.le_of_ble_eq_true rfl⟩ rfl rfl (Nat.le_of_ble_eq_true rfl) dX10_most_94 ⟨Nat.le_of_ble_eq_true rfl, Nat.le_of_ble_eq_true rfl⟩ (hk_ea (fun H locs hH hS => ?_))
        refine lv_goto (tgt := 107) hx hb dX10_most_97 (by decide) ?_
        exact hk_iret hx hb hr hlocks hH hS ⟨(by simp only [F_most, if_neg c_1, if_neg c_2, if_pos c_9]), rfl, (by simp only [T_most, if_neg c_1, if_neg c_2, if_pos c_9])⟩ dX10_most_107
    · refine lv_iconst (v := -1) hx hb dX10_most_19 (by decide) ?_
      exact hk_iret hx hb hr hlocks hH hS ⟨(by simp only [F_most, if_neg c_1, if_pos c_2]), rfl, (by simp only [T_most, if_neg c_1, if_pos c_2])⟩ dX10_most_20
