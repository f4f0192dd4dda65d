theorem sp_a {a b c : Nat} (ha : a ≤ 480) (hb : b ≤ 24) (hc : c ≤ 1000) (h : c + b ≤ a) : ¬ nI a - nI b < nI c := by
  rw [Int32.lt_iff_toInt_lt, pk_sub_toInt (by omega) (by omega), nI_toInt (by omega)]
  omega
theorem sp_b {a b c : Nat} (ha : a ≤ 480) (hb : b ≤ 24) (hc : c ≤ 1000) (h : a < c + b) : nI a - nI b < nI c := by
  rw [Int32.lt_iff_toInt_lt, pk_sub_toInt (by omega) (by omega), nI_toInt (by omega)]
  omega
def B_m_spg (j : Nat)  (g : Nat) (t : hk_v) : hk_v := (hk_u (hk_u t (1, 7) g ((t (1, 7) g) + (t (1, 16) ((6 * j) + g)))) (1, 16) ((6 * j) + g) 0)
def B_m_sp (Z : hk_Z) (j : Nat) (t : hk_v) : hk_v := (hk_it (B_m_spg j) (Z.1 0) 0 t)
def T_m_spoils (Z : hk_Z) (σ : hk_v) (nw : Nat) (w : Nat) : hk_v := (hk_it (B_m_sp Z) (nw + 1 - w) 0 σ)
set_option maxHeartbeats 4000000 in
set_option maxRecDepth 100000 in
theorem c_m_spoils (l : Launch) (D : hk_D) (G : hk_G) (Z : hk_Z) (τ σ : hk_v) (nw : Nat) (w : Nat) (hM : hk_M G) (hms : hk_mz Z σ) (hnow : σ (0, 0) 0 = nI nw) (hnw : nw ≤ 480) (hw : σ (0, 0) 1 = nI w) (hw1 : w ≤ 24) : Met l yX11_spoils (hk_ws yX11_spoils cX11_spoils 3 none) ({ frames := 0, cells := 0, slots := 0, locals := 0 }) (hk_P D G (hk_cm τ σ) [.ref (G.1 (.inr (0, 0)))]) (hk_Q D (hk_e G (none) (hk_cm τ (T_m_spoils Z σ nw w)))) 0 0 (hk_A D) := by
  refine hk_met (by decide +kernel) (Nat.le_of_ble_eq_true rfl) (fun p e s m below meth c hx hb hr hml hlocks ht hown hin hK hH hS ls hl => ?_)
  have hl : lv_has ls 3 [(0, .ref (G.1 (.inr (0, 0))))] := hl
  refine lv_iconst (v := 0) hx hb dX11_spoils_0 (by decide) ?_
  refine lv_istore_n (lv' := [(1, .int 0), (0, .ref (G.1 (.inr (0, 0))))]) hx hb dX11_spoils_1 rfl hl (by decide) rfl (fun ls hl => ?_)
  have LP_1 : ∀ (r j : Nat) (t : hk_v) (H : Heap) (locs : List Loc) (ls : Array Slot) (QQ : State → Prop), j + r = (nw + 1 - w) → (∀ q k, q ≠ (1, 7) → q ≠ (1, 16) → t q k = σ q k) → hk_H D G (hk_cm τ t) H → va_S (hk_A D) s.heap H locs → lv_has ls 3 [(1, .int (nI j)), (0, .ref (G.1 (.inr (0, 0))))] → (∀ (H : Heap) (locs : List Loc) (ls : Array Slot), hk_H D G (hk_cm τ (hk_it (B_m_sp Z) r j t)) H → va_S (hk_A D) s.heap H locs → lv_has ls 3 [(1, .int (nI (nw + 1 - w))), (0, .ref (G.1 (.inr (0, 0))))] → (∀ q k, q ≠ (1, 7) → q ≠ (1, 16) → (hk_it (B_m_sp Z) r j t) q k = σ q k) → W p l e ({ frames := 0, cells := 0, slots := 0, locals := 0 }) s m ([.ref (G.1 (.inr (0, 0)))] : List Value).toArray below meth c H locs 0 0 QQ (F0 m 69 ls [])) → W p l e ({ frames := 0, cells := 0, slots := 0, locals := 0 }) s m ([.ref (G.1 (.inr (0, 0)))] : List Value).toArray below meth c H locs 0 0 QQ (F0 m 2 ls []) := by
    intro r
    induction r with
    | zero =>
      intro j t H locs ls QQ hn_m_sp hI_m_sp hH hS hl kk
      have hz0 := hms.2
      refine lv_iload_n hx hb dX11_spoils_2 rfl (lv_at hl 0 rfl) ?_
      refine lv_aload_n hx hb dX11_spoils_3 rfl (lv_at hl 1 rfl) ?_
      refine hk_geti (L := (.inr (0, 0))) (v := nI nw) hx hb ht hown hK hH kc_12 hM.k0 0 (by decide) rfl tw_692 rfl (by show t (0, 0) 0 = _; rw [hI_m_sp _ _ (by decide) (by decide)]; exact hnow) dX11_spoils_4 ?_
      refine lv_aload_n hx hb dX11_spoils_7 rfl (lv_at hl 1 rfl) ?_
      refine hk_geti (L := (.inr (0, 0))) (v := nI w) hx hb ht hown hK hH kc_12 hM.k0 1 (by decide) rfl tw_693 rfl (by show t (0, 0) 1 = _; rw [hI_m_sp _ _ (by decide) (by decide)]; exact hw) dX11_spoils_8 ?_
      refine lv_isub hx hb dX11_spoils_11 ?_
      refine lv_icmp_gt (tgt := 69) hx hb dX11_spoils_12 (by decide) (fun c_2 => ?_) (fun c_2 => ?_)
      rotate_left
      · exfalso; first | exact sp_a hnw hw1 (by omega) (by omega) c_2 | exact c_2 (sp_b hnw hw1 (by omega) (by omega))
      have hiN : j = (nw + 1 - w) := by omega
      rw [hiN] at hl
      exact kk H locs ls hH hS (lv_sub hl [0, 1] rfl) hI_m_sp
    | succ r ih =>
      intro j t H locs ls QQ hn_m_sp hI_m_sp hH hS hl kk
      have hz0 := hms.2
      refine lv_iload_n hx hb dX11_spoils_2 rfl (lv_at hl 0 rfl) ?_
      refine lv_aload_n hx hb dX11_spoils_3 rfl (lv_at hl 1 rfl) ?_
      refine hk_geti (L := (.inr (0, 0))) (v := nI nw) hx hb ht hown hK hH kc_12 hM.k0 0 (by decide) rfl tw_692 rfl (by show t (0, 0) 0 = _; rw [hI_m_sp _ _ (by decide) (by decide)]; exact hnow) dX11_spoils_4 ?_
      refine lv_aload_n hx hb dX11_spoils_7 rfl (lv_at hl 1 rfl) ?_
      refine hk_geti (L := (.inr (0, 0))) (v := nI w) hx hb ht hown hK hH kc_12 hM.k0 1 (by decide) rfl tw_693 rfl (by show t (0, 0) 1 = _; rw [hI_m_sp _ _ (by decide) (by decide)]; exact hw) dX11_spoils_8 ?_
      refine lv_isub hx hb dX11_spoils_11 ?_
      refine lv_icmp_gt (tgt := 69) hx hb dX11_spoils_12 (by decide) (fun c_3 => ?_) (fun c_3 => ?_)
      · exfalso; first | exact sp_a hnw hw1 (by omega) (by omega) c_3 | exact c_3 (sp_b hnw hw1 (by omega) (by omega))
      refine lv_iconst (v := 0) hx hb dX11_spoils_15 (by decide) ?_
      refine lv_istore_n (lv' := [(2, .int 0), (1, .int (nI j)), (0, .ref (G.1 (.inr (0, 0))))]) hx hb dX11_spoils_16 rfl hl (by decide) rfl (fun ls hl => ?_)
      have LP_4 : ∀ (r2 g : Nat) (t : hk_v) (H : Heap) (locs : List Loc) (ls : Array Slot) (QQ : State → Prop), g + r2 = Z.1 0 → (∀ q k, q ≠ (1, 7) → q ≠ (1, 16) → t q k = σ q k) → hk_H D G (hk_cm τ t) H → va_S (hk_A D) s.heap H locs → lv_has ls 3 [(2, .int (nI g)), (1, .int (nI j)), (0, .ref (G.1 (.inr (0, 0))))] → (∀ (H : Heap) (locs : List Loc) (ls : Array Slot), hk_H D G (hk_cm τ (hk_it (B_m_spg j) r2 g t)) H → va_S (hk_A D) s.heap H locs → lv_has ls 3 [(2, .int (nI (Z.1 0))), (1, .int (nI j)), (0, .ref (G.1 (.inr (0, 0))))] → (∀ q k, q ≠ (1, 7) → q ≠ (1, 16) → (hk_it (B_m_spg j) r2 g t) q k = σ q k) → W p l e ({ frames := 0, cells := 0, slots := 0, locals := 0 }) s m ([.ref (G.1 (.inr (0, 0)))] : List Value).toArray below meth c H locs 0 0 QQ (F0 m 63 ls [])) → W p l e ({ frames := 0, cells := 0, slots := 0, locals := 0 }) s m ([.ref (G.1 (.inr (0, 0)))] : List Value).toArray below meth c H locs 0 0 QQ (F0 m 17 ls []) := by
        intro r2
        induction r2 with
        | zero =>
          intro g t H locs ls QQ hn_m_spg hI_m_spg hH hS hl kk
          have hz6 := hms.2
          refine lv_iload_n hx hb dX11_spoils_17 rfl (lv_at hl 0 rfl) ?_
          refine lv_aload_n hx hb dX11_spoils_18 rfl (lv_at hl 2 rfl) ?_
          refine hk_geti (L := (.inr (0, 0))) (v := nI (Z.1 0)) hx hb ht hown hK hH kc_12 hM.k0 2 (by decide) rfl tw_694 rfl (by show t (0, 0) 2 = _; rw [hI_m_spg _ _ (by decide) (by decide)]; exact hms.1.1) dX11_spoils_19 ?_
          refine lv_icmp_ge (tgt := 63) hx hb dX11_spoils_22 (by decide) (fun c_5 => ?_) (fun c_5 => ?_)
          rotate_left
          · exfalso; first | exact nI_ge (by omega) (by omega) c_5 | exact c_5 (nI_le (by omega) (by omega)) | exact nI_nlt (by omega) (by omega) c_5 | exact c_5 (nI_lt (by omega) (by omega))
          have hiN : g = Z.1 0 := by omega
          rw [hiN] at hl
          exact kk H locs ls hH hS (lv_sub hl [0, 1, 2] rfl) hI_m_spg
        | succ r2 ih =>
          intro g t H locs ls QQ hn_m_spg hI_m_spg hH hS hl kk
          have hz6 := hms.2
          refine lv_iload_n hx hb dX11_spoils_17 rfl (lv_at hl 0 rfl) ?_
          refine lv_aload_n hx hb dX11_spoils_18 rfl (lv_at hl 2 rfl) ?_
          refine hk_geti (L := (.inr (0, 0))) (v := nI (Z.1 0)) hx hb ht hown hK hH kc_12 hM.k0 2 (by decide) rfl tw_694 rfl (by show t (0, 0) 2 = _; rw [hI_m_spg _ _ (by decide) (by decide)]; exact hms.1.1) dX11_spoils_19 ?_
          refine lv_icmp_ge (tgt := 63) hx hb dX11_spoils_22 (by decide) (fun c_6 => ?_) (fun c_6 => ?_)
          · exfalso; first | exact nI_ge (by omega) (by omega) c_6 | exact c_6 (nI_le (by omega) (by omega)) | exact nI_nlt (by omega) (by omega) c_6 | exact c_6 (nI_lt (by omega) (by omega))
          refine lv_aload_n hx hb dX11_spoils_25 rfl (lv_at hl 2 rfl) ?_
          refine hk_getr (L := (.inr (0, 0))) (v := .ref (G.1 (.inr (1, 7)))) hx hb ht hown hK hH kc_12 hM.k0 7 (by decide) rfl tw_699 rfl hM.r7 dX11_spoils_26 ?_
          refine lv_iload_n hx hb dX11_spoils_29 rfl (lv_at hl 0 rfl) ?_
          refine lv_dup2_11 hx hb dX11_spoils_30 rfl rfl ?_
          refine hk_ild (L := (.inr (1, 7))) (v := t (1, 7) g) hx hb hK hH hM.k7 (vp_in_nI (by omega) (by omega)) (by rw [nI_clamp (by omega)]; rfl) dX11_spoils_31 ?_
          refine lv_aload_n hx hb dX11_spoils_32 rfl (lv_at hl 2 rfl) ?_
          refine hk_getr (L := (.inr (0, 0))) (v := .ref (G.1 (.inr (1, 16)))) hx hb ht hown hK hH kc_12 hM.k0 16 (by decide) rfl tw_708 rfl hM.r16 dX11_spoils_33 ?_
          refine lv_bipush (v := 6) hx hb dX11_spoils_36 (by decide) ?_
          refine lv_iload_n hx hb dX11_spoils_38 rfl (lv_at hl 1 rfl) ?_
          refine lv_imul hx hb dX11_spoils_39 ?_
          rw [show (6 : Int32) * nI j = nI (6 * j) from pk_mul 6 _]
          refine lv_iload_n hx hb dX11_spoils_40 rfl (lv_at hl 0 rfl) ?_
          refine lv_iadd hx hb dX11_spoils_41 ?_
          rw [nI_add (6 * j) g]
          refine hk_ild (L := (.inr (1, 16))) (v := t (1, 16) ((6 * j) + g)) hx hb hK hH hM.k16 (vp_in_nI (by omega) (by omega)) (by rw [nI_clamp (by omega)]; rfl) dX11_spoils_42 ?_
          refine lv_iadd hx hb dX11_spoils_43 ?_
          refine hk_ist (L := (.inr (1, 7))) hx hb hK hH hS hM.k7 (vp_in_nI (by omega) (by omega)) dX11_spoils_44 (fun H locs hH hS => ?_)
          rw [hk_up_r, nI_clamp (by omega)] at hH
          refine lv_aload_n hx hb dX11_spoils_45 rfl (lv_at hl 2 rfl) ?_
          refine hk_getr (L := (.inr (0, 0))) (v := .ref (G.1 (.inr (1, 16)))) hx hb ht hown hK hH kc_12 hM.k0 16 (by decide) rfl tw_708 rfl hM.r16 dX11_spoils_46 ?_
          refine lv_bipush (v := 6) hx hb dX11_spoils_49 (by decide) ?_
          refine lv_iload_n hx hb dX11_spoils_51 rfl (lv_at hl 1 rfl) ?_
          refine lv_imul hx hb dX11_spoils_52 ?_
          rw [show (6 : Int32) * nI j = nI (6 * j) from pk_mul 6 _]
          refine lv_iload_n hx hb dX11_spoils_53 rfl (lv_at hl 0 rfl) ?_
          refine lv_iadd hx hb dX11_spoils_54 ?_
          rw [nI_add (6 * j) g]
          refine lv_iconst (v := 0) hx hb dX11_spoils_55 (by decide) ?_
          refine hk_ist (L := (.inr (1, 16))) hx hb hK hH hS hM.k16 (vp_in_nI (by omega) (by omega)) dX11_spoils_56 (fun H locs hH hS => ?_)
          rw [hk_up_r, nI_clamp (by omega)] at hH
          refine lv_iinc (v := nI (g + 1)) (lv' := [(2, .int (nI (g + 1))), (1, .int (nI j)), (0, .ref (G.1 (.inr (0, 0))))]) hx hb dX11_spoils_57 hl (k := 0) rfl (nI_1 _) (by decide) rfl (fun ls hl => ?_)
          refine lv_goto (tgt := 17) hx hb dX11_spoils_60 (by decide) ?_
          have EB_7 : (B_m_spg j) g t = (hk_u (hk_u t (1, 7) g ((t (1, 7) g) + (t (1, 16) ((6 * j) + g)))) (1, 16) ((6 * j) + g) 0) := by simp only [B_m_spg]
          have hI2 : (∀ q k, q ≠ (1, 7) → q ≠ (1, 16) → (hk_u (hk_u t (1, 7) g ((t (1, 7) g) + (t (1, 16) ((6 * j) + g)))) (1, 16) ((6 * j) + g) 0) q k = σ q k) := by
            exact fun q k h7 h16 => by rw [hk_u_ap, if_neg (fun e => h16 e.1), hk_u_ap, if_neg (fun e => h7 e.1)]; exact hI_m_spg q k h7 h16
          exact ih (g + 1) (hk_u (hk_u t (1, 7) g ((t (1, 7) g) + (t (1, 16) ((6 * j) + g)))) (1, 16) ((6 * j) + g) 0) _ _ _ QQ (by omega) hI2 hH hS (lv_sub hl [0, 1, 2] rfl) (fun H locs ls hH hS hl hI_m_spg => kk H locs ls (by rw [hk_it_s, EB_7]; exact hH) hS hl (by first | exact hI_m_spg | (rw [hk_it_s, EB_7]; exact hI_m_spg)))
      refine LP_4 (Z.1 0) 0 t _ _ _ _ (by omega) hI_m_sp hH hS (lv_sub hl [0, 1, 2] rfl) (fun H locs ls hH hS hl hI_m_spg => ?_)
      refine lv_iinc (v := nI (j + 1)) (lv' := [(1, .int (nI (j + 1))), (2, .int (nI (Z.1 0))), (0, .ref (G.1 (.inr (0, 0))))]) hx hb dX11_spoils_63 hl (k := 1) rfl (nI_1 _) (by decide) rfl (fun ls hl => ?_)
      refine lv_goto (tgt := 2) hx hb dX11_spoils_66 (by decide) ?_
      have EB_8 : (B_m_sp Z) j t = (hk_it (B_m_spg j) (Z.1 0) 0 t) := by simp only [B_m_sp]
      have hI2 : (∀ q k, q ≠ (1, 7) → q ≠ (1, 16) → (hk_it (B_m_spg j) (Z.1 0) 0 t) q k = σ q k) := by
        exact hI_m_spg
      exact ih (j + 1) (hk_it (B_m_spg j) (Z.1 0) 0 t) _ _ _ QQ (by omega) hI2 hH hS (lv_sub hl [0, 2] rfl) (fun H locs ls hH hS hl hI_m_sp => kk H locs ls (by rw [hk_it_s, EB_8]; exact hH) hS hl (by first | exact hI_m_sp | (rw [hk_it_s, EB_8]; exact hI_m_sp)))
  refine LP_1 (nw + 1 - w) 0 σ _ _ _ _ (by omega) (fun _ _ _ _ => rfl) hH hS (lv_sub hl [0, 1] rfl) (fun H locs ls hH hS hl hI_m_sp => ?_)
  exact hk_vret hx hb hr hlocks hH hS ⟨rfl, rfl, (by simp only [T_m_spoils])⟩ dX11_spoils_69
def hk_tk (i : Nat) (σ t : hk_v) : Prop := (∀ q k, q ≠ (1, 16) → q ≠ (1, 21) → q ≠ (1, 22) → q ≠ (1, 23) → t q k = σ q k) ∧ ∃ f rm : Nat, f ≤ rm ∧ rm ≤ 200 ∧ t (1, 22) i = nI f ∧ t (1, 19) i = nI rm
theorem tk_h1 {nw : Nat} (hnw : nw ≤ 480) (c : ¬ nI nw ≤ 24) : nI nw - 24 = nI (nw - 24) := by
  have : 24 ≤ nw := by
    rcases Nat.lt_or_ge nw 24 with q | q
    · exact absurd (show nI nw ≤ nI 24 from nI_le (by omega) (by omega)) c
    · exact q
  exact pk_sub this
theorem tk_h2 {nw : Nat} (hnw : nw ≤ 480) (c : nI nw ≤ 24) : (0 : Int32) = nI (nw - 24) := by
  have : nw ≤ 24 := by
    rcases Nat.lt_or_ge 24 nw with q | q
    · exact absurd c (show ¬ nI nw ≤ nI 24 from nI_ge q (by omega))
    · exact q
  rw [show nw - 24 = 0 by omega]; rfl
def B_m_tw (i : Nat) (j : Nat)  (t : hk_v) : Option hk_v := (if (t (1, 16) j) ≤ 0 then none else (if (t (1, 19) i) ≤ (t (1, 22) i) then none else some (hk_u (hk_u (hk_u t (1, 16) j ((t (1, 16) j) - 1)) (1, 23) (((nI (200 * i)) + (t (1, 22) i)).toNatClampNeg) (nI (j % 6))) (1, 22) i ((t (1, 22) i) + 1))))
theorem tw_in {t : hk_v} {i f : Nat} (hf : t (1, 22) i = nI f) (hi : i < 4) (hf2 : f < 200) : vp_in (nI (200 * i) + t (1, 22) i) 800 := by rw [hf, nI_add]; exact vp_in_nI (by omega) (by omega)
theorem tw_lt {t : hk_v} {i f rm : Nat} (hfr : f ≤ rm) (hrm2 : rm ≤ 200) (hf : t (1, 22) i = nI f) (hrm : t (1, 19) i = nI rm) (c : ¬ t (1, 19) i ≤ t (1, 22) i) : f < rm := by
  rcases Nat.lt_or_ge f rm with q | q
  · exact q
  · exact absurd (by rw [hf, hrm]; exact nI_le q (by omega)) c
theorem tw_step {σ t : hk_v} {i j n f rm : Nat} (hk : ∀ q k, q ≠ (1, 16) → q ≠ (1, 21) → q ≠ (1, 22) → q ≠ (1, 23) → t q k = σ q k) (hfr : f ≤ rm) (hrm2 : rm ≤ 200) (hf : t (1, 22) i = nI f) (hrm : t (1, 19) i = nI rm) (hrf : rm < n + 1 + f) (c : ¬ t (1, 19) i ≤ t (1, 22) i) : (∀ q k, q ≠ (1, 16) → q ≠ (1, 21) → q ≠ (1, 22) → q ≠ (1, 23) → (hk_u (hk_u (hk_u t (1, 16) j ((t (1, 16) j) - 1)) (1, 23) (((nI (200 * i)) + (t (1, 22) i)).toNatClampNeg) (nI (j % 6))) (1, 22) i ((t (1, 22) i) + 1)) q k = σ q k) ∧ ∃ f rm : Nat, f ≤ rm ∧ rm ≤ 200 ∧ (hk_u (hk_u (hk_u t (1, 16) j ((t (1, 16) j) - 1)) (1, 23) (((nI (200 * i)) + (t (1, 22) i)).toNatClampNeg) (nI (j % 6))) (1, 22) i ((t (1, 22) i) + 1)) (1, 22) i = nI f ∧ (hk_u (hk_u (hk_u t (1, 16) j ((t (1, 16) j) - 1)) (1, 23) (((nI (200 * i)) + (t (1, 22) i)).toNatClampNeg) (nI (j % 6))) (1, 22) i ((t (1, 22) i) + 1)) (1, 19) i = nI rm ∧ rm < n + f := by
  have hlt := tw_lt hfr hrm2 hf hrm c
  refine ⟨fun q k h1 h2 h3 h4 => ?_, f + 1, rm, by omega, hrm2, ?_, ?_, by omega⟩
  · rw [hk_u_ap, if_neg (fun e => h3 e.1), hk_u_ap, if_neg (fun e => h4 e.1), hk_u_ap, if_neg (fun e => h1 e.1)]
    exact hk q k h1 h2 h3 h4
  · rw [hk_u_ap, if_pos ⟨rfl, rfl⟩, hf, nI_1]
  · rw [hk_u_ap, if_neg (by simp), hk_u_ap, if_neg (by simp), hk_u_ap, if_neg (by simp)]
    exact hrm
theorem tw_init {σ t : hk_v} {i : Nat} (h : hk_tk i σ t) : (∀ q k, q ≠ (1, 16) → q ≠ (1, 21) → q ≠ (1, 22) → q ≠ (1, 23) → t q k = σ q k) ∧ ∃ f rm : Nat, f ≤ rm ∧ rm ≤ 200 ∧ t (1, 22) i = nI f ∧ t (1, 19) i = nI rm ∧ rm < 201 + f := by
  obtain ⟨h1, f, rm, h2, h3, h4, h5⟩ := h
  exact ⟨h1, f, rm, h2, h3, h4, h5, by omega⟩
theorem tw_keep {σ t : hk_v} {i j : Nat} (h : hk_tk i σ t) : hk_tk i σ (hk_wh (B_m_tw i j) 201 t) := by
  refine hk_wh_inv (hk_tk i σ) (fun s s2 hs e => ?_) 201 t h
  unfold B_m_tw at e
  split at e
  · cases e
  · split at e
    · cases e
    · rename_i c
      have e2 := Option.some.inj e
      obtain ⟨h1, f, rm, h2, h3, h4, h5⟩ := hs
      have := tw_step (n := 200) (j := j) h1 h2 h3 h4 h5 (by omega) c
      rw [e2] at this
      obtain ⟨a1, f, rm, a2, a3, a4, a5, -⟩ := this
      exact ⟨a1, f, rm, a2, a3, a4, a5⟩
def B_m_tk (i : Nat)  (j : Nat) (t : hk_v) : hk_v := (hk_wh (B_m_tw i j) 201 t)
def T_m_takes (σ : hk_v) (i : Nat) (nw : Nat) : hk_v := (if (σ (1, 22) i) ≤ 0 then (hk_it (B_m_tk i) ((6 * nw) + 6 - (6 * (nw - 24))) (6 * (nw - 24)) (hk_u σ (1, 21) i 0)) else σ)
set_option maxHeartbeats 4000000 in
set_option maxRecDepth 100000 in
theorem c_m_takes (l : Launch) (D : hk_D) (G : hk_G) (Z : hk_Z) (τ σ : hk_v) (i : Nat) (nw : Nat) (hM : hk_M G) (hi : i < 4) (hnow : σ (0, 0) 0 = nI nw) (hnw : nw ≤ 480) (hfl : ∃ f rm : Nat, f ≤ rm ∧ rm ≤ 200 ∧ σ (1, 22) i = nI f ∧ σ (1, 19) i = nI rm) : Met l yX11_takes (hk_ws yX11_takes cX11_takes 4 none) ({ frames := 0, cells := 0, slots := 0, locals := 0 }) (hk_P D G (hk_cm τ σ) [.ref (G.1 (.inr (0, 0))), .int (nI i)]) (hk_Q D (hk_e G (none) (hk_cm τ (T_m_takes σ i nw)))) 0 0 (hk_A D) := by
  refine hk_met (by decide +kernel) (Nat.le_of_ble_eq_true rfl) (fun p e s m below meth c hx hb hr hml hlocks ht hown hin hK hH hS ls hl => ?_)
  have hl : lv_has ls 4 [(0, .ref (G.1 (.inr (0, 0)))), (1, .int (nI i))] := hl
  refine lv_aload_n hx hb dX11_takes_0 rfl (lv_at hl 0 rfl) ?_
  refine hk_getr (L := (.inr (0, 0))) (v := .ref (G.1 (.inr (1, 22)))) hx hb ht hown hK hH kc_12 hM.k0 22 (by decide) rfl tw_714 rfl hM.r22 dX11_takes_1 ?_
  refine lv_iload_n hx hb dX11_takes_4 rfl (lv_at hl 1 rfl) ?_
  refine hk_ild (L := (.inr (1, 22))) (v := σ (1, 22) i) hx hb hK hH hM.k22 (vp_in_nI (by omega) (by omega)) (by rw [nI_clamp (by omega)]; rfl) dX11_takes_5 ?_
  refine lv_if_le (tgt := 10) hx hb dX11_takes_6 (by decide) (fun c_1 => ?_) (fun c_1 => ?_)
  · refine lv_aload_n hx hb dX11_takes_10 rfl (lv_at hl 0 rfl) ?_
    refine hk_getr (L := (.inr (0, 0))) (v := .ref (G.1 (.inr (1, 21)))) hx hb ht hown hK hH kc_12 hM.k0 21 (by decide) rfl tw_713 rfl hM.r21 dX11_takes_11 ?_
    refine lv_iload_n hx hb dX11_takes_14 rfl (lv_at hl 1 rfl) ?_
    refine lv_iconst (v := 0) hx hb dX11_takes_15 (by decide) ?_
    refine hk_ist (L := (.inr (1, 21))) hx hb hK hH hS hM.k21 (vp_in_nI (by omega) (by omega)) dX11_takes_16 (fun H locs hH hS => ?_)
    rw [hk_up_r, nI_clamp (by omega)] at hH
    refine lv_aload_n hx hb dX11_takes_17 rfl (lv_at hl 0 rfl) ?_
    refine hk_geti (L := (.inr (0, 0))) (v := nI nw) hx hb ht hown hK hH kc_12 hM.k0 0 (by decide) rfl tw_692 rfl (by simpa [hk_cm, hk_u_ap] using hnow) dX11_takes_18 ?_
    refine lv_bipush (v := 24) hx hb dX11_takes_21 (by decide) ?_
    refine lv_icmp_le (tgt := 36) hx hb dX11_takes_23 (by decide) (fun c_2 => ?_) (fun c_2 => ?_)
    · refine lv_iconst (v := 0) hx hb dX11_takes_36 (by decide) ?_
      rw [show (0 : Int32) = nI (nw - 24) from tk_h2 hnw c_2]
      refine lv_istore_n (lv' := [(2, .int (nI (nw - 24))), (0, .ref (G.1 (.inr (0, 0)))), (1, .int (nI i))]) hx hb dX11_takes_37 rfl hl (by decide) rfl (fun ls hl => ?_)
      refine lv_bipush (v := 6) hx hb dX11_takes_38 (by decide) ?_
      refine lv_iload_n hx hb dX11_takes_40 rfl (lv_at hl 0 rfl) ?_
      refine lv_imul hx hb dX11_takes_41 ?_
      rw [show (6 : Int32) * nI (nw - 24) = nI (6 * (nw - 24)) from pk_mul 6 _]
      refine lv_istore_n (lv' := [(3, .int (nI (6 * (nw - 24)))), (2, .int (nI (nw - 24))), (0, .ref (G.1 (.inr (0, 0)))), (1, .int (nI i))]) hx hb dX11_takes_42 rfl hl (by decide) rfl (fun ls hl => ?_)
      have LP_3 : ∀ (r j : Nat) (t : hk_v) (H : Heap) (locs : List Loc) (ls : Array Slot) (QQ : State → Prop), j + r = (6 * nw) + 6 → (hk_tk i σ t) → hk_H D G (hk_cm τ t) H → va_S (hk_A D) s.heap H locs → lv_has ls 4 [(3, .int (nI j)), (0, .ref (G.1 (.inr (0, 0)))), (1, .int (nI i))] → (∀ (H : Heap) (locs : List Loc) (ls : Array Slot), hk_H D G (hk_cm τ (hk_it (B_m_tk i) r j t)) H → va_S (hk_A D) s.heap H locs → lv_has ls 4 [(3, .int (nI ((6 * nw) + 6))), (0, .ref (G.1 (.inr (0, 0)))), (1, .int (nI i))] → (hk_tk i σ (hk_it (B_m_tk i) r j t)) → W p l e ({ frames := 0, cells := 0, slots := 0, locals := 0 }) s m ([.ref (G.1 (.inr (0, 0))), .int (nI i)] : List Value).toArray below meth c H locs 0 0 QQ (F0 m 131 ls [])) → W p l e ({ frames := 0, cells := 0, slots := 0, locals := 0 }) s m ([.ref (G.1 (.inr (0, 0))), .int (nI i)] : List Value).toArray below meth c H locs 0 0 QQ (F0 m 43 ls []) := by
        intro r
        induction r with
        | zero =>
          intro j t H locs ls QQ hn_m_tk hI_m_tk hH hS hl kk
          refine lv_iload_n hx hb dX11_takes_43 rfl (lv_at hl 0 rfl) ?_
          refine lv_bipush (v := 6) hx hb dX11_takes_44 (by decide) ?_
          refine lv_aload_n hx hb dX11_takes_46 rfl (lv_at hl 1 rfl) ?_
          refine hk_geti (L := (.inr (0, 0))) (v := nI nw) hx hb ht hown hK hH kc_12 hM.k0 0 (by decide) rfl tw_692 rfl (by show t (0, 0) 0 = _; rw [hI_m_tk.1 _ _ (by decide) (by decide) (by decide) (by decide)]; exact hnow) dX11_takes_47 ?_
          refine lv_imul hx hb dX11_takes_50 ?_
          rw [show (6 : Int32) * nI nw = nI (6 * nw) from pk_mul 6 _]
          refine lv_bipush (v := 6) hx hb dX11_takes_51 (by decide) ?_
          refine lv_iadd hx hb dX11_takes_53 ?_
          rw [show nI (6 * nw) + 6 = nI ((6 * nw) + 6) from nI_add _ 6]
          refine lv_icmp_ge (tgt := 131) hx hb dX11_takes_54 (by decide) (fun c_4 => ?_) (fun c_4 => ?_)
          rotate_left
          · exfalso; first | exact nI_ge (by omega) (by omega) c_4 | exact c_4 (nI_le (by omega) (by omega)) | exact nI_nlt (by omega) (by omega) c_4 | exact c_4 (nI_lt (by omega) (by omega))
          have hiN : j = (6 * nw) + 6 := by omega
          rw [hiN] at hl
          exact kk H locs ls hH hS (lv_sub hl [0, 1, 2] rfl) hI_m_tk
        | succ r ih =>
          intro j t H locs ls QQ hn_m_tk hI_m_tk hH hS hl kk
          refine lv_iload_n hx hb dX11_takes_43 rfl (lv_at hl 0 rfl) ?_
          refine lv_bipush (v := 6) hx hb dX11_takes_44 (by decide) ?_
          refine lv_aload_n hx hb dX11_takes_46 rfl (lv_at hl 1 rfl) ?_
          refine hk_geti (L := (.inr (0, 0))) (v := nI nw) hx hb ht hown hK hH kc_12 hM.k0 0 (by decide) rfl tw_692 rfl (by show t (0, 0) 0 = _; rw [hI_m_tk.1 _ _ (by decide) (by decide) (by decide) (by decide)]; exact hnow) dX11_takes_47 ?_
          refine lv_imul hx hb dX11_takes_50 ?_
          rw [show (6 : Int32) * nI nw = nI (6 * nw) from pk_mul 6 _]
          refine lv_bipush (v := 6) hx hb dX11_takes_51 (by decide) ?_
          refine lv_iadd hx hb dX11_takes_53 ?_
          rw [show nI (6 * nw) + 6 = nI ((6 * nw) + 6) from nI_add _ 6]
          refine lv_icmp_ge (tgt := 131) hx hb dX11_takes_54 (by decide) (fun c_5 => ?_) (fun c_5 => ?_)
          · exfalso; first | exact nI_ge (by omega) (by omega) c_5 | exact c_5 (nI_le (by omega) (by omega)) | exact nI_nlt (by omega) (by omega) c_5 | exact c_5 (nI_lt (by omega) (by omega))
          have LP_6 : ∀ (n : Nat) (t : hk_v) (H : Heap) (locs : List Loc) (ls : Array Slot) (QQ : State → Prop), ((∀ q k, q ≠ (1, 16) → q ≠ (1, 21) → q ≠ (1, 22) → q ≠ (1, 23) → t q k = σ q k) ∧ ∃ f rm : Nat, f ≤ rm ∧ rm ≤ 200 ∧ t (1, 22) i = nI f ∧ t (1, 19) i = nI rm ∧ rm < n + f) → hk_H D G (hk_cm τ t) H → va_S (hk_A D) s.heap H locs → lv_has ls 4 [(3, .int (nI j)), (0, .ref (G.1 (.inr (0, 0)))), (1, .int (nI i))] → (∀ (H : Heap) (locs : List Loc) (ls : Array Slot), hk_H D G (hk_cm τ (hk_wh (B_m_tw i j) n t)) H → va_S (hk_A D) s.heap H locs → lv_has ls 4 [(3, .int (nI j)), (0, .ref (G.1 (.inr (0, 0)))), (1, .int (nI i))] → W p l e ({ frames := 0, cells := 0, slots := 0, locals := 0 }) s m ([.ref (G.1 (.inr (0, 0))), .int (nI i)] : List Value).toArray below meth c H locs 0 0 QQ (F0 m 125 ls [])) → W p l e ({ frames := 0, cells := 0, slots := 0, locals := 0 }) s m ([.ref (G.1 (.inr (0, 0))), .int (nI i)] : List Value).toArray below meth c H locs 0 0 QQ (F0 m 57 ls []) := by
            intro n
            induction n with
            | zero =>
              intro t H locs ls QQ hI hH hS hl kk
              obtain ⟨-, f, rm, h1, h2, h3, h4, h5⟩ := hI; omega
            | succ n ih =>
              intro t H locs ls QQ hI hH hS hl kk
              obtain ⟨hIk, f, rm, hfr0, hrm2, hf, hrm, hrf⟩ := hI
              refine lv_aload_n hx hb dX11_takes_57 rfl (lv_at hl 1 rfl) ?_
              refine hk_getr (L := (.inr (0, 0))) (v := .ref (G.1 (.inr (1, 16)))) hx hb ht hown hK hH kc_12 hM.k0 16 (by decide) rfl tw_708 rfl hM.r16 dX11_takes_58 ?_
              refine lv_iload_n hx hb dX11_takes_61 rfl (lv_at hl 0 rfl) ?_
              refine hk_ild (L := (.inr (1, 16))) (v := t (1, 16) j) hx hb hK hH hM.k16 (vp_in_nI (by omega) (by omega)) (by rw [nI_clamp (by omega)]; rfl) dX11_takes_62 ?_
              refine lv_if_le (tgt := 125) hx hb dX11_takes_63 (by decide) (fun c_7 => ?_) (fun c_7 => ?_)
              · have EB_8 : (B_m_tw i j) t = none := by simp only [B_m_tw, if_pos c_7]
                exact kk H locs ls (by rw [hk_wh_n EB_8]; exact hH) hS (lv_sub hl [0, 1, 2] rfl)
              · refine lv_aload_n hx hb dX11_takes_66 rfl (lv_at hl 1 rfl) ?_
                refine hk_getr (L := (.inr (0, 0))) (v := .ref (G.1 (.inr (1, 22)))) hx hb ht hown hK hH kc_12 hM.k0 22 (by decide) rfl tw_714 rfl hM.r22 dX11_takes_67 ?_
                refine lv_iload_n hx hb dX11_takes_70 rfl (lv_at hl 2 rfl) ?_
                refine hk_ild (L := (.inr (1, 22))) (v := t (1, 22) i) hx hb hK hH hM.k22 (vp_in_nI (by omega) (by omega)) (by rw [nI_clamp (by omega)]; rfl) dX11_takes_71 ?_
                refine lv_aload_n hx hb dX11_takes_72 rfl (lv_at hl 1 rfl) ?_
                refine hk_getr (L := (.inr (0, 0))) (v := .ref (G.1 (.inr (1, 19)))) hx hb ht hown hK hH kc_12 hM.k0 19 (by decide) rfl tw_711 rfl hM.r19 dX11_takes_73 ?_
                refine lv_iload_n hx hb dX11_takes_76 rfl (lv_at hl 2 rfl) ?_
                refine hk_ild (L := (.inr (1, 19))) (v := t (1, 19) i) hx hb hK hH hM.k19 (vp_in_nI (by omega) (by omega)) (by rw [nI_clamp (by omega)]; rfl) dX11_takes_77 ?_
                refine lv_icmp_ge (tgt := 125) hx hb dX11_takes_78 (by decide) (fun c_9 => ?_) (fun c_9 => ?_)
                · have EB_10 : (B_m_tw i j) t = none := by simp only [B_m_tw, if_neg c_7, if_pos c_9]
                  exact kk H locs ls (by rw [hk_wh_n EB_10]; exact hH) hS (lv_sub hl [0, 1, 2] rfl)
                · refine lv_aload_n hx hb dX11_takes_81 rfl (lv_at hl 1 rfl) ?_
                  refine hk_getr (L := (.inr (0, 0))) (v := .ref (G.1 (.inr (1, 16)))) hx hb ht hown hK hH kc_12 hM.k0 16 (by decide) rfl tw_708 rfl hM.r16 dX11_takes_82 ?_
                  refine lv_iload_n hx hb dX11_takes_85 rfl (lv_at hl 0 rfl) ?_
                  refine lv_dup2_11 hx hb dX11_takes_86 rfl rfl ?_
                  refine hk_ild (L := (.inr (1, 16))) (v := t (1, 16) j) hx hb hK hH hM.k16 (vp_in_nI (by omega) (by omega)) (by rw [nI_clamp (by omega)]; rfl) dX11_takes_87 ?_
                  refine lv_iconst (v := 1) hx hb dX11_takes_88 (by decide) ?_
                  refine lv_isub hx hb dX11_takes_89 ?_
                  refine hk_ist (L := (.inr (1, 16))) hx hb hK hH hS hM.k16 (vp_in_nI (by omega) (by omega)) dX11_takes_90 (fun H locs hH hS => ?_)
                  rw [hk_up_r, nI_clamp (by omega)] at hH
                  refine lv_aload_n hx hb dX11_takes_91 rfl (lv_at hl 1 rfl) ?_
                  refine hk_getr (L := (.inr (0, 0))) (v := .ref (G.1 (.inr (1, 23)))) hx hb ht hown hK hH kc_12 hM.k0 23 (by decide) rfl tw_715 rfl hM.r23 dX11_takes_92 ?_
                  refine lv_sipush (v := 200) hx hb dX11_takes_95 (by decide) ?_
                  refine lv_iload_n hx hb dX11_takes_98 rfl (lv_at hl 2 rfl) ?_
                  refine lv_imul hx hb dX11_takes_99 ?_
                  rw [show (200 : Int32) * nI i = nI (200 * i) from pk_mul 200 _]
                  refine lv_aload_n hx hb dX11_takes_100 rfl (lv_at hl 1 rfl) ?_
                  refine hk_getr (L := (.inr (0, 0))) (v := .ref (G.1 (.inr (1, 22)))) hx hb ht hown hK hH kc_12 hM.k0 22 (by decide) rfl tw_714 rfl hM.r22 dX11_takes_101 ?_
                  refine lv_iload_n hx hb dX11_takes_104 rfl (lv_at hl 2 rfl) ?_
                  refine hk_ild (L := (.inr (1, 22))) (v := t (1, 22) i) hx hb hK hH hM.k22 (vp_in_nI (by omega) (by omega)) (by rw [nI_clamp (by omega)]; simp [hk_cm, hk_u_ap]) dX11_takes_105 ?_
                  refine lv_iadd hx hb dX11_takes_106 ?_
                  refine lv_iload_n hx hb dX11_takes_107 rfl (lv_at hl 0 rfl) ?_
                  refine lv_bipush (v := 6) hx hb dX11_takes_108 (by decide) ?_
                  refine lv_irem hx hb dX11_takes_110 (by decide) ?_
                  rw [show nI j - nI j / 6 * 6 = nI (j % 6) from pk_rem (d := 6) (by omega) (by omega) (by omega)]
                  refine hk_ist (L := (.inr (1, 23))) hx hb hK hH hS hM.k23 (tw_in hf hi (by have := tw_lt hfr0 hrm2 hf hrm c_9; omega)) dX11_takes_111 (fun H locs hH hS => ?_)
                  rw [hk_up_r] at hH
                  refine lv_aload_n hx hb dX11_takes_112 rfl (lv_at hl 1 rfl) ?_
                  refine hk_getr (L := (.inr (0, 0))) (v := .ref (G.1 (.inr (1, 22)))) hx hb ht hown hK hH kc_12 hM.k0 22 (by decide) rfl tw_714 rfl hM.r22 dX11_takes_113 ?_
                  refine lv_iload_n hx hb dX11_takes_116 rfl (lv_at hl 2 rfl) ?_
                  refine lv_dup2_11 hx hb dX11_takes_117 rfl rfl ?_
                  refine hk_ild (L := (.inr (1, 22))) (v := t (1, 22) i) hx hb hK hH hM.k22 (vp_in_nI (by omega) (by omega)) (by rw [nI_clamp (by omega)]; simp [hk_cm, hk_u_ap]) dX11_takes_118 ?_
                  refine lv_iconst (v := 1) hx hb dX11_takes_119 (by decide) ?_
                  refine lv_iadd hx hb dX11_takes_120 ?_
                  refine hk_ist (L := (.inr (1, 22))) hx hb hK hH hS hM.k22 (vp_in_nI (by omega) (by omega)) dX11_takes_121 (fun H locs hH hS => ?_)
                  rw [hk_up_r, nI_clamp (by omega)] at hH
                  refine lv_goto (tgt := 57) hx hb dX11_takes_122 (by decide) ?_
                  have EB_11 : (B_m_tw i j) t = some (hk_u (hk_u (hk_u t (1, 16) j ((t (1, 16) j) - 1)) (1, 23) (((nI (200 * i)) + (t (1, 22) i)).toNatClampNeg) (nI (j % 6))) (1, 22) i ((t (1, 22) i) + 1)) := by simp only [B_m_tw, if_neg c_7, if_neg c_9]
                  have hI2 := tw_step (i := i) (j := j) hIk hfr0 hrm2 hf hrm hrf c_9
                  exact ih (hk_u (hk_u (hk_u t (1, 16) j ((t (1, 16) j) - 1)) (1, 23) (((nI (200 * i)) + (t (1, 22) i)).toNatClampNeg) (nI (j % 6))) (1, 22) i ((t (1, 22) i) + 1)) _ _ _ QQ hI2 hH hS (lv_sub hl [0, 1, 2] rfl) (fun H locs ls hH hS hl => kk H locs ls (by rw [hk_wh_s EB_11]; exact hH) hS hl)
          refine LP_6 201 t _ _ _ _ (tw_init hI_m_tk) hH hS (lv_sub hl [0, 1, 2] rfl) (fun H locs ls hH hS hl => ?_)
          refine lv_iinc (v := nI (j + 1)) (lv' := [(3, .int (nI (j + 1))), (0, .ref (G.1 (.inr (0, 0)))), (1, .int (nI i))]) hx hb dX11_takes_125 hl (k := 0) rfl (nI_1 _) (by decide) rfl (fun ls hl => ?_)
          refine lv_goto (tgt := 43) hx hb dX11_takes_128 (by decide) ?_
          have EB_12 : (B_m_tk i) j t = (hk_wh (B_m_tw i j) 201 t) := by simp only [B_m_tk]
          have hI2 : (hk_tk i σ (hk_wh (B_m_tw i j) 201 t)) := by
            exact tw_keep hI_m_tk
          exact ih (j + 1) (hk_wh (B_m_tw i j) 201 t) _ _ _ QQ (by omega) hI2 hH hS (lv_sub hl [0, 1, 2] rfl) (fun H locs ls hH hS hl hI_m_tk => kk H locs ls (by rw [hk_it_s, EB_12]; exact hH) hS hl (by first | exact hI_m_tk | (rw [hk_it_s, EB_12]; exact hI_m_tk)))
      refine LP_3 ((6 * nw) + 6 - (6 * (nw - 24))) (6 * (nw - 24)) (hk_u σ (1, 21) i 0) _ _ _ _ (by omega) ⟨fun q k h1 h2 h3 h4 => by rw [hk_u_ap, if_neg (fun e => h2 e.1)], by obtain ⟨f, rm, h1, h2, h3, h4⟩ := hfl; exact ⟨f, rm, h1, h2, by simpa [hk_u_ap] using h3, by simpa [hk_u_ap] using h4⟩⟩ hH hS (lv_sub hl [0, 2, 3] rfl) (fun H locs ls hH hS hl hI_m_tk => ?_)
      exact hk_vret hx hb hr hlocks hH hS ⟨rfl, rfl, (by simp only [T_m_takes, if_pos c_1, if_pos c_2])⟩ dX11_takes_131
    · refine lv_aload_n hx hb dX11_takes_26 rfl (lv_at hl 0 rfl) ?_
      refine hk_geti (L := (.inr (0, 0))) (v := nI nw) hx hb ht hown hK hH kc_12 hM.k0 0 (by decide) rfl tw_692 rfl (by simpa [hk_cm, hk_u_ap] using hnow) dX11_takes_27 ?_
      refine lv_bipush (v := 24) hx hb dX11_takes_30 (by decide) ?_
      refine lv_isub hx hb dX11_takes_32 ?_
      refine lv_goto (tgt := 37) hx hb dX11_takes_33 (by decide) ?_
      rw [show ((nI nw) - 24 : Int32) = nI (nw - 24) from tk_h1 hnw c_2]
      refine lv_istore_n (lv' := [(2, .int (nI (nw - 24))), (0, .ref (G.1 (.inr (0, 0)))), (1, .int (nI i))]) hx hb dX11_takes_37 rfl hl (by decide) rfl (fun ls hl => ?_)
      refine lv_bipush (v := 6) hx hb dX11_takes_38 (by decide) ?_
      refine lv_iload_n hx hb dX11_takes_40 rfl (lv_at hl 0 rfl) ?_
      refine lv_imul hx hb dX11_takes_41 ?_
      rw [show (6 : Int32) * nI (nw - 24) = nI (6 * (nw - 24)) from pk_mul 6 _]
      refine lv_istore_n (lv' := [(3, .int (nI (6 * (nw - 24)))), (2, .int (nI (nw - 24))), (0, .ref (G.1 (.inr (0, 0)))), (1, .int (nI i))]) hx hb dX11_takes_42 rfl hl (by decide) rfl (fun ls hl => ?_)
      have LP_13 : ∀ (r j : Nat) (t : hk_v) (H : Heap) (locs : List Loc) (ls : Array Slot) (QQ : State → Prop), j + r = (6 * nw) + 6 → (hk_tk i σ t) → hk_H D G (hk_cm τ t) H → va_S (hk_A D) s.heap H locs → lv_has ls 4 [(3, .int (nI j)), (0, .ref (G.1 (.inr (0, 0)))), (1, .int (nI i))] → (∀ (H : Heap) (locs : List Loc) (ls : Array Slot), hk_H D G (hk_cm τ (hk_it (B_m_tk i) r j t)) H → va_S (hk_A D) s.heap H locs → lv_has ls 4 [(3, .int (nI ((6 * nw) + 6))), (0, .ref (G.1 (.inr (0, 0)))), (1, .int (nI i))] → (hk_tk i σ (hk_it (B_m_tk i) r j t)) → W p l e ({ frames := 0, cells := 0, slots := 0, locals := 0 }) s m ([.ref (G.1 (.inr (0, 0))), .int (nI i)] : List Value).toArray below meth c H locs 0 0 QQ (F0 m 131 ls [])) → W p l e ({ frames := 0, cells := 0, slots := 0, locals := 0 }) s m ([.ref (G.1 (.inr (0, 0))), .int (nI i)] : List Value).toArray below meth c H locs 0 0 QQ (F0 m 43 ls []) := by
        intro r
        induction r with
        | zero =>
          intro j t H locs ls QQ hn_m_tk hI_m_tk hH hS hl kk
          refine lv_iload_n hx hb dX11_takes_43 rfl (lv_at hl 0 rfl) ?_
          refine lv_bipush (v := 6) hx hb dX11_takes_44 (by decide) ?_
          refine lv_aload_n hx hb dX11_takes_46 rfl (lv_at hl 1 rfl) ?_
          refine hk_geti (L := (.inr (0, 0))) (v := nI nw) hx hb ht hown hK hH kc_12 hM.k0 0 (by decide) rfl tw_692 rfl (by show t (0, 0) 0 = _; rw [hI_m_tk.1 _ _ (by decide) (by decide) (by decide) (by decide)]; exact hnow) dX11_takes_47 ?_
          refine lv_imul hx hb dX11_takes_50 ?_
          rw [show (6 : Int32) * nI nw = nI (6 * nw) from pk_mul 6 _]
          refine lv_bipush (v := 6) hx hb dX11_takes_51 (by decide) ?_
          refine lv_iadd hx hb dX11_takes_53 ?_
          rw [show nI (6 * nw) + 6 = nI ((6 * nw) + 6) from nI_add _ 6]
          refine lv_icmp_ge (tgt := 131) hx hb dX11_takes_54 (by decide) (fun c_14 => ?_) (fun c_14 => ?_)
          rotate_left
          · exfalso; first | exact nI_ge (by omega) (by omega) c_14 | exact c_14 (nI_le (by omega) (by omega)) | exact nI_nlt (by omega) (by omega) c_14 | exact c_14 (nI_lt (by omega) (by omega))
          have hiN : j = (6 * nw) + 6 := by omega
          rw [hiN] at hl
          exact kk H locs ls hH hS (lv_sub hl [0, 1, 2] rfl) hI_m_tk
        | succ r ih =>
          intro j t H locs ls QQ hn_m_tk hI_m_tk hH hS hl kk
          refine lv_iload_n hx hb dX11_takes_43 rfl (lv_at hl 0 rfl) ?_
          refine lv_bipush (v := 6) hx hb dX11_takes_44 (by decide) ?_
          refine lv_aload_n hx hb dX11_takes_46 rfl (lv_at hl 1 rfl) ?_
          refine hk_geti (L := (.inr (0, 0))) (v := nI nw) hx hb ht hown hK hH kc_12 hM.k0 0 (by decide) rfl tw_692 rfl (by show t (0, 0) 0 = _; rw [hI_m_tk.1 _ _ (by decide) (by decide) (by decide) (by decide)]; exact hnow) dX11_takes_47 ?_
          refine lv_imul hx hb dX11_takes_50 ?_
          rw [show (6 : Int32) * nI nw = nI (6 * nw) from pk_mul 6 _]
          refine lv_bipush (v := 6) hx hb dX11_takes_51 (by decide) ?_
          refine lv_iadd hx hb dX11_takes_53 ?_
          rw [show nI (6 * nw) + 6 = nI ((6 * nw) + 6) from nI_add _ 6]
          refine lv_icmp_ge (tgt := 131) hx hb dX11_takes_54 (by decide) (fun c_15 => ?_) (fun c_15 => ?_)
          · exfalso; first | exact nI_ge (by omega) (by omega) c_15 | exact c_15 (nI_le (by omega) (by omega)) | exact nI_nlt (by omega) (by omega) c_15 | exact c_15 (nI_lt (by omega) (by omega))
          have LP_16 : ∀ (n : Nat) (t : hk_v) (H : Heap) (locs : List Loc) (ls : Array Slot) (QQ : State → Prop), ((∀ q k, q ≠ (1, 16) → q ≠ (1, 21) → q ≠ (1, 22) → q ≠ (1, 23) → t q k = σ q k) ∧ ∃ f rm : Nat, f ≤ rm ∧ rm ≤ 200 ∧ t (1, 22) i = nI f ∧ t (1, 19) i = nI rm ∧ rm < n + f) → hk_H D G (hk_cm τ t) H → va_S (hk_A D) s.heap H locs → lv_has ls 4 [(3, .int (nI j)), (0, .ref (G.1 (.inr (0, 0)))), (1, .int (nI i))] → (∀ (H : Heap) (locs : List Loc) (ls : Array Slot), hk_H D G (hk_cm τ (hk_wh (B_m_tw i j) n t)) H → va_S (hk_A D) s.heap H locs → lv_has ls 4 [(3, .int (nI j)), (0, .ref (G.1 (.inr (0, 0)))), (1, .int (nI i))] → W p l e ({ frames := 0, cells := 0, slots := 0, locals := 0 }) s m ([.ref (G.1 (.inr (0, 0))), .int (nI i)] : List Value).toArray below meth c H locs 0 0 QQ (F0 m 125 ls [])) → W p l e ({ frames := 0, cells := 0, slots := 0, locals := 0 }) s m ([.ref (G.1 (.inr (0, 0))), .int (nI i)] : List Value).toArray below meth c H locs 0 0 QQ (F0 m 57 ls []) := by
            intro n
            induction n with
            | zero =>
              intro t H locs ls QQ hI hH hS hl kk
              obtain ⟨-, f, rm, h1, h2, h3, h4, h5⟩ := hI; omega
            | succ n ih =>
              intro t H locs ls QQ hI hH hS hl kk
              obtain ⟨hIk, f, rm, hfr0, hrm2, hf, hrm, hrf⟩ := hI
              refine lv_aload_n hx hb dX11_takes_57 rfl (lv_at hl 1 rfl) ?_
              refine hk_getr (L := (.inr (0, 0))) (v := .ref (G.1 (.inr (1, 16)))) hx hb ht hown hK hH kc_12 hM.k0 16 (by decide) rfl tw_708 rfl hM.r16 dX11_takes_58 ?_
              refine lv_iload_n hx hb dX11_takes_61 rfl (lv_at hl 0 rfl) ?_
              refine hk_ild (L := (.inr (1, 16))) (v := t (1, 16) j) hx hb hK hH hM.k16 (vp_in_nI (by omega) (by omega)) (by rw [nI_clamp (by omega)]; rfl) dX11_takes_62 ?_
              refine lv_if_le (tgt := 125) hx hb dX11_takes_63 (by decide) (fun c_17 => ?_) (fun c_17 => ?_)
              · have EB_18 : (B_m_tw i j) t = none := by simp only [B_m_tw, if_pos c_17]
                exact kk H locs ls (by rw [hk_wh_n EB_18]; exact hH) hS (lv_sub hl [0, 1, 2] rfl)
              · refine lv_aload_n hx hb dX11_takes_66 rfl (lv_at hl 1 rfl) ?_
                refine hk_getr (L := (.inr (0, 0))) (v := .ref (G.1 (.inr (1, 22)))) hx hb ht hown hK hH kc_12 hM.k0 22 (by decide) rfl tw_714 rfl hM.r22 dX11_takes_67 ?_
                refine lv_iload_n hx hb dX11_takes_70 rfl (lv_at hl 2 rfl) ?_
                refine hk_ild (L := (.inr (1, 22))) (v := t (1, 22) i) hx hb hK hH hM.k22 (vp_in_nI (by omega) (by omega)) (by rw [nI_clamp (by omega)]; rfl) dX11_takes_71 ?_
                refine lv_aload_n hx hb dX11_takes_72 rfl (lv_at hl 1 rfl) ?_
                refine hk_getr (L := (.inr (0, 0))) (v := .ref (G.1 (.inr (1, 19)))) hx hb ht hown hK hH kc_12 hM.k0 19 (by decide) rfl tw_711 rfl hM.r19 dX11_takes_73 ?_
                refine lv_iload_n hx hb dX11_takes_76 rfl (lv_at hl 2 rfl) ?_
                refine hk_ild (L := (.inr (1, 19))) (v := t (1, 19) i) hx hb hK hH hM.k19 (vp_in_nI (by omega) (by omega)) (by rw [nI_clamp (by omega)]; rfl) dX11_takes_77 ?_
                refine lv_icmp_ge (tgt := 125) hx hb dX11_takes_78 (by decide) (fun c_19 => ?_) (fun c_19 => ?_)
                · have EB_20 : (B_m_tw i j) t = none := by simp only [B_m_tw, if_neg c_17, if_pos c_19]
                  exact kk H locs ls (by rw [hk_wh_n EB_20]; exact hH) hS (lv_sub hl [0, 1, 2] rfl)
                · refine lv_aload_n hx hb dX11_takes_81 rfl (lv_at hl 1 rfl) ?_
                  refine hk_getr (L := (.inr (0, 0))) (v := .ref (G.1 (.inr (1, 16)))) hx hb ht hown hK hH kc_12 hM.k0 16 (by decide) rfl tw_708 rfl hM.r16 dX11_takes_82 ?_
                  refine lv_iload_n hx hb dX11_takes_85 rfl (lv_at hl 0 rfl) ?_
                  refine lv_dup2_11 hx hb dX11_takes_86 rfl rfl ?_
                  refine hk_ild (L := (.inr (1, 16))) (v := t (1, 16) j) hx hb hK hH hM.k16 (vp_in_nI (by omega) (by omega)) (by rw [nI_clamp (by omega)]; rfl) dX11_takes_87 ?_
                  refine lv_iconst (v := 1) hx hb dX11_takes_88 (by decide) ?_
                  refine lv_isub hx hb dX11_takes_89 ?_
                  refine hk_ist (L := (.inr (1, 16))) hx hb hK hH hS hM.k16 (vp_in_nI (by omega) (by omega)) dX11_takes_90 (fun H locs hH hS => ?_)
                  rw [hk_up_r, nI_clamp (by omega)] at hH
                  refine lv_aload_n hx hb dX11_takes_91 rfl (lv_at hl 1 rfl) ?_
                  refine hk_getr (L := (.inr (0, 0))) (v := .ref (G.1 (.inr (1, 23)))) hx hb ht hown hK hH kc_12 hM.k0 23 (by decide) rfl tw_715 rfl hM.r23 dX11_takes_92 ?_
                  refine lv_sipush (v := 200) hx hb dX11_takes_95 (by decide) ?_
                  refine lv_iload_n hx hb dX11_takes_98 rfl (lv_at hl 2 rfl) ?_
                  refine lv_imul hx hb dX11_takes_99 ?_
                  rw [show (200 : Int32) * nI i = nI (200 * i) from pk_mul 200 _]
                  refine lv_aload_n hx hb dX11_takes_100 rfl (lv_at hl 1 rfl) ?_
                  refine hk_getr (L := (.inr (0, 0))) (v := .ref (G.1 (.inr (1, 22)))) hx hb ht hown hK hH kc_12 hM.k0 22 (by decide) rfl tw_714 rfl hM.r22 dX11_takes_101 ?_
                  refine lv_iload_n hx hb dX11_takes_104 rfl (lv_at hl 2 rfl) ?_
                  refine hk_ild (L := (.inr (1, 22))) (v := t (1, 22) i) hx hb hK hH hM.k22 (vp_in_nI (by omega) (by omega)) (by rw [nI_clamp (by omega)]; simp [hk_cm, hk_u_ap]) dX11_takes_105 ?_
                  refine lv_iadd hx hb dX11_takes_106 ?_
                  refine lv_iload_n hx hb dX11_takes_107 rfl (lv_at hl 0 rfl) ?_
                  refine lv_bipush (v := 6) hx hb dX11_takes_108 (by decide) ?_
                  refine lv_irem hx hb dX11_takes_110 (by decide) ?_
                  rw [show nI j - nI j / 6 * 6 = nI (j % 6) from pk_rem (d := 6) (by omega) (by omega) (by omega)]
                  refine hk_ist (L := (.inr (1, 23))) hx hb hK hH hS hM.k23 (tw_in hf hi (by have := tw_lt hfr0 hrm2 hf hrm c_19; omega)) dX11_takes_111 (fun H locs hH hS => ?_)
                  rw [hk_up_r] at hH
                  refine lv_aload_n hx hb dX11_takes_112 rfl (lv_at hl 1 rfl) ?_
                  refine hk_getr (L := (.inr (0, 0))) (v := .ref (G.1 (.inr (1, 22)))) hx hb ht hown hK hH kc_12 hM.k0 22 (by decide) rfl tw_714 rfl hM.r22 dX11_takes_113 ?_
                  refine lv_iload_n hx hb dX11_takes_116 rfl (lv_at hl 2 rfl) ?_
                  refine lv_dup2_11 hx hb dX11_takes_117 rfl rfl ?_
                  refine hk_ild (L := (.inr (1, 22))) (v := t (1, 22) i) hx hb hK hH hM.k22 (vp_in_nI (by omega) (by omega)) (by rw [nI_clamp (by omega)]; simp [hk_cm, hk_u_ap]) dX11_takes_118 ?_
                  refine lv_iconst (v := 1) hx hb dX11_takes_119 (by decide) ?_
                  refine lv_iadd hx hb dX11_takes_120 ?_
                  refine hk_ist (L := (.inr (1, 22))) hx hb hK hH hS hM.k22 (vp_in_nI (by omega) (by omega)) dX11_takes_121 (fun H locs hH hS => ?_)
                  rw [hk_up_r, nI_clamp (by omega)] at hH
                  refine lv_goto (tgt := 57) hx hb dX11_takes_122 (by decide) ?_
                  have EB_21 : (B_m_tw i j) t = some (hk_u (hk_u (hk_u t (1, 16) j ((t (1, 16) j) - 1)) (1, 23) (((nI (200 * i)) + (t (1, 22) i)).toNatClampNeg) (nI (j % 6))) (1, 22) i ((t (1, 22) i) + 1)) := by simp only [B_m_tw, if_neg c_17, if_neg c_19]
                  have hI2 := tw_step (i := i) (j := j) hIk hfr0 hrm2 hf hrm hrf c_19
                  exact ih (hk_u (hk_u (hk_u t (1, 16) j ((t (1, 16) j) - 1)) (1, 23) (((nI (200 * i)) + (t (1, 22) i)).toNatClampNeg) (nI (j % 6))) (1, 22) i ((t (1, 22) i) + 1)) _ _ _ QQ hI2 hH hS (lv_sub hl [0, 1, 2] rfl) (fun H locs ls hH hS hl => kk H locs ls (by rw [hk_wh_s EB_21]; exact hH) hS hl)
          refine LP_16 201 t _ _ _ _ (tw_init hI_m_tk) hH hS (lv_sub hl [0, 1, 2] rfl) (fun H locs ls hH hS hl => ?_)
          refine lv_iinc (v := nI (j + 1)) (lv' := [(3, .int (nI (j + 1))), (0, .ref (G.1 (.inr (0, 0)))), (1, .int (nI i))]) hx hb dX11_takes_125 hl (k := 0) rfl (nI_1 _) (by decide) rfl (fun ls hl => ?_)
          refine lv_goto (tgt := 43) hx hb dX11_takes_128 (by decide) ?_
          have EB_22 : (B_m_tk i) j t = (hk_wh (B_m_tw i j) 201 t) := by simp only [B_m_tk]
          have hI2 : (hk_tk i σ (hk_wh (B_m_tw i j) 201 t)) := by
            exact tw_keep hI_m_tk
          exact ih (j + 1) (hk_wh (B_m_tw i j) 201 t) _ _ _ QQ (by omega) hI2 hH hS (lv_sub hl [0, 1, 2] rfl) (fun H locs ls hH hS hl hI_m_tk => kk H locs ls (by rw [hk_it_s, EB_22]; exact hH) hS hl (by first | exact hI_m_tk | (rw [hk_it_s, EB_22]; exact hI_m_tk)))
      refine LP_13 ((6 * nw) + 6 - (6 * (nw - 24))) (6 * (nw - 24)) (hk_u σ (1, 21) i 0) _ _ _ _ (by omega) ⟨fun q k h1 h2 h3 h4 => by rw [hk_u_ap, if_neg (fun e => h2 e.1)], by obtain ⟨f, rm, h1, h2, h3, h4⟩ := hfl; exact ⟨f, rm, h1, h2, by simpa [hk_u_ap] using h3, by simpa [hk_u_ap] using h4⟩⟩ hH hS (lv_sub hl [0, 2, 3] rfl) (fun H locs ls hH hS hl hI_m_tk => ?_)
      exact hk_vret hx hb hr hlocks hH hS ⟨rfl, rfl, (by simp only [T_m_takes, if_pos c_1, if_neg c_2])⟩ dX11_takes_131
  · exact hk_vret hx hb hr hlocks hH hS ⟨rfl, rfl, (by simp only [T_m_takes, if_neg c_1])⟩ dX11_takes_9
