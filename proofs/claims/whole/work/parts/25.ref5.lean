theorem gr_in {j n : Nat} {g : Int32} (hj : j < n) (hn : n ≤ 480) (hg : vp_in g 6) : vp_in (nI (6 * j) + g) 2886 := by
  obtain ⟨k, hk, rfl⟩ := vp_in_of hg (by omega)
  rw [nI_add]; exact vp_in_nI (by omega) (by omega)
def B_m_greenOf (g : Int32) (σ : hk_v) (j : Nat) (sum : Int32) : Int32 := sum + (σ (1, 16) (((nI (6 * j)) + g).toNatClampNeg))
def F_m_greenOf (σ : hk_v) (nw : Nat) (g : Int32) : Int32 := (hk_it (B_m_greenOf g σ) nw 0 0)
set_option maxHeartbeats 4000000 in
set_option maxRecDepth 100000 in
theorem c_m_greenOf (l : Launch) (D : hk_D) (G : hk_G) (Z : hk_Z) (τ σ : hk_v) (nw : Nat) (g : Int32) (hM : hk_M G) (hnow : σ (0, 0) 0 = nI nw) (hnw : nw ≤ 480) (hv6 : vp_in g 6) : Met l yX11_greenOf (hk_ws yX11_greenOf cX11_greenOf 4 (some FieldType.int)) ({ frames := 0, cells := 0, slots := 0, locals := 0 }) (hk_P D G (hk_cm τ σ) [.ref (G.1 (.inr (0, 0))), .int g]) (hk_Q D (hk_e G (some (.int (F_m_greenOf σ nw g))) (hk_cm τ σ))) 0 0 (hk_A D) := by
  refine hk_met (by decide +kernel) (Nat.le_of_ble_eq_true rfl) (fun p e s m below meth c hx hb hr hml hlocks ht hown hin hK hH hS ls hl => ?_)
  have hl : lv_has ls 4 [(0, .ref (G.1 (.inr (0, 0)))), (1, .int g)] := hl
  refine lv_iconst (v := 0) hx hb dX11_greenOf_0 (by decide) ?_
  refine lv_istore_n (lv' := [(2, .int 0), (0, .ref (G.1 (.inr (0, 0)))), (1, .int g)]) hx hb dX11_greenOf_1 rfl hl (by decide) rfl (fun ls hl => ?_)
  refine lv_iconst (v := 0) hx hb dX11_greenOf_2 (by decide) ?_
  refine lv_istore_n (lv' := [(3, .int 0), (2, .int 0), (0, .ref (G.1 (.inr (0, 0)))), (1, .int g)]) hx hb dX11_greenOf_3 rfl hl (by decide) rfl (fun ls hl => ?_)
  have LP_1 : ∀ (r j : Nat) (sum : Int32) (H : Heap) (locs : List Loc) (ls : Array Slot) (QQ : State → Prop), j + r = nw → hk_H D G (hk_cm τ σ) H → va_S (hk_A D) s.heap H locs → lv_has ls 4 [(3, .int (nI j)), (2, .int sum), (0, .ref (G.1 (.inr (0, 0)))), (1, .int g)] → (∀ (H : Heap) (locs : List Loc) (ls : Array Slot), hk_H D G (hk_cm τ σ) H → va_S (hk_A D) s.heap H locs → lv_has ls 4 [(3, .int (nI nw)), (2, .int (hk_it (B_m_greenOf g σ) r j sum)), (0, .ref (G.1 (.inr (0, 0)))), (1, .int g)] → W p l e ({ frames := 0, cells := 0, slots := 0, locals := 0 }) s m ([.ref (G.1 (.inr (0, 0))), .int g] : List Value).toArray below meth c H locs 0 0 QQ (F0 m 32 ls [])) → W p l e ({ frames := 0, cells := 0, slots := 0, locals := 0 }) s m ([.ref (G.1 (.inr (0, 0))), .int g] : List Value).toArray below meth c H locs 0 0 QQ (F0 m 4 ls []) := by
    intro r
    induction r with
    | zero =>
      intro j sum H locs ls QQ hn_m_greenOf hH hS hl kk
      refine lv_iload_n hx hb dX11_greenOf_4 rfl (lv_at hl 0 rfl) ?_
      refine lv_aload_n hx hb dX11_greenOf_5 rfl (lv_at hl 2 rfl) ?_
      refine hk_geti (L := (.inr (0, 0))) (v := nI nw) hx hb ht hown hK hH kc_12 hM.k0 0 (by decide) rfl tw_692 rfl (by exact hnow) dX11_greenOf_6 ?_
      refine lv_icmp_ge (tgt := 32) hx hb dX11_greenOf_9 (by decide) (fun c_2 => ?_) (fun c_2 => ?_)
      rotate_left
      · exfalso; first | exact nI_ge (by omega) (by omega) c_2 | exact c_2 (nI_le (by omega) (by omega)) | exact nI_nlt (by omega) (by omega) c_2 | exact c_2 (nI_lt (by omega) (by omega))
      have hiN : j = nw := by omega
      rw [hiN] at hl
      exact kk H locs ls hH hS (lv_sub hl [0, 1, 2, 3] rfl)
    | succ r ih =>
      intro j sum H locs ls QQ hn_m_greenOf hH hS hl kk
      refine lv_iload_n hx hb dX11_greenOf_4 rfl (lv_at hl 0 rfl) ?_
      refine lv_aload_n hx hb dX11_greenOf_5 rfl (lv_at hl 2 rfl) ?_
      refine hk_geti (L := (.inr (0, 0))) (v := nI nw) hx hb ht hown hK hH kc_12 hM.k0 0 (by decide) rfl tw_692 rfl (by exact hnow) dX11_greenOf_6 ?_
      refine lv_icmp_ge (tgt := 32) hx hb dX11_greenOf_9 (by decide) (fun c_3 => ?_) (fun c_3 => ?_)
      · exfalso; first | exact nI_ge (by omega) (by omega) c_3 | exact c_3 (nI_le (by omega) (by omega)) | exact nI_nlt (by omega) (by omega) c_3 | exact c_3 (nI_lt (by omega) (by omega))
      refine lv_iload_n hx hb dX11_greenOf_12 rfl (lv_at hl 1 rfl) ?_
      refine lv_aload_n hx hb dX11_greenOf_13 rfl (lv_at hl 2 rfl) ?_
      refine hk_getr (L := (.inr (0, 0))) (v := .ref (G.1 (.inr (1, 16)))) hx hb ht hown hK hH kc_12 hM.k0 16 (by decide) rfl tw_708 rfl hM.r16 dX11_greenOf_14 ?_
      refine lv_bipush (v := 6) hx hb dX11_greenOf_17 (by decide) ?_
      refine lv_iload_n hx hb dX11_greenOf_19 rfl (lv_at hl 0 rfl) ?_
      refine lv_imul hx hb dX11_greenOf_20 ?_
      rw [show (6 : Int32) * nI j = nI (6 * j) from pk_mul 6 _]
      refine lv_iload_n hx hb dX11_greenOf_21 rfl (lv_at hl 3 rfl) ?_
      refine lv_iadd hx hb dX11_greenOf_22 ?_
      refine hk_ild (L := (.inr (1, 16))) (v := σ (1, 16) (((nI (6 * j)) + g).toNatClampNeg)) hx hb hK hH hM.k16 (gr_in (n := nw) (by omega) hnw hv6) rfl dX11_greenOf_23 ?_
      refine lv_iadd hx hb dX11_greenOf_24 ?_
      refine lv_istore_n (lv' := [(2, .int (sum + (σ (1, 16) (((nI (6 * j)) + g).toNatClampNeg)))), (3, .int (nI j)), (0, .ref (G.1 (.inr (0, 0)))), (1, .int g)]) hx hb dX11_greenOf_25 rfl hl (by decide) rfl (fun ls hl => ?_)
      refine lv_iinc (v := nI (j + 1)) (lv' := [(3, .int (nI (j + 1))), (2, .int (sum + (σ (1, 16) (((nI (6 * j)) + g).toNatClampNeg)))), (0, .ref (G.1 (.inr (0, 0)))), (1, .int g)]) hx hb dX11_greenOf_26 hl (k := 1) rfl (nI_1 _) (by decide) rfl (fun ls hl => ?_)
      refine lv_goto (tgt := 4) hx hb dX11_greenOf_29 (by decide) ?_
      have EB_4 : (B_m_greenOf g σ) j sum = sum + (σ (1, 16) (((nI (6 * j)) + g).toNatClampNeg)) := by simp only [B_m_greenOf]
      exact ih (j + 1) (sum + (σ (1, 16) (((nI (6 * j)) + g).toNatClampNeg))) _ _ _ QQ (by omega) hH hS (lv_sub hl [0, 1, 2, 3] rfl) (fun H locs ls hH hS hl => kk H locs ls hH hS (by rw [hk_it_s, EB_4]; exact hl))
  refine LP_1 nw 0 0 _ _ _ _ (by omega) hH hS (lv_sub hl [0, 1, 2, 3] rfl) (fun H locs ls hH hS hl => ?_)
  refine lv_iload_n hx hb dX11_greenOf_32 rfl (lv_at hl 1 rfl) ?_
  exact hk_iret hx hb hr hlocks hH hS ⟨(by simp only [F_m_greenOf]), rfl, rfl⟩ dX11_greenOf_33
def B_m_ikb (j : Nat) (g : Int32) (σ : hk_v) (b : Nat) (sum : Int32) : Int32 := (if (σ (1, 23) ((200 * j) + b)) = g then sum + 1 else sum + 0)
def B_m_inKilns (g : Int32) (Z : hk_Z) (σ : hk_v) (j : Nat) (sum : Int32) : Int32 := (hk_it (B_m_ikb j g σ) ((σ (1, 22) j).toNatClampNeg) 0 sum)
def F_m_inKilns (Z : hk_Z) (σ : hk_v) (g : Int32) : Int32 := (hk_it (B_m_inKilns g Z σ) (Z.1 2) 0 0)
set_option maxHeartbeats 4000000 in
set_option maxRecDepth 100000 in
theorem c_m_inKilns (l : Launch) (D : hk_D) (G : hk_G) (Z : hk_Z) (τ σ : hk_v) (g : Int32) (hM : hk_M G) (hms : hk_mz Z σ) (hfi : ∀ k, k < Z.1 2 → σ (1, 22) k = nI (σ (1, 22) k).toNatClampNeg ∧ (σ (1, 22) k).toNatClampNeg ≤ 200) : Met l yX11_inKilns (hk_ws yX11_inKilns cX11_inKilns 5 (some FieldType.int)) ({ frames := 0, cells := 0, slots := 0, locals := 0 }) (hk_P D G (hk_cm τ σ) [.ref (G.1 (.inr (0, 0))), .int g]) (hk_Q D (hk_e G (some (.int (F_m_inKilns Z σ g))) (hk_cm τ σ))) 0 0 (hk_A D) := by
  refine hk_met (by decide +kernel) (Nat.le_of_ble_eq_true rfl) (fun p e s m below meth c hx hb hr hml hlocks ht hown hin hK hH hS ls hl => ?_)
  have hl : lv_has ls 5 [(0, .ref (G.1 (.inr (0, 0)))), (1, .int g)] := hl
  refine lv_iconst (v := 0) hx hb dX11_inKilns_0 (by decide) ?_
  refine lv_istore_n (lv' := [(2, .int 0), (0, .ref (G.1 (.inr (0, 0)))), (1, .int g)]) hx hb dX11_inKilns_1 rfl hl (by decide) rfl (fun ls hl => ?_)
  refine lv_iconst (v := 0) hx hb dX11_inKilns_2 (by decide) ?_
  refine lv_istore_n (lv' := [(3, .int 0), (2, .int 0), (0, .ref (G.1 (.inr (0, 0)))), (1, .int g)]) hx hb dX11_inKilns_3 rfl hl (by decide) rfl (fun ls hl => ?_)
  have LP_1 : ∀ (r j : Nat) (sum : Int32) (H : Heap) (locs : List Loc) (ls : Array Slot) (QQ : State → Prop), j + r = Z.1 2 → hk_H D G (hk_cm τ σ) H → va_S (hk_A D) s.heap H locs → lv_has ls 5 [(3, .int (nI j)), (2, .int sum), (0, .ref (G.1 (.inr (0, 0)))), (1, .int g)] → (∀ (H : Heap) (locs : List Loc) (ls : Array Slot), hk_H D G (hk_cm τ σ) H → va_S (hk_A D) s.heap H locs → lv_has ls 5 [(3, .int (nI (Z.1 2))), (2, .int (hk_it (B_m_inKilns g Z σ) r j sum)), (0, .ref (G.1 (.inr (0, 0)))), (1, .int g)] → W p l e ({ frames := 0, cells := 0, slots := 0, locals := 0 }) s m ([.ref (G.1 (.inr (0, 0))), .int g] : List Value).toArray below meth c H locs 0 0 QQ (F0 m 63 ls [])) → W p l e ({ frames := 0, cells := 0, slots := 0, locals := 0 }) s m ([.ref (G.1 (.inr (0, 0))), .int g] : List Value).toArray below meth c H locs 0 0 QQ (F0 m 4 ls []) := by
    intro r
    induction r with
    | zero =>
      intro j sum H locs ls QQ hn_m_inKilns hH hS hl kk
      have hz6 := hms.2
      refine lv_iload_n hx hb dX11_inKilns_4 rfl (lv_at hl 0 rfl) ?_
      refine lv_aload_n hx hb dX11_inKilns_5 rfl (lv_at hl 2 rfl) ?_
      refine hk_geti (L := (.inr (0, 0))) (v := σ (0, 0) 17) hx hb ht hown hK hH kc_12 hM.k0 17 (by decide) rfl tw_709 rfl rfl dX11_inKilns_6 ?_
      refine lv_icmp_ge (tgt := 63) hx hb dX11_inKilns_9 (by decide) (fun c_2 => ?_) (fun c_2 => ?_)
      rotate_left
      · exfalso; rw [hms.1.2.2] at c_2; first | exact nI_ge (by omega) (by omega) c_2 | exact c_2 (nI_le (by omega) (by omega)) | exact nI_nlt (by omega) (by omega) c_2 | exact c_2 (nI_lt (by omega) (by omega))
      have hiN : j = Z.1 2 := by omega
      rw [hiN] at hl
      exact kk H locs ls hH hS (lv_sub hl [0, 1, 2, 3] rfl)
    | succ r ih =>
      intro j sum H locs ls QQ hn_m_inKilns hH hS hl kk
      have hz6 := hms.2
      refine lv_iload_n hx hb dX11_inKilns_4 rfl (lv_at hl 0 rfl) ?_
      refine lv_aload_n hx hb dX11_inKilns_5 rfl (lv_at hl 2 rfl) ?_
      refine hk_geti (L := (.inr (0, 0))) (v := σ (0, 0) 17) hx hb ht hown hK hH kc_12 hM.k0 17 (by decide) rfl tw_709 rfl rfl dX11_inKilns_6 ?_
      refine lv_icmp_ge (tgt := 63) hx hb dX11_inKilns_9 (by decide) (fun c_3 => ?_) (fun c_3 => ?_)
      · exfalso; rw [hms.1.2.2] at c_3; first | exact nI_ge (by omega) (by omega) c_3 | exact c_3 (nI_le (by omega) (by omega)) | exact nI_nlt (by omega) (by omega) c_3 | exact c_3 (nI_lt (by omega) (by omega))
      refine lv_iconst (v := 0) hx hb dX11_inKilns_12 (by decide) ?_
      refine lv_istore (lv' := [(4, .int 0), (3, .int (nI j)), (2, .int sum), (0, .ref (G.1 (.inr (0, 0)))), (1, .int g)]) hx hb dX11_inKilns_13 hl (by decide) rfl (fun ls hl => ?_)
      have LP_4 : ∀ (r2 b : Nat) (sum : Int32) (H : Heap) (locs : List Loc) (ls : Array Slot) (QQ : State → Prop), b + r2 = (σ (1, 22) j).toNatClampNeg → hk_H D G (hk_cm τ σ) H → va_S (hk_A D) s.heap H locs → lv_has ls 5 [(4, .int (nI b)), (3, .int (nI j)), (2, .int sum), (0, .ref (G.1 (.inr (0, 0)))), (1, .int g)] → (∀ (H : Heap) (locs : List Loc) (ls : Array Slot), hk_H D G (hk_cm τ σ) H → va_S (hk_A D) s.heap H locs → lv_has ls 5 [(4, .int (nI ((σ (1, 22) j).toNatClampNeg))), (3, .int (nI j)), (2, .int (hk_it (B_m_ikb j g σ) r2 b sum)), (0, .ref (G.1 (.inr (0, 0)))), (1, .int g)] → W p l e ({ frames := 0, cells := 0, slots := 0, locals := 0 }) s m ([.ref (G.1 (.inr (0, 0))), .int g] : List Value).toArray below meth c H locs 0 0 QQ (F0 m 57 ls [])) → W p l e ({ frames := 0, cells := 0, slots := 0, locals := 0 }) s m ([.ref (G.1 (.inr (0, 0))), .int g] : List Value).toArray below meth c H locs 0 0 QQ (F0 m 15 ls []) := by
        intro r2
        induction r2 with
        | zero =>
          intro b sum H locs ls QQ hn_m_ikb hH hS hl kk
          have hf2 := (hfi j (by omega)).2
          have hz6 := hms.2
          refine lv_iload hx hb dX11_inKilns_15 (lv_at hl 0 rfl) ?_
          refine lv_aload_n hx hb dX11_inKilns_17 rfl (lv_at hl 3 rfl) ?_
          refine hk_getr (L := (.inr (0, 0))) (v := .ref (G.1 (.inr (1, 22)))) hx hb ht hown hK hH kc_12 hM.k0 22 (by decide) rfl tw_714 rfl hM.r22 dX11_inKilns_18 ?_
          refine lv_iload_n hx hb dX11_inKilns_21 rfl (lv_at hl 1 rfl) ?_
          refine hk_ild (L := (.inr (1, 22))) (v := σ (1, 22) j) hx hb hK hH hM.k22 (vp_in_nI (by omega) (by omega)) (by rw [nI_clamp (by omega)]; rfl) dX11_inKilns_22 ?_
          refine lv_icmp_ge (tgt := 57) hx hb dX11_inKilns_23 (by decide) (fun c_5 => ?_) (fun c_5 => ?_)
          rotate_left
          · exfalso; rw [(hfi j (by omega)).1] at c_5; first | exact nI_ge (by omega) (by omega) c_5 | exact c_5 (nI_le (by omega) (by omega)) | exact nI_nlt (by omega) (by omega) c_5 | exact c_5 (nI_lt (by omega) (by omega))
          have hiN : b = (σ (1, 22) j).toNatClampNeg := by omega
          rw [hiN] at hl
          exact kk H locs ls hH hS (lv_sub hl [0, 1, 2, 3, 4] rfl)
        | succ r2 ih =>
          intro b sum H locs ls QQ hn_m_ikb hH hS hl kk
          have hf2 := (hfi j (by omega)).2
          have hz6 := hms.2
          refine lv_iload hx hb dX11_inKilns_15 (lv_at hl 0 rfl) ?_
          refine lv_aload_n hx hb dX11_inKilns_17 rfl (lv_at hl 3 rfl) ?_
          refine hk_getr (L := (.inr (0, 0))) (v := .ref (G.1 (.inr (1, 22)))) hx hb ht hown hK hH kc_12 hM.k0 22 (by decide) rfl tw_714 rfl hM.r22 dX11_inKilns_18 ?_
          refine lv_iload_n hx hb dX11_inKilns_21 rfl (lv_at hl 1 rfl) ?_
          refine hk_ild (L := (.inr (1, 22))) (v := σ (1, 22) j) hx hb hK hH hM.k22 (vp_in_nI (by omega) (by omega)) (by rw [nI_clamp (by omega)]; rfl) dX11_inKilns_22 ?_
          refine lv_icmp_ge (tgt := 57) hx hb dX11_inKilns_23 (by decide) (fun c_6 => ?_) (fun c_6 => ?_)
          · exfalso; rw [(hfi j (by omega)).1] at c_6; first | exact nI_ge (by omega) (by omega) c_6 | exact c_6 (nI_le (by omega) (by omega)) | exact nI_nlt (by omega) (by omega) c_6 | exact c_6 (nI_lt (by omega) (by omega))
          refine lv_iload_n hx hb dX11_inKilns_26 rfl (lv_at hl 2 rfl) ?_
          refine lv_aload_n hx hb dX11_inKilns_27 rfl (lv_at hl 3 rfl) ?_
          refine hk_getr (L := (.inr (0, 0))) (v := .ref (G.1 (.inr (1, 23)))) hx hb ht hown hK hH kc_12 hM.k0 23 (by decide) rfl tw_715 rfl hM.r23 dX11_inKilns_28 ?_
          refine lv_sipush (v := 200) hx hb dX11_inKilns_31 (by decide) ?_
          refine lv_iload_n hx hb dX11_inKilns_34 rfl (lv_at hl 1 rfl) ?_
          refine lv_imul hx hb dX11_inKilns_35 ?_
          rw [show (200 : Int32) * nI j = nI (200 * j) from pk_mul 200 _]
          refine lv_iload hx hb dX11_inKilns_36 (lv_at hl 0 rfl) ?_
          refine lv_iadd hx hb dX11_inKilns_38 ?_
          rw [nI_add (200 * j) b]
          refine hk_ild (L := (.inr (1, 23))) (v := σ (1, 23) ((200 * j) + b)) hx hb hK hH hM.k23 (vp_in_nI (by omega) (by omega)) (by rw [nI_clamp (by omega)]; rfl) dX11_inKilns_39 ?_
          refine lv_iload_n hx hb dX11_inKilns_40 rfl (lv_at hl 4 rfl) ?_
          refine lv_icmp_ne (tgt := 48) hx hb dX11_inKilns_41 (by decide) (fun c_7 => ?_) (fun c_7 => ?_)
          · refine lv_iconst (v := 0) hx hb dX11_inKilns_48 (by decide) ?_
            refine lv_iadd hx hb dX11_inKilns_49 ?_
            refine lv_istore_n (lv' := [(2, .int (sum + 0)), (4, .int (nI b)), (3, .int (nI j)), (0, .ref (G.1 (.inr (0, 0)))), (1, .int g)]) hx hb dX11_inKilns_50 rfl hl (by decide) rfl (fun ls hl => ?_)
            refine lv_iinc (v := nI (b + 1)) (lv' := [(4, .int (nI (b + 1))), (2, .int (sum + 0)), (3, .int (nI j)), (0, .ref (G.1 (.inr (0, 0)))), (1, .int g)]) hx hb dX11_inKilns_51 hl (k := 1) rfl (nI_1 _) (by decide) rfl (fun ls hl => ?_)
            refine lv_goto (tgt := 15) hx hb dX11_inKilns_54 (by decide) ?_
            have EB_8 : (B_m_ikb j g σ) b sum = sum + 0 := by simp only [B_m_ikb, if_neg c_7]
            exact ih (b + 1) (sum + 0) _ _ _ QQ (by omega) hH hS (lv_sub hl [0, 2, 1, 3, 4] rfl) (fun H locs ls hH hS hl => kk H locs ls hH hS (by rw [hk_it_s, EB_8]; exact hl))
          · refine lv_iconst (v := 1) hx hb dX11_inKilns_44 (by decide) ?_
            refine lv_goto (tgt := 49) hx hb dX11_inKilns_45 (by decide) ?_
            refine lv_iadd hx hb dX11_inKilns_49 ?_
            refine lv_istore_n (lv' := [(2, .int (sum + 1)), (4, .int (nI b)), (3, .int (nI j)), (0, .ref (G.1 (.inr (0, 0)))), (1, .int g)]) hx hb dX11_inKilns_50 rfl hl (by decide) rfl (fun ls hl => ?_)
            refine lv_iinc (v := nI (b + 1)) (lv' := [(4, .int (nI (b + 1))), (2, .int (sum + 1)), (3, .int (nI j)), (0, .ref (G.1 (.inr (0, 0)))), (1, .int g)]) hx hb dX11_inKilns_51 hl (k := 1) rfl (nI_1 _) (by decide) rfl (fun ls hl => ?_)
            refine lv_goto (tgt := 15) hx hb dX11_inKilns_54 (by decide) ?_
            have EB_9 : (B_m_ikb j g σ) b sum = sum + 1 := by simp only [B_m_ikb, if_pos c_7]
            exact ih (b + 1) (sum + 1) _ _ _ QQ (by omega) hH hS (lv_sub hl [0, 2, 1, 3, 4] rfl) (fun H locs ls hH hS hl => kk H locs ls hH hS (by rw [hk_it_s, EB_9]; exact hl))
      refine LP_4 ((σ (1, 22) j).toNatClampNeg) 0 sum _ _ _ _ (by omega) hH hS (lv_sub hl [0, 1, 2, 3, 4] rfl) (fun H locs ls hH hS hl => ?_)
      refine lv_iinc (v := nI (j + 1)) (lv' := [(3, .int (nI (j + 1))), (4, .int (nI ((σ (1, 22) j).toNatClampNeg))), (2, .int (hk_it (B_m_ikb j g σ) ((σ (1, 22) j).toNatClampNeg) 0 sum)), (0, .ref (G.1 (.inr (0, 0)))), (1, .int g)]) hx hb dX11_inKilns_57 hl (k := 1) rfl (nI_1 _) (by decide) rfl (fun ls hl => ?_)
      refine lv_goto (tgt := 4) hx hb dX11_inKilns_60 (by decide) ?_
      have EB_10 : (B_m_inKilns g Z σ) j sum = (hk_it (B_m_ikb j g σ) ((σ (1, 22) j).toNatClampNeg) 0 sum) := by simp only [B_m_inKilns]
      exact ih (j + 1) (hk_it (B_m_ikb j g σ) ((σ (1, 22) j).toNatClampNeg) 0 sum) _ _ _ QQ (by omega) hH hS (lv_sub hl [0, 2, 3, 4] rfl) (fun H locs ls hH hS hl => kk H locs ls hH hS (by rw [hk_it_s, EB_10]; exact hl))
  refine LP_1 (Z.1 2) 0 0 _ _ _ _ (by omega) hH hS (lv_sub hl [0, 1, 2, 3] rfl) (fun H locs ls hH hS hl => ?_)
  refine lv_iload_n hx hb dX11_inKilns_63 rfl (lv_at hl 1 rfl) ?_
  exact hk_iret hx hb hr hlocks hH hS ⟨(by simp only [F_m_inKilns]), rfl, rfl⟩ dX11_inKilns_64
theorem ymV_X11_greenOf : hk_mV yX11_greenOf cX11_greenOf 4 (some FieldType.int) RX11 1 := ⟨tw_895, tw_894, tw_28, tw_42, rfl, by decide, by decide, by decide +kernel⟩
theorem ymV_X11_inKilns : hk_mV yX11_inKilns cX11_inKilns 5 (some FieldType.int) RX11 1 := ⟨tw_899, tw_898, tw_29, tw_42, rfl, by decide, by decide, by decide +kernel⟩
def F_m_about (Z : hk_Z) (σ : hk_v) (nw : Nat) (g : Int32) (w : Int32) : Int32 := (if (hk_in g 0 (σ (0, 0) 2 - 1)) = 0 then (-1) else (if w = 0 then σ (1, 3) g.toNatClampNeg else (if w = 1 then σ (1, 6) g.toNatClampNeg else (if w = 2 then F_m_greenOf σ nw g else (if w = 3 then F_m_inKilns Z σ g else (if w = 4 then σ (1, 7) g.toNatClampNeg else (if w = 5 then σ (1, 8) g.toNatClampNeg else (-1))))))))
set_option maxHeartbeats 4000000 in
set_option maxRecDepth 100000 in
theorem c_m_about (l : Launch) (D : hk_D) (G : hk_G) (Z : hk_Z) (τ σ : hk_v) (nw : Nat) (g : Int32) (w : Int32) (hM : hk_M G) (hms : hk_mz Z σ) (hnow : σ (0, 0) 0 = nI nw) (hnw : nw ≤ 480) (hfi : ∀ k, k < Z.1 2 → σ (1, 22) k = nI (σ (1, 22) k).toNatClampNeg ∧ (σ (1, 22) k).toNatClampNeg ≤ 200) : Met l yX11_about (hk_ws yX11_about cX11_about 3 (some FieldType.int)) ({ frames := 2, cells := 0, slots := 0, locals := 43 }) (hk_P D G (hk_cm τ σ) [.ref (G.1 (.inr (0, 0))), .int g, .int w]) (hk_Q D (hk_e G (some (.int (F_m_about Z σ nw g w))) (hk_cm τ σ))) 0 0 (hk_A D) := by
  refine hk_met (by decide +kernel) (Nat.le_of_ble_eq_true rfl) (fun p e s m below meth c hx hb hr hml hlocks ht hown hin hK hH hS ls hl => ?_)
  have hl : lv_has ls 3 [(0, .ref (G.1 (.inr (0, 0)))), (1, .int g), (2, .int w)] := hl
  refine lv_aload_n hx hb dX11_about_0 rfl (lv_at hl 0 rfl) ?_
  refine lv_iload_n hx hb dX11_about_1 rfl (lv_at hl 1 rfl) ?_
  refine hk_cV (L := (.inr (0, 0))) (As := [.int g]) (rest := []) hx hb hml hl.1 ht hown hK hH hS (c_m_isGarden l D G Z τ σ g hM) ymV_X11_isGarden kc_12 hM.k0 tw_823 ⟨rfl, rfl⟩ ⟨Nat.le_of_ble_eq_true rfl, Nat.le_of_ble_eq_true rfl⟩ rfl rfl (Nat.le_of_ble_eq_true rfl) dX11_about_2 ⟨Nat.le_of_ble_eq_true rfl, Nat.le_of_ble_eq_true rfl⟩ (hk_ea (fun H locs hH hS => ?_))
  refine lv_if_ne (tgt := 10) hx hb dX11_about_5 (by decide) (fun c_1 => ?_) (fun c_1 => ?_)
  · refine lv_iload_n hx hb dX11_about_10 rfl (lv_at hl 2 rfl) ?_
    rcases hk_sw5 w with (rfl | rfl | rfl | rfl | rfl | rfl) | hsw
    · refine lv_tableIn (x := 0) (tgt := 48) hx hb dX11_about_11 (by decide) (by decide) rfl (by decide) ?_
      refine lv_aload_n hx hb dX11_about_48 rfl (lv_at hl 0 rfl) ?_
      refine hk_getr (L := (.inr (0, 0))) (v := .ref (G.1 (.inr (1, 3)))) hx hb ht hown hK hH kc_12 hM.k0 3 (by decide) rfl tw_695 rfl hM.r3 dX11_about_49 ?_
      refine lv_iload_n hx hb dX11_about_52 rfl (lv_at hl 1 rfl) ?_
      refine hk_ild (L := (.inr (1, 3))) (v := σ (1, 3) g.toNatClampNeg) hx hb hK hH hM.k3 (hk_min (n := Z.1 0) hms.1.1 (by have := hms.2; omega) (by have := hms.2; omega) (by omega) (by assumption)) rfl dX11_about_53 ?_
      exact hk_iret hx hb hr hlocks hH hS ⟨(by simp [F_m_about, if_neg c_1]), rfl, rfl⟩ dX11_about_54
    · refine lv_tableIn (x := 1) (tgt := 55) hx hb dX11_about_11 (by decide) (by decide) rfl (by decide) ?_
      refine lv_aload_n hx hb dX11_about_55 rfl (lv_at hl 0 rfl) ?_
      refine hk_getr (L := (.inr (0, 0))) (v := .ref (G.1 (.inr (1, 6)))) hx hb ht hown hK hH kc_12 hM.k0 6 (by decide) rfl tw_698 rfl hM.r6 dX11_about_56 ?_
      refine lv_iload_n hx hb dX11_about_59 rfl (lv_at hl 1 rfl) ?_
      refine hk_ild (L := (.inr (1, 6))) (v := σ (1, 6) g.toNatClampNeg) hx hb hK hH hM.k6 (hk_min (n := Z.1 0) hms.1.1 (by have := hms.2; omega) (by have := hms.2; omega) (by omega) (by assumption)) rfl dX11_about_60 ?_
      exact hk_iret hx hb hr hlocks hH hS ⟨(by simp [F_m_about, if_neg c_1]), rfl, rfl⟩ dX11_about_61
    · refine lv_tableIn (x := 2) (tgt := 62) hx hb dX11_about_11 (by decide) (by decide) rfl (by decide) ?_
      refine lv_aload_n hx hb dX11_about_62 rfl (lv_at hl 0 rfl) ?_
      refine lv_iload_n hx hb dX11_about_63 rfl (lv_at hl 1 rfl) ?_
      refine hk_cV (L := (.inr (0, 0))) (As := [.int g]) (rest := []) hx hb hml hl.1 ht hown hK hH hS (c_m_greenOf l D G Z τ σ nw g hM hnow hnw (hk_min (n := Z.1 0) hms.1.1 (by have := hms.2; omega) (by have := hms.2; omega) (by omega) (by assumption))) ymV_X11_greenOf kc_12 hM.k0 tw_892 ⟨rfl, rfl⟩ ⟨Nat.le_of_ble_eq_true rfl, Nat.le_of_ble_eq_true rfl⟩ rfl rfl (Nat.le_of_ble_eq_true rfl) dX11_about_64 ⟨Nat.le_of_ble_eq_true rfl, Nat.le_of_ble_eq_true rfl⟩ (hk_ea (fun H locs hH hS => ?_))
      exact hk_iret hx hb hr hlocks hH hS ⟨(by simp [F_m_about, if_neg c_1]), rfl, rfl⟩ dX11_about_67
    · refine lv_tableIn (x := 3) (tgt := 68) hx hb dX11_about_11 (by decide) (by decide) rfl (by decide) ?_
      refine lv_aload_n hx hb dX11_about_68 rfl (lv_at hl 0 rfl) ?_
      refine lv_iload_n hx hb dX11_about_69 rfl (lv_at hl 1 rfl) ?_
      refine hk_cV (L := (.inr (0, 0))) (As := [.int g]) (rest := []) hx hb hml hl.1 ht hown hK hH hS (c_m_inKilns l D G Z τ σ g hM hms hfi) ymV_X11_inKilns kc_12 hM.k0 tw_896 ⟨rfl, rfl⟩ ⟨Nat.le_of_ble_eq_true rfl, Nat.le_of_ble_eq_true rfl⟩ rfl rfl (Nat.le_of_ble_eq_true rfl) dX11_about_70 ⟨Nat.le_of_ble_eq_true rfl, Nat.le_of_ble_eq_true rfl⟩ (hk_ea (fun H locs hH hS => ?_))
      exact hk_iret hx hb hr hlocks hH hS ⟨(by simp [F_m_about, if_neg c_1]), rfl, rfl⟩ dX11_about_73
    · refine lv_tableIn (x := 4) (tgt := 74) hx hb dX11_about_11 (by decide) (by decide) rfl (by decide) ?_
      refine lv_aload_n hx hb dX11_about_74 rfl (lv_at hl 0 rfl) ?_
      refine hk_getr (L := (.inr (0, 0))) (v := .ref (G.1 (.inr (1, 7)))) hx hb ht hown hK hH kc_12 hM.k0 7 (by decide) rfl tw_699 rfl hM.r7 dX11_about_75 ?_
      refine lv_iload_n hx hb dX11_about_78 rfl (lv_at hl 1 rfl) ?_
      refine hk_ild (L := (.inr (1, 7))) (v := σ (1, 7) g.toNatClampNeg) hx hb hK hH hM.k7 (hk_min (n := Z.1 0) hms.1.1 (by have := hms.2; omega) (by have := hms.2; omega) (by omega) (by assumption)) rfl dX11_about_79 ?_
      exact hk_iret hx hb hr hlocks hH hS ⟨(by simp [F_m_about, if_neg c_1]), rfl, rfl⟩ dX11_about_80
    · refine lv_tableIn (x := 5) (tgt := 81) hx hb dX11_about_11 (by decide) (by decide) rfl (by decide) ?_
      refine lv_aload_n hx hb dX11_about_81 rfl (lv_at hl 0 rfl) ?_
      refine hk_getr (L := (.inr (0, 0))) (v := .ref (G.1 (.inr (1, 8)))) hx hb ht hown hK hH kc_12 hM.k0 8 (by decide) rfl tw_700 rfl hM.r8 dX11_about_82 ?_
      refine lv_iload_n hx hb dX11_about_85 rfl (lv_at hl 1 rfl) ?_
      refine hk_ild (L := (.inr (1, 8))) (v := σ (1, 8) g.toNatClampNeg) hx hb hK hH hM.k8 (hk_min (n := Z.1 0) hms.1.1 (by have := hms.2; omega) (by have := hms.2; omega) (by omega) (by assumption)) rfl dX11_about_86 ?_
      exact hk_iret hx hb hr hlocks hH hS ⟨(by simp [F_m_about, if_neg c_1]), rfl, rfl⟩ dX11_about_87
    · refine lv_tableOut (tgt := 88) hx hb dX11_about_11 hsw.1 (by decide) ?_
      refine lv_iconst (v := -1) hx hb dX11_about_88 (by decide) ?_
      exact hk_iret hx hb hr hlocks hH hS ⟨(by simp [F_m_about, if_neg c_1, hsw]), rfl, rfl⟩ dX11_about_89
  · refine lv_iconst (v := -1) hx hb dX11_about_8 (by decide) ?_
    exact hk_iret hx hb hr hlocks hH hS ⟨(by simp only [F_m_about, if_pos c_1]), rfl, rfl⟩ dX11_about_9
def F_m_tally (σ : hk_v) (g : Int32) (w : Int32) : Int32 := (if (hk_in g 0 (σ (0, 0) 9 - 1)) = 0 then (-2) else (if w = 0 then σ (1, 13) g.toNatClampNeg else (if w = 1 then σ (1, 14) g.toNatClampNeg else (if w = 2 then σ (1, 15) g.toNatClampNeg else (if w = 3 then σ (1, 12) g.toNatClampNeg else (-2))))))
set_option maxHeartbeats 4000000 in
set_option maxRecDepth 100000 in
theorem c_m_tally (l : Launch) (D : hk_D) (G : hk_G) (Z : hk_Z) (τ σ : hk_v) (g : Int32) (w : Int32) (hM : hk_M G) (hms : hk_mz Z σ) : Met l yX11_tally (hk_ws yX11_tally cX11_tally 3 (some FieldType.int)) ({ frames := 2, cells := 0, slots := 0, locals := 43 }) (hk_P D G (hk_cm τ σ) [.ref (G.1 (.inr (0, 0))), .int g, .int w]) (hk_Q D (hk_e G (some (.int (F_m_tally σ g w))) (hk_cm τ σ))) 0 0 (hk_A D) := by
  refine hk_met (by decide +kernel) (Nat.le_of_ble_eq_true rfl) (fun p e s m below meth c hx hb hr hml hlocks ht hown hin hK hH hS ls hl => ?_)
  have hl : lv_has ls 3 [(0, .ref (G.1 (.inr (0, 0)))), (1, .int g), (2, .int w)] := hl
  refine lv_aload_n hx hb dX11_tally_0 rfl (lv_at hl 0 rfl) ?_
  refine lv_iload_n hx hb dX11_tally_1 rfl (lv_at hl 1 rfl) ?_
  refine hk_cV (L := (.inr (0, 0))) (As := [.int g]) (rest := []) hx hb hml hl.1 ht hown hK hH hS (c_m_isGang l D G Z τ σ g hM) ymV_X11_isGang kc_12 hM.k0 tw_819 ⟨rfl, rfl⟩ ⟨Nat.le_of_ble_eq_true rfl, Nat.le_of_ble_eq_true rfl⟩ rfl rfl (Nat.le_of_ble_eq_true rfl) dX11_tally_2 ⟨Nat.le_of_ble_eq_true rfl, Nat.le_of_ble_eq_true rfl⟩ (hk_ea (fun H locs hH hS => ?_))
  refine lv_if_ne (tgt := 11) hx hb dX11_tally_5 (by decide) (fun c_1 => ?_) (fun c_1 => ?_)
  · refine lv_iload_n hx hb dX11_tally_11 rfl (lv_at hl 2 rfl) ?_
    rcases hk_sw3 w with (rfl | rfl | rfl | rfl) | hsw
    · refine lv_tableIn (x := 0) (tgt := 44) hx hb dX11_tally_12 (by decide) (by decide) rfl (by decide) ?_
      refine lv_aload_n hx hb dX11_tally_44 rfl (lv_at hl 0 rfl) ?_
      refine hk_getr (L := (.inr (0, 0))) (v := .ref (G.1 (.inr (1, 13)))) hx hb ht hown hK hH kc_12 hM.k0 13 (by decide) rfl tw_705 rfl hM.r13 dX11_tally_45 ?_
      refine lv_iload_n hx hb dX11_tally_48 rfl (lv_at hl 1 rfl) ?_
      refine hk_ild (L := (.inr (1, 13))) (v := σ (1, 13) g.toNatClampNeg) hx hb hK hH hM.k13 (hk_min (n := Z.1 1) hms.1.2.1 (by have := hms.2; omega) (by have := hms.2; omega) (by omega) (by assumption)) rfl dX11_tally_49 ?_
      exact hk_iret hx hb hr hlocks hH hS ⟨(by simp [F_m_tally, if_neg c_1]), rfl, rfl⟩ dX11_tally_50
    · refine lv_tableIn (x := 1) (tgt := 51) hx hb dX11_tally_12 (by decide) (by decide) rfl (by decide) ?_
      refine lv_aload_n hx hb dX11_tally_51 rfl (lv_at hl 0 rfl) ?_
      refine hk_getr (L := (.inr (0, 0))) (v := .ref (G.1 (.inr (1, 14)))) hx hb ht hown hK hH kc_12 hM.k0 14 (by decide) rfl tw_706 rfl hM.r14 dX11_tally_52 ?_
      refine lv_iload_n hx hb dX11_tally_55 rfl (lv_at hl 1 rfl) ?_
      refine hk_ild (L := (.inr (1, 14))) (v := σ (1, 14) g.toNatClampNeg) hx hb hK hH hM.k14 (hk_min (n := Z.1 1) hms.1.2.1 (by have := hms.2; omega) (by have := hms.2; omega) (by omega) (by assumption)) rfl dX11_tally_56 ?_
      exact hk_iret hx hb hr hlocks hH hS ⟨(by simp [F_m_tally, if_neg c_1]), rfl, rfl⟩ dX11_tally_57
    · refine lv_tableIn (x := 2) (tgt := 58) hx hb dX11_tally_12 (by decide) (by decide) rfl (by decide) ?_
      refine lv_aload_n hx hb dX11_tally_58 rfl (lv_at hl 0 rfl) ?_
      refine hk_getr (L := (.inr (0, 0))) (v := .ref (G.1 (.inr (1, 15)))) hx hb ht hown hK hH kc_12 hM.k0 15 (by decide) rfl tw_707 rfl hM.r15 dX11_tally_59 ?_
      refine lv_iload_n hx hb dX11_tally_62 rfl (lv_at hl 1 rfl) ?_
      refine hk_ild (L := (.inr (1, 15))) (v := σ (1, 15) g.toNatClampNeg) hx hb hK hH hM.k15 (hk_min (n := Z.1 1) hms.1.2.1 (by have := hms.2; omega) (by have := hms.2; omega) (by omega) (by assumption)) rfl dX11_tally_63 ?_
      exact hk_iret hx hb hr hlocks hH hS ⟨(by simp [F_m_tally, if_neg c_1]), rfl, rfl⟩ dX11_tally_64
    · refine lv_tableIn (x := 3) (tgt := 65) hx hb dX11_tally_12 (by decide) (by decide) rfl (by decide) ?_
      refine lv_aload_n hx hb dX11_tally_65 rfl (lv_at hl 0 rfl) ?_
      refine hk_getr (L := (.inr (0, 0))) (v := .ref (G.1 (.inr (1, 12)))) hx hb ht hown hK hH kc_12 hM.k0 12 (by decide) rfl tw_704 rfl hM.r12 dX11_tally_66 ?_
      refine lv_iload_n hx hb dX11_tally_69 rfl (lv_at hl 1 rfl) ?_
      refine hk_ild (L := (.inr (1, 12))) (v := σ (1, 12) g.toNatClampNeg) hx hb hK hH hM.k12 (hk_min (n := Z.1 1) hms.1.2.1 (by have := hms.2; omega) (by have := hms.2; omega) (by omega) (by assumption)) rfl dX11_tally_70 ?_
      exact hk_iret hx hb hr hlocks hH hS ⟨(by simp [F_m_tally, if_neg c_1]), rfl, rfl⟩ dX11_tally_71
    · refine lv_tableOut (tgt := 72) hx hb dX11_tally_12 hsw.1 (by decide) ?_
      refine lv_bipush (v := -2) hx hb dX11_tally_72 (by decide) ?_
      exact hk_iret hx hb hr hlocks hH hS ⟨(by simp [F_m_tally, if_neg c_1, hsw]), rfl, rfl⟩ dX11_tally_74
  · refine lv_bipush (v := -2) hx hb dX11_tally_8 (by decide) ?_
    exact hk_iret hx hb hr hlocks hH hS ⟨(by simp only [F_m_tally, if_pos c_1]), rfl, rfl⟩ dX11_tally_10
theorem in_ix {k : Int32} {i b : Nat} (h : k = nI i) (hi : i < 4) (hb : b < 200) : vp_in ((200 * k) + nI b) 800 := by
  subst h; rw [show (200 : Int32) * nI i = nI (200 * i) from pk_mul 200 i, nI_add]; exact vp_in_nI (by omega) (by omega)
def B_m_in (k : Int32) (σ : hk_v) (b : Nat) (bits : Int32) : Int32 := bits ||| (1 <<< ((σ (1, 23) (((200 * k) + (nI b)).toNatClampNeg)) &&& 31))
def F_m_inn (σ : hk_v) (k : Int32) (w : Int32) : Int32 := (if (hk_in k 0 (σ (0, 0) 17 - 1)) = 0 then (-1) else (if w = 0 then σ (1, 22) k.toNatClampNeg else (if w = 1 then σ (1, 21) k.toNatClampNeg else (if w = 2 then σ (1, 20) k.toNatClampNeg else (if w = 3 then (hk_it (B_m_in k σ) ((σ (1, 22) k.toNatClampNeg).toNatClampNeg) 0 0) else (-1))))))
set_option maxHeartbeats 4000000 in
set_option maxRecDepth 100000 in
theorem c_m_inn (l : Launch) (D : hk_D) (G : hk_G) (Z : hk_Z) (τ σ : hk_v) (k : Int32) (w : Int32) (hM : hk_M G) (hms : hk_mz Z σ) (hfi : ∀ k, k < Z.1 2 → σ (1, 22) k = nI (σ (1, 22) k).toNatClampNeg ∧ (σ (1, 22) k).toNatClampNeg ≤ 200) : Met l yX11_in (hk_ws yX11_in cX11_in 5 (some FieldType.int)) ({ frames := 2, cells := 0, slots := 0, locals := 43 }) (hk_P D G (hk_cm τ σ) [.ref (G.1 (.inr (0, 0))), .int k, .int w]) (hk_Q D (hk_e G (some (.int (F_m_inn σ k w))) (hk_cm τ σ))) 0 0 (hk_A D) := by
  refine hk_met (by decide +kernel) (Nat.le_of_ble_eq_true rfl) (fun p e s m below meth c hx hb hr hml hlocks ht hown hin hK hH hS ls hl => ?_)
  have hl : lv_has ls 5 [(0, .ref (G.1 (.inr (0, 0)))), (1, .int k), (2, .int w)] := hl
  refine lv_aload_n hx hb dX11_in_0 rfl (lv_at hl 0 rfl) ?_
  refine lv_iload_n hx hb dX11_in_1 rfl (lv_at hl 1 rfl) ?_
  refine hk_cV (L := (.inr (0, 0))) (As := [.int k]) (rest := []) hx hb hml hl.1 ht hown hK hH hS (c_m_isKiln l D G Z τ σ k hM) ymV_X11_isKiln kc_12 hM.k0 tw_835 ⟨rfl, rfl⟩ ⟨Nat.le_of_ble_eq_true rfl, Nat.le_of_ble_eq_true rfl⟩ rfl rfl (Nat.le_of_ble_eq_true rfl) dX11_in_2 ⟨Nat.le_of_ble_eq_true rfl, Nat.le_of_ble_eq_true rfl⟩ (hk_ea (fun H locs hH hS => ?_))
  refine lv_if_ne (tgt := 10) hx hb dX11_in_5 (by decide) (fun c_1 => ?_) (fun c_1 => ?_)
  · have hkk := hk_in_sz hms.1.2.2 (by have := hms.2; omega) c_1
    refine lv_iconst (v := 0) hx hb dX11_in_10 (by decide) ?_
    refine lv_istore_n (lv' := [(3, .int 0), (0, .ref (G.1 (.inr (0, 0)))), (1, .int k), (2, .int w)]) hx hb dX11_in_11 rfl hl (by decide) rfl (fun ls hl => ?_)
    refine lv_iload_n hx hb dX11_in_12 rfl (lv_at hl 3 rfl) ?_
    rcases hk_sw3 w with (rfl | rfl | rfl | rfl) | hsw
    · refine lv_tableIn (x := 0) (tgt := 44) hx hb dX11_in_13 (by decide) (by decide) rfl (by decide) ?_
      refine lv_aload_n hx hb dX11_in_44 rfl (lv_at hl 1 rfl) ?_
      refine hk_getr (L := (.inr (0, 0))) (v := .ref (G.1 (.inr (1, 22)))) hx hb ht hown hK hH kc_12 hM.k0 22 (by decide) rfl tw_714 rfl hM.r22 dX11_in_45 ?_
      refine lv_iload_n hx hb dX11_in_48 rfl (lv_at hl 2 rfl) ?_
      refine hk_ild (L := (.inr (1, 22))) (v := σ (1, 22) k.toNatClampNeg) hx hb hK hH hM.k22 (hk_min (n := Z.1 2) hms.1.2.2 (by have := hms.2; omega) (by have := hms.2; omega) (by omega) (by assumption)) rfl dX11_in_49 ?_
      exact hk_iret hx hb hr hlocks hH hS ⟨(by simp [F_m_inn, if_neg c_1]), rfl, rfl⟩ dX11_in_50
    · refine lv_tableIn (x := 1) (tgt := 51) hx hb dX11_in_13 (by decide) (by decide) rfl (by decide) ?_
      refine lv_aload_n hx hb dX11_in_51 rfl (lv_at hl 1 rfl) ?_
      refine hk_getr (L := (.inr (0, 0))) (v := .ref (G.1 (.inr (1, 21)))) hx hb ht hown hK hH kc_12 hM.k0 21 (by decide) rfl tw_713 rfl hM.r21 dX11_in_52 ?_
      refine lv_iload_n hx hb dX11_in_55 rfl (lv_at hl 2 rfl) ?_
      refine hk_ild (L := (.inr (1, 21))) (v := σ (1, 21) k.toNatClampNeg) hx hb hK hH hM.k21 (hk_min (n := Z.1 2) hms.1.2.2 (by have := hms.2; omega) (by have := hms.2; omega) (by omega) (by assumption)) rfl dX11_in_56 ?_
      exact hk_iret hx hb hr hlocks hH hS ⟨(by simp [F_m_inn, if_neg c_1]), rfl, rfl⟩ dX11_in_57
    · refine lv_tableIn (x := 2) (tgt := 58) hx hb dX11_in_13 (by decide) (by decide) rfl (by decide) ?_
      refine lv_aload_n hx hb dX11_in_58 rfl (lv_at hl 1 rfl) ?_
      refine hk_getr (L := (.inr (0, 0))) (v := .ref (G.1 (.inr (1, 20)))) hx hb ht hown hK hH kc_12 hM.k0 20 (by decide) rfl tw_712 rfl hM.r20 dX11_in_59 ?_
      refine lv_iload_n hx hb dX11_in_62 rfl (lv_at hl 2 rfl) ?_
      refine hk_ild (L := (.inr (1, 20))) (v := σ (1, 20) k.toNatClampNeg) hx hb hK hH hM.k20 (hk_min (n := Z.1 2) hms.1.2.2 (by have := hms.2; omega) (by have := hms.2; omega) (by omega) (by assumption)) rfl dX11_in_63 ?_
      exact hk_iret hx hb hr hlocks hH hS ⟨(by simp [F_m_inn, if_neg c_1]), rfl, rfl⟩ dX11_in_64
    · refine lv_tableIn (x := 3) (tgt := 65) hx hb dX11_in_13 (by decide) (by decide) rfl (by decide) ?_
      refine lv_iconst (v := 0) hx hb dX11_in_65 (by decide) ?_
      refine lv_istore (lv' := [(4, .int 0), (3, .int 0), (0, .ref (G.1 (.inr (0, 0)))), (1, .int k), (2, .int 3)]) hx hb dX11_in_66 hl (by decide) rfl (fun ls hl => ?_)
      have LP_2 : ∀ (r2 b : Nat) (bits : Int32) (H : Heap) (locs : List Loc) (ls : Array Slot) (QQ : State → Prop), b + r2 = (σ (1, 22) k.toNatClampNeg).toNatClampNeg → hk_H D G (hk_cm τ σ) H → va_S (hk_A D) s.heap H locs → lv_has ls 5 [(4, .int (nI b)), (3, .int bits), (0, .ref (G.1 (.inr (0, 0)))), (1, .int k), (2, .int 3)] → (∀ (H : Heap) (locs : List Loc) (ls : Array Slot), hk_H D G (hk_cm τ σ) H → va_S (hk_A D) s.heap H locs → lv_has ls 5 [(4, .int (nI ((σ (1, 22) k.toNatClampNeg).toNatClampNeg))), (3, .int (hk_it (B_m_in k σ) r2 b bits)), (0, .ref (G.1 (.inr (0, 0)))), (1, .int k), (2, .int 3)] → W p l e ({ frames := 2, cells := 0, slots := 0, locals := 43 }) s m ([.ref (G.1 (.inr (0, 0))), .int k, .int 3] : List Value).toArray below meth c H locs 0 0 QQ (F0 m 103 ls [])) → W p l e ({ frames := 2, cells := 0, slots := 0, locals := 43 }) s m ([.ref (G.1 (.inr (0, 0))), .int k, .int 3] : List Value).toArray below meth c H locs 0 0 QQ (F0 m 68 ls []) := by
        intro r2
        induction r2 with
        | zero =>
          intro b bits H locs ls QQ hn_m_in hH hS hl kk
          have hf2 := (hfi _ hkk.1).2
          have hz6 := hms.2
          refine lv_iload hx hb dX11_in_68 (lv_at hl 0 rfl) ?_
          refine lv_aload_n hx hb dX11_in_70 rfl (lv_at hl 2 rfl) ?_
          refine hk_getr (L := (.inr (0, 0))) (v := .ref (G.1 (.inr (1, 22)))) hx hb ht hown hK hH kc_12 hM.k0 22 (by decide) rfl tw_714 rfl hM.r22 dX11_in_71 ?_
          refine lv_iload_n hx hb dX11_in_74 rfl (lv_at hl 3 rfl) ?_
          refine hk_ild (L := (.inr (1, 22))) (v := σ (1, 22) k.toNatClampNeg) hx hb hK hH hM.k22 (hk_min (n := Z.1 2) hms.1.2.2 (by have := hms.2; omega) (by have := hms.2; omega) (by omega) (by assumption)) rfl dX11_in_75 ?_
          refine lv_icmp_ge (tgt := 103) hx hb dX11_in_76 (by decide) (fun c_3 => ?_) (fun c_3 => ?_)
          rotate_left
          · exfalso; rw [(hfi _ hkk.1).1] at c_3; first | exact nI_ge (by omega) (by omega) c_3 | exact c_3 (nI_le (by omega) (by omega)) | exact nI_nlt (by omega) (by omega) c_3 | exact c_3 (nI_lt (by omega) (by omega))
          have hiN : b = (σ (1, 22) k.toNatClampNeg).toNatClampNeg := by omega
          rw [hiN] at hl
          exact kk H locs ls hH hS (lv_sub hl [0, 1, 2, 3, 4] rfl)
        | succ r2 ih =>
          intro b bits H locs ls QQ hn_m_in hH hS hl kk
          have hf2 := (hfi _ hkk.1).2
          have hz6 := hms.2
          refine lv_iload hx hb dX11_in_68 (lv_at hl 0 rfl) ?_
          refine lv_aload_n hx hb dX11_in_70 rfl (lv_at hl 2 rfl) ?_
          refine hk_getr (L := (.inr (0, 0))) (v := .ref (G.1 (.inr (1, 22)))) hx hb ht hown hK hH kc_12 hM.k0 22 (by decide) rfl tw_714 rfl hM.r22 dX11_in_71 ?_
          refine lv_iload_n hx hb dX11_in_74 rfl (lv_at hl 3 rfl) ?_
          refine hk_ild (L := (.inr (1, 22))) (v := σ (1, 22) k.toNatClampNeg) hx hb hK hH hM.k22 (hk_min (n := Z.1 2) hms.1.2.2 (by have := hms.2; omega) (by have := hms.2; omega) (by omega) (by assumption)) rfl dX11_in_75 ?_
          refine lv_icmp_ge (tgt := 103) hx hb dX11_in_76 (by decide) (fun c_4 => ?_) (fun c_4 => ?_)
          · exfalso; rw [(hfi _ hkk.1).1] at c_4; first | exact nI_ge (by omega) (by omega) c_4 | exact c_4 (nI_le (by omega) (by omega)) | exact nI_nlt (by omega) (by omega) c_4 | exact c_4 (nI_lt (by omega) (by omega))
          refine lv_iload_n hx hb dX11_in_79 rfl (lv_at hl 1 rfl) ?_
          refine lv_iconst (v := 1) hx hb dX11_in_80 (by decide) ?_
          refine lv_aload_n hx hb dX11_in_81 rfl (lv_at hl 2 rfl) ?_
          refine hk_getr (L := (.inr (0, 0))) (v := .ref (G.1 (.inr (1, 23)))) hx hb ht hown hK hH kc_12 hM.k0 23 (by decide) rfl tw_715 rfl hM.r23 dX11_in_82 ?_
          refine lv_sipush (v := 200) hx hb dX11_in_85 (by decide) ?_
          refine lv_iload_n hx hb dX11_in_88 rfl (lv_at hl 3 rfl) ?_
          refine lv_imul hx hb dX11_in_89 ?_
          refine lv_iload hx hb dX11_in_90 (lv_at hl 0 rfl) ?_
          refine lv_iadd hx hb dX11_in_92 ?_
          refine hk_ild (L := (.inr (1, 23))) (v := σ (1, 23) (((200 * k) + (nI b)).toNatClampNeg)) hx hb hK hH hM.k23 (in_ix hkk.2 (by omega) (by omega)) rfl dX11_in_93 ?_
          refine lv_ishl hx hb dX11_in_94 ?_
          refine lv_ior hx hb dX11_in_95 ?_
          refine lv_istore_n (lv' := [(3, .int (bits ||| (1 <<< ((σ (1, 23) (((200 * k) + (nI b)).toNatClampNeg)) &&& 31)))), (4, .int (nI b)), (0, .ref (G.1 (.inr (0, 0)))), (1, .int k), (2, .int 3)]) hx hb dX11_in_96 rfl hl (by decide) rfl (fun ls hl => ?_)
          refine lv_iinc (v := nI (b + 1)) (lv' := [(4, .int (nI (b + 1))), (3, .int (bits ||| (1 <<< ((σ (1, 23) (((200 * k) + (nI b)).toNatClampNeg)) &&& 31)))), (0, .ref (G.1 (.inr (0, 0)))), (1, .int k), (2, .int 3)]) hx hb dX11_in_97 hl (k := 1) rfl (nI_1 _) (by decide) rfl (fun ls hl => ?_)
          refine lv_goto (tgt := 68) hx hb dX11_in_100 (by decide) ?_
          have EB_5 : (B_m_in k σ) b bits = bits ||| (1 <<< ((σ (1, 23) (((200 * k) + (nI b)).toNatClampNeg)) &&& 31)) := by simp only [B_m_in]
          exact ih (b + 1) (bits ||| (1 <<< ((σ (1, 23) (((200 * k) + (nI b)).toNatClampNeg)) &&& 31))) _ _ _ QQ (by omega) hH hS (lv_sub hl [0, 1, 2, 3, 4] rfl) (fun H locs ls hH hS hl => kk H locs ls hH hS (by rw [hk_it_s, EB_5]; exact hl))
      refine LP_2 ((σ (1, 22) k.toNatClampNeg).toNatClampNeg) 0 0 _ _ _ _ (by omega) hH hS (lv_sub hl [0, 1, 2, 3, 4] rfl) (fun H locs ls hH hS hl => ?_)
      refine lv_iload_n hx hb dX11_in_103 rfl (lv_at hl 1 rfl) ?_
      exact hk_iret hx hb hr hlocks hH hS ⟨(by simp [F_m_inn, if_neg c_1]), rfl, rfl⟩ dX11_in_104
    · refine lv_tableOut (tgt := 105) hx hb dX11_in_13 hsw.1 (by decide) ?_
      refine lv_iconst (v := -1) hx hb dX11_in_105 (by decide) ?_
      exact hk_iret hx hb hr hlocks hH hS ⟨(by simp [F_m_inn, if_neg c_1, hsw]), rfl, rfl⟩ dX11_in_106
  · refine lv_iconst (v := -1) hx hb dX11_in_8 (by decide) ?_
    exact hk_iret hx hb hr hlocks hH hS ⟨(by simp only [F_m_inn, if_pos c_1]), rfl, rfl⟩ dX11_in_9
