theorem pb_rem {w : Nat} (hw : w < 2 ^ 31) : nI w - nI w / 7 * 7 = nI (w % 7) := pk_rem (d := 7) hw (by omega) (by omega)
theorem pb_in {x : Int32} (h : ∃ w : Nat, w < 2 ^ 31 ∧ x = nI w) : vp_in (x - x / 7 * 7) 7 := by
  obtain ⟨w, hw, rfl⟩ := h
  rw [pb_rem hw]; exact vp_in_nI (Nat.mod_lt _ (by omega)) (by omega)
theorem pb_div {x : Int32} (h : ∃ w : Nat, w < 2 ^ 31 ∧ x = nI w) : ∃ w : Nat, w < 2 ^ 31 ∧ x / 7 = nI w := by
  obtain ⟨w, hw, rfl⟩ := h
  exact ⟨w / 7, by omega, pk_div (d := 7) hw (by omega) (by omega)⟩
theorem pb_k {x : Int32} {n N : Nat} (h : ∃ c : Nat, x = nI c ∧ c ≤ N ∧ c + (n + 1) = N + 1) (hN : N ≤ 6) (hc : ¬ nI N ≤ x) : vp_in x 6 := by
  obtain ⟨c, rfl, h1, h2⟩ := h
  have : c < N := by
    rcases Nat.lt_or_ge c N with q | q
    · exact q
    · exact absurd (nI_le q (by omega)) hc
  exact vp_in_nI (by omega) (by omega)
theorem pb_k1 {x : Int32} {n N : Nat} (h : ∃ c : Nat, x = nI c ∧ c ≤ N ∧ c + (n + 1) = N + 1) (hN : N ≤ 6) (hc : ¬ nI N ≤ x) : ∃ c : Nat, x + 1 = nI c ∧ c ≤ N ∧ c + n = N + 1 := by
  obtain ⟨c, rfl, h1, h2⟩ := h
  have : c < N := by
    rcases Nat.lt_or_ge c N with q | q
    · exact q
    · exact absurd (nI_le q (by omega)) hc
  exact ⟨c + 1, nI_1 c, by omega, by omega⟩
def B_m_pb1  (j : Nat) (t : hk_v) : hk_v := (hk_u t (1, 36) j 0)
def B_m_pb2 (Z : hk_Z) (s : Int32 × Int32 × hk_v) : Option (Int32 × Int32 × hk_v) := match s with
  | (rest, kq, t) => (if (nI (Z.1 1)) ≤ kq then none else (if (rest - rest / 7 * 7) ≤ (nI (Z.1 0)) then some (rest / 7, kq + 1, (hk_u t (1, 36) ((rest - rest / 7 * 7).toNatClampNeg) ((t (1, 36) ((rest - rest / 7 * 7).toNatClampNeg)) + (t (1, 10) kq.toNatClampNeg)))) else none))
def B_m_pb3 (day : Int32)  (j : Nat) (s : Int32 × hk_v) : Int32 × hk_v := match s with
  | (sum, t) => (if (F_m_isRipe t (nI j) day) = 0 then (sum + 0, t) else (if (t (1, 3) j) ≤ (12 * (t (1, 36) (j + 1))) then (sum + (t (1, 3) j), t) else (sum + (12 * (t (1, 36) (j + 1))), t)))
theorem pb2_keep {Z : hk_Z} {σ t : hk_v} {n : Nat} {a b : Int32} (h : ∀ q k, q ≠ (1, 36) → t q k = σ q k) : ∀ q k, q ≠ (1, 36) → (hk_wh (B_m_pb2 Z) n (a, b, t)).2.2 q k = σ q k := by
  refine hk_wh_inv (fun s : Int32 × Int32 × hk_v => ∀ q k, q ≠ (1, 36) → s.2.2 q k = σ q k) (fun s s2 hs e => ?_) n (a, b, t) h
  obtain ⟨x, y, u⟩ := s
  simp only [B_m_pb2] at e
  split at e
  · cases e
  · split at e
    · have e2 := Option.some.inj e
      rw [← e2]
      intro q k hq
      show hk_u u (1, 36) _ _ q k = _
      rw [hk_u_ap, if_neg (fun e => hq e.1)]
      exact hs q k hq
    · cases e
def F_m_picksBy (Z : hk_Z) (σ : hk_v) (way : Nat) (day : Int32) : Int32 := (if (nI (Z.1 1)) ≤ (hk_wh (B_m_pb2 Z) (Z.1 1 + 1) (nI way, 0, (hk_it B_m_pb1 7 0 σ))).2.1 then (hk_it (B_m_pb3 day) (Z.1 0) 0 (0, (hk_wh (B_m_pb2 Z) (Z.1 1 + 1) (nI way, 0, (hk_it B_m_pb1 7 0 σ))).2.2)).1 else (-1))
def T_m_picksBy (Z : hk_Z) (σ : hk_v) (way : Nat) (day : Int32) : hk_v := (if (nI (Z.1 1)) ≤ (hk_wh (B_m_pb2 Z) (Z.1 1 + 1) (nI way, 0, (hk_it B_m_pb1 7 0 σ))).2.1 then (hk_it (B_m_pb3 day) (Z.1 0) 0 (0, (hk_wh (B_m_pb2 Z) (Z.1 1 + 1) (nI way, 0, (hk_it B_m_pb1 7 0 σ))).2.2)).2 else (hk_wh (B_m_pb2 Z) (Z.1 1 + 1) (nI way, 0, (hk_it B_m_pb1 7 0 σ))).2.2)
set_option maxHeartbeats 4000000 in
set_option maxRecDepth 100000 in
theorem c_m_picksBy (l : Launch) (D : hk_D) (G : hk_G) (Z : hk_Z) (τ σ : hk_v) (way : Nat) (day : Int32) (hM : hk_M G) (hms : hk_mz Z σ) (hway : way < 2 ^ 31) : Met l yX11_picksBy (hk_ws yX11_picksBy cX11_picksBy 7 (some FieldType.int)) ({ frames := 2, cells := 0, slots := 0, locals := 44 }) (hk_P D G (hk_cm τ σ) [.ref (G.1 (.inr (0, 0))), .int (nI way), .int day]) (hk_Q D (hk_e G (some (.int (F_m_picksBy Z σ way day))) (hk_cm τ (T_m_picksBy Z σ way day)))) 0 0 (hk_A D) := by
  refine hk_met (by decide +kernel) (Nat.le_of_ble_eq_true rfl) (fun p e s m below meth c hx hb hr hml hlocks ht hown hin hK hH hS ls hl => ?_)
  have hl : lv_has ls 7 [(0, .ref (G.1 (.inr (0, 0)))), (1, .int (nI way)), (2, .int day)] := hl
  refine lv_iconst (v := 0) hx hb dX11_picksBy_0 (by decide) ?_
  refine lv_istore_n (lv' := [(3, .int 0), (0, .ref (G.1 (.inr (0, 0)))), (1, .int (nI way)), (2, .int day)]) hx hb dX11_picksBy_1 rfl hl (by decide) rfl (fun ls hl => ?_)
  have LP_1 : ∀ (r j : Nat) (t : hk_v) (H : Heap) (locs : List Loc) (ls : Array Slot) (QQ : State → Prop), j + r = 7 → ((∀ q k, q ≠ (1, 36) → t q k = σ q k)) → hk_H D G (hk_cm τ t) H → va_S (hk_A D) s.heap H locs → lv_has ls 7 [(3, .int (nI j)), (0, .ref (G.1 (.inr (0, 0)))), (1, .int (nI way)), (2, .int day)] → (∀ (H : Heap) (locs : List Loc) (ls : Array Slot), hk_H D G (hk_cm τ (hk_it B_m_pb1 r j t)) H → va_S (hk_A D) s.heap H locs → lv_has ls 7 [(3, .int (nI 7)), (0, .ref (G.1 (.inr (0, 0)))), (1, .int (nI way)), (2, .int day)] → ((∀ q k, q ≠ (1, 36) → (hk_it B_m_pb1 r j t) q k = σ q k)) → W p l e ({ frames := 2, cells := 0, slots := 0, locals := 44 }) s m ([.ref (G.1 (.inr (0, 0))), .int (nI way), .int day] : List Value).toArray below meth c H locs 0 0 QQ (F0 m 21 ls [])) → W p l e ({ frames := 2, cells := 0, slots := 0, locals := 44 }) s m ([.ref (G.1 (.inr (0, 0))), .int (nI way), .int day] : List Value).toArray below meth c H locs 0 0 QQ (F0 m 2 ls []) := by
    intro r
    induction r with
    | zero =>
      intro j t H locs ls QQ hn_m_pb1 hI_m_pb1 hH hS hl kk
      refine lv_iload_n hx hb dX11_picksBy_2 rfl (lv_at hl 0 rfl) ?_
      refine lv_bipush (v := 7) hx hb dX11_picksBy_3 (by decide) ?_
      refine lv_icmp_ge (tgt := 21) hx hb dX11_picksBy_5 (by decide) (fun c_2 => ?_) (fun c_2 => ?_)
      rotate_left
      · exfalso; rw [show (7 : Int32) = nI 7 from rfl] at c_2; first | exact nI_ge (by omega) (by omega) c_2 | exact c_2 (nI_le (by omega) (by omega)) | exact nI_nlt (by omega) (by omega) c_2 | exact c_2 (nI_lt (by omega) (by omega))
      have hiN : j = 7 := by omega
      rw [hiN] at hl
      exact kk H locs ls hH hS (lv_sub hl [0, 1, 2, 3] rfl) hI_m_pb1
    | succ r ih =>
      intro j t H locs ls QQ hn_m_pb1 hI_m_pb1 hH hS hl kk
      refine lv_iload_n hx hb dX11_picksBy_2 rfl (lv_at hl 0 rfl) ?_
      refine lv_bipush (v := 7) hx hb dX11_picksBy_3 (by decide) ?_
      refine lv_icmp_ge (tgt := 21) hx hb dX11_picksBy_5 (by decide) (fun c_3 => ?_) (fun c_3 => ?_)
      · exfalso; rw [show (7 : Int32) = nI 7 from rfl] at c_3; first | exact nI_ge (by omega) (by omega) c_3 | exact c_3 (nI_le (by omega) (by omega)) | exact nI_nlt (by omega) (by omega) c_3 | exact c_3 (nI_lt (by omega) (by omega))
      refine lv_aload_n hx hb dX11_picksBy_8 rfl (lv_at hl 1 rfl) ?_
      refine hk_getr (L := (.inr (0, 0))) (v := .ref (G.1 (.inr (1, 36)))) hx hb ht hown hK hH kc_12 hM.k0 36 (by decide) rfl tw_728 rfl hM.r36 dX11_picksBy_9 ?_
      refine lv_iload_n hx hb dX11_picksBy_12 rfl (lv_at hl 0 rfl) ?_
      refine lv_iconst (v := 0) hx hb dX11_picksBy_13 (by decide) ?_
      refine hk_ist (L := (.inr (1, 36))) hx hb hK hH hS hM.k36 (vp_in_nI (by omega) (by omega)) dX11_picksBy_14 (fun H locs hH hS => ?_)
      rw [hk_up_r, nI_clamp (by omega)] at hH
      refine lv_iinc (v := nI (j + 1)) (lv' := [(3, .int (nI (j + 1))), (0, .ref (G.1 (.inr (0, 0)))), (1, .int (nI way)), (2, .int day)]) hx hb dX11_picksBy_15 hl (k := 0) rfl (nI_1 _) (by decide) rfl (fun ls hl => ?_)
      refine lv_goto (tgt := 2) hx hb dX11_picksBy_18 (by decide) ?_
      have EB_4 : B_m_pb1 j t = (hk_u t (1, 36) j 0) := by simp only [B_m_pb1]
      have hI2 : ((∀ q k, q ≠ (1, 36) → (hk_u t (1, 36) j 0) q k = σ q k)) := by
        exact fun q k h => by rw [hk_u_ap, if_neg (fun e => h e.1)]; exact hI_m_pb1 q k h
      exact ih (j + 1) (hk_u t (1, 36) j 0) _ _ _ QQ (by omega) hI2 hH hS (lv_sub hl [0, 1, 2, 3] rfl) (fun H locs ls hH hS hl hI_m_pb1 => kk H locs ls (by rw [hk_it_s, EB_4]; exact hH) hS hl (by first | exact hI_m_pb1 | (rw [hk_it_s, EB_4]; exact hI_m_pb1)))
  refine LP_1 7 0 σ _ _ _ _ (by omega) (fun _ _ _ => rfl) hH hS (lv_sub hl [0, 1, 2, 3] rfl) (fun H locs ls hH hS hl hI_m_pb1 => ?_)
  refine lv_iload_n hx hb dX11_picksBy_21 rfl (lv_at hl 2 rfl) ?_
  refine lv_istore_n (lv' := [(3, .int (nI way)), (0, .ref (G.1 (.inr (0, 0)))), (1, .int (nI way)), (2, .int day)]) hx hb dX11_picksBy_22 rfl hl (by decide) rfl (fun ls hl => ?_)
  refine lv_iconst (v := 0) hx hb dX11_picksBy_23 (by decide) ?_
  refine lv_istore (lv' := [(4, .int 0), (3, .int (nI way)), (0, .ref (G.1 (.inr (0, 0)))), (1, .int (nI way)), (2, .int day)]) hx hb dX11_picksBy_24 hl (by decide) rfl (fun ls hl => ?_)
  have LP_5 : ∀ (n : Nat) (rest : Int32) (kq : Int32) (t : hk_v) (H : Heap) (locs : List Loc) (ls : Array Slot) (QQ : State → Prop), ((∀ q k, q ≠ (1, 36) → t q k = σ q k) ∧ (∃ w : Nat, w < 2 ^ 31 ∧ rest = nI w) ∧ ∃ c : Nat, kq = nI c ∧ c ≤ Z.1 1 ∧ c + n = Z.1 1 + 1) → hk_H D G (hk_cm τ t) H → va_S (hk_A D) s.heap H locs → lv_has ls 7 [(4, .int kq), (3, .int rest), (0, .ref (G.1 (.inr (0, 0)))), (1, .int (nI way)), (2, .int day)] → (∀ (H : Heap) (locs : List Loc) (ls : Array Slot), hk_H D G (hk_cm τ (hk_wh (B_m_pb2 Z) n (rest, kq, t)).2.2) H → va_S (hk_A D) s.heap H locs → lv_has ls 7 [(4, .int ((hk_wh (B_m_pb2 Z) n (rest, kq, t)).2.1)), (3, .int ((hk_wh (B_m_pb2 Z) n (rest, kq, t)).1)), (0, .ref (G.1 (.inr (0, 0)))), (1, .int (nI way)), (2, .int day)] → (nI (Z.1 1)) ≤ (hk_wh (B_m_pb2 Z) n (rest, kq, t)).2.1 → W p l e ({ frames := 2, cells := 0, slots := 0, locals := 44 }) s m ([.ref (G.1 (.inr (0, 0))), .int (nI way), .int day] : List Value).toArray below meth c H locs 0 0 QQ (F0 m 78 ls [])) → (∀ (H : Heap) (locs : List Loc) (ls : Array Slot), hk_H D G (hk_cm τ (hk_wh (B_m_pb2 Z) n (rest, kq, t)).2.2) H → va_S (hk_A D) s.heap H locs → lv_has ls 7 [(4, .int ((hk_wh (B_m_pb2 Z) n (rest, kq, t)).2.1)), (3, .int ((hk_wh (B_m_pb2 Z) n (rest, kq, t)).1)), (0, .ref (G.1 (.inr (0, 0)))), (1, .int (nI way)), (2, .int day)] → ¬ ((nI (Z.1 1)) ≤ (hk_wh (B_m_pb2 Z) n (rest, kq, t)).2.1) → W p l e ({ frames := 2, cells := 0, slots := 0, locals := 44 }) s m ([.ref (G.1 (.inr (0, 0))), .int (nI way), .int day] : List Value).toArray below meth c H locs 0 0 QQ (F0 m 46 ls [])) → W p l e ({ frames := 2, cells := 0, slots := 0, locals := 44 }) s m ([.ref (G.1 (.inr (0, 0))), .int (nI way), .int day] : List Value).toArray below meth c H locs 0 0 QQ (F0 m 26 ls []) := by
    intro n
    induction n with
    | zero =>
      intro rest kq t H locs ls QQ hI hH hS hl kk kr
      obtain ⟨-, -, c, h1, h2, h3⟩ := hI; omega
    | succ n ih =>
      intro rest kq t H locs ls QQ hI hH hS hl kk kr
      obtain ⟨hIk, hIr, hIc⟩ := hI
      refine lv_iload hx hb dX11_picksBy_26 (lv_at hl 0 rfl) ?_
      refine lv_aload_n hx hb dX11_picksBy_28 rfl (lv_at hl 2 rfl) ?_
      refine hk_geti (L := (.inr (0, 0))) (v := nI (Z.1 1)) hx hb ht hown hK hH kc_12 hM.k0 9 (by decide) rfl tw_701 rfl (by show t (0, 0) 9 = _; rw [hIk _ _ (by decide)]; exact hms.1.2.1) dX11_picksBy_29 ?_
      refine lv_icmp_ge (tgt := 78) hx hb dX11_picksBy_32 (by decide) (fun c_6 => ?_) (fun c_6 => ?_)
      · have EB_7 : (B_m_pb2 Z) (rest, kq, t) = none := by simp only [B_m_pb2, if_pos c_6]
        exact kk H locs ls (by rw [hk_wh_n EB_7]; exact hH) hS (by rw [hk_wh_n EB_7]; exact lv_sub hl [0, 1, 2, 3, 4] rfl) (by rw [hk_wh_n EB_7]; exact c_6)
      · refine lv_iload_n hx hb dX11_picksBy_35 rfl (lv_at hl 1 rfl) ?_
        refine lv_bipush (v := 7) hx hb dX11_picksBy_36 (by decide) ?_
        refine lv_irem hx hb dX11_picksBy_38 (by decide) ?_
        refine lv_aload_n hx hb dX11_picksBy_39 rfl (lv_at hl 2 rfl) ?_
        refine hk_geti (L := (.inr (0, 0))) (v := nI (Z.1 0)) hx hb ht hown hK hH kc_12 hM.k0 2 (by decide) rfl tw_694 rfl (by show t (0, 0) 2 = _; rw [hIk _ _ (by decide)]; exact hms.1.1) dX11_picksBy_40 ?_
        refine lv_icmp_le (tgt := 48) hx hb dX11_picksBy_43 (by decide) (fun c_8 => ?_) (fun c_8 => ?_)
        · refine lv_aload_n hx hb dX11_picksBy_48 rfl (lv_at hl 2 rfl) ?_
          refine hk_getr (L := (.inr (0, 0))) (v := .ref (G.1 (.inr (1, 36)))) hx hb ht hown hK hH kc_12 hM.k0 36 (by decide) rfl tw_728 rfl hM.r36 dX11_picksBy_49 ?_
          refine lv_iload_n hx hb dX11_picksBy_52 rfl (lv_at hl 1 rfl) ?_
          refine lv_bipush (v := 7) hx hb dX11_picksBy_53 (by decide) ?_
          refine lv_irem hx hb dX11_picksBy_55 (by decide) ?_
          refine lv_dup2_11 hx hb dX11_picksBy_56 rfl rfl ?_
          refine hk_ild (L := (.inr (1, 36))) (v := t (1, 36) ((rest - rest / 7 * 7).toNatClampNeg)) hx hb hK hH hM.k36 (pb_in hIr) rfl dX11_picksBy_57 ?_
          refine lv_aload_n hx hb dX11_picksBy_58 rfl (lv_at hl 2 rfl) ?_
          refine hk_getr (L := (.inr (0, 0))) (v := .ref (G.1 (.inr (1, 10)))) hx hb ht hown hK hH kc_12 hM.k0 10 (by decide) rfl tw_702 rfl hM.r10 dX11_picksBy_59 ?_
          refine lv_iload hx hb dX11_picksBy_62 (lv_at hl 0 rfl) ?_
          refine hk_ild (L := (.inr (1, 10))) (v := t (1, 10) kq.toNatClampNeg) hx hb hK hH hM.k10 (pb_k hIc hms.2.2.1 c_6) rfl dX11_picksBy_64 ?_
          refine lv_iadd hx hb dX11_picksBy_65 ?_
          refine hk_ist (L := (.inr (1, 36))) hx hb hK hH hS hM.k36 (pb_in hIr) dX11_picksBy_66 (fun H locs hH hS => ?_)
          rw [hk_up_r] at hH
          refine lv_iload_n hx hb dX11_picksBy_67 rfl (lv_at hl 1 rfl) ?_
          refine lv_bipush (v := 7) hx hb dX11_picksBy_68 (by decide) ?_
          refine lv_idiv hx hb dX11_picksBy_70 (by decide) ?_
          refine lv_istore_n (lv' := [(3, .int (rest / 7)), (4, .int kq), (0, .ref (G.1 (.inr (0, 0)))), (1, .int (nI way)), (2, .int day)]) hx hb dX11_picksBy_71 rfl hl (by decide) rfl (fun ls hl => ?_)
          refine lv_iinc (v := kq + 1) (lv' := [(4, .int (kq + 1)), (3, .int (rest / 7)), (0, .ref (G.1 (.inr (0, 0)))), (1, .int (nI way)), (2, .int day)]) hx hb dX11_picksBy_72 hl (k := 1) rfl rfl (by decide) rfl (fun ls hl => ?_)
          refine lv_goto (tgt := 26) hx hb dX11_picksBy_75 (by decide) ?_
          have EB_9 : (B_m_pb2 Z) (rest, kq, t) = some (rest / 7, kq + 1, (hk_u t (1, 36) ((rest - rest / 7 * 7).toNatClampNeg) ((t (1, 36) ((rest - rest / 7 * 7).toNatClampNeg)) + (t (1, 10) kq.toNatClampNeg)))) := by simp only [B_m_pb2, if_neg c_6, if_pos c_8]
          have hI2 : ((∀ q k, q ≠ (1, 36) → (hk_u t (1, 36) ((rest - rest / 7 * 7).toNatClampNeg) ((t (1, 36) ((rest - rest / 7 * 7).toNatClampNeg)) + (t (1, 10) kq.toNatClampNeg))) q k = σ q k) ∧ (∃ w : Nat, w < 2 ^ 31 ∧ rest / 7 = nI w) ∧ ∃ c : Nat, kq + 1 = nI c ∧ c ≤ Z.1 1 ∧ c + n = Z.1 1 + 1) := by
            exact ⟨fun q k h => by rw [hk_u_ap, if_neg (fun e => h e.1)]; exact hIk q k h, pb_div hIr, pb_k1 hIc hms.2.2.1 c_6⟩
          exact ih (rest / 7) (kq + 1) (hk_u t (1, 36) ((rest - rest / 7 * 7).toNatClampNeg) ((t (1, 36) ((rest - rest / 7 * 7).toNatClampNeg)) + (t (1, 10) kq.toNatClampNeg))) _ _ _ QQ hI2 hH hS (lv_sub hl [0, 1, 2, 3, 4] rfl) (fun H locs ls hH hS hl hc => kk H locs ls (by rw [hk_wh_s EB_9]; exact hH) hS (by rw [hk_wh_s EB_9]; exact hl) (by rw [hk_wh_s EB_9]; exact hc)) (fun H locs ls hH hS hl hc => kr H locs ls (by rw [hk_wh_s EB_9]; exact hH) hS (by rw [hk_wh_s EB_9]; exact hl) (by rw [hk_wh_s EB_9]; exact hc))
        · have EB_10 : (B_m_pb2 Z) (rest, kq, t) = none := by simp only [B_m_pb2, if_neg c_6, if_neg c_8]
          exact kr H locs ls (by rw [hk_wh_n EB_10]; exact hH) hS (by rw [hk_wh_n EB_10]; exact lv_sub hl [0, 1, 2, 3, 4] rfl) (by rw [hk_wh_n EB_10]; exact c_6)
  refine LP_5 (Z.1 1 + 1) (nI way) 0 (hk_it B_m_pb1 7 0 σ) _ _ _ _ ⟨hI_m_pb1, ⟨way, hway, rfl⟩, 0, rfl, by omega, by omega⟩ hH hS (lv_sub hl [0, 1, 2, 3, 4] rfl) (fun H locs ls hH hS hl hex_10 => ?_) (fun H locs ls hH hS hl hex_10 => ?_)
  · refine lv_iconst (v := 0) hx hb dX11_picksBy_78 (by decide) ?_
    refine lv_istore (lv' := [(4, .int 0), (3, .int ((hk_wh (B_m_pb2 Z) (Z.1 1 + 1) (nI way, 0, (hk_it B_m_pb1 7 0 σ))).1)), (0, .ref (G.1 (.inr (0, 0)))), (1, .int (nI way)), (2, .int day)]) hx hb dX11_picksBy_79 hl (by decide) rfl (fun ls hl => ?_)
    refine lv_iconst (v := 0) hx hb dX11_picksBy_81 (by decide) ?_
    refine lv_istore (lv' := [(5, .int 0), (4, .int 0), (3, .int ((hk_wh (B_m_pb2 Z) (Z.1 1 + 1) (nI way, 0, (hk_it B_m_pb1 7 0 σ))).1)), (0, .ref (G.1 (.inr (0, 0)))), (1, .int (nI way)), (2, .int day)]) hx hb dX11_picksBy_82 hl (by decide) rfl (fun ls hl => ?_)
    have LP_11 : ∀ (r j : Nat) (sum : Int32) (t : hk_v) (H : Heap) (locs : List Loc) (ls : Array Slot) (QQ : State → Prop), j + r = Z.1 0 → ((∀ q k, q ≠ (1, 36) → t q k = σ q k)) → hk_H D G (hk_cm τ t) H → va_S (hk_A D) s.heap H locs → lv_has ls 7 [(5, .int (nI j)), (4, .int sum), (3, .int ((hk_wh (B_m_pb2 Z) (Z.1 1 + 1) (nI way, 0, (hk_it B_m_pb1 7 0 σ))).1)), (0, .ref (G.1 (.inr (0, 0)))), (1, .int (nI way)), (2, .int day)] → (∀ (H : Heap) (locs : List Loc) (ls : Array Slot), hk_H D G (hk_cm τ (hk_it (B_m_pb3 day) r j (sum, t)).2) H → va_S (hk_A D) s.heap H locs → lv_has ls 7 [(5, .int (nI (Z.1 0))), (4, .int ((hk_it (B_m_pb3 day) r j (sum, t)).1)), (3, .int ((hk_wh (B_m_pb2 Z) (Z.1 1 + 1) (nI way, 0, (hk_it B_m_pb1 7 0 σ))).1)), (0, .ref (G.1 (.inr (0, 0)))), (1, .int (nI way)), (2, .int day)] → ((∀ q k, q ≠ (1, 36) → (hk_it (B_m_pb3 day) r j (sum, t)).2 q k = σ q k)) → W p l e ({ frames := 2, cells := 0, slots := 0, locals := 44 }) s m ([.ref (G.1 (.inr (0, 0))), .int (nI way), .int day] : List Value).toArray below meth c H locs 0 0 QQ (F0 m 156 ls [])) → W p l e ({ frames := 2, cells := 0, slots := 0, locals := 44 }) s m ([.ref (G.1 (.inr (0, 0))), .int (nI way), .int day] : List Value).toArray below meth c H locs 0 0 QQ (F0 m 84 ls []) := by
      intro r
      induction r with
      | zero =>
        intro j sum t H locs ls QQ hn_m_pb3 hI_m_pb3 hH hS hl kk
        have hz6 := hms.2
        refine lv_iload hx hb dX11_picksBy_84 (lv_at hl 0 rfl) ?_
        refine lv_aload_n hx hb dX11_picksBy_86 rfl (lv_at hl 3 rfl) ?_
        refine hk_geti (L := (.inr (0, 0))) (v := nI (Z.1 0)) hx hb ht hown hK hH kc_12 hM.k0 2 (by decide) rfl tw_694 rfl (by show t (0, 0) 2 = _; rw [hI_m_pb3 _ _ (by decide)]; exact hms.1.1) dX11_picksBy_87 ?_
        refine lv_icmp_ge (tgt := 156) hx hb dX11_picksBy_90 (by decide) (fun c_12 => ?_) (fun c_12 => ?_)
        rotate_left
        · exfalso; first | exact nI_ge (by omega) (by omega) c_12 | exact c_12 (nI_le (by omega) (by omega)) | exact nI_nlt (by omega) (by omega) c_12 | exact c_12 (nI_lt (by omega) (by omega))
        have hiN : j = Z.1 0 := by omega
        rw [hiN] at hl
        exact kk H locs ls hH hS (lv_sub hl [0, 1, 2, 3, 4, 5] rfl) hI_m_pb3
      | succ r ih =>
        intro j sum t H locs ls QQ hn_m_pb3 hI_m_pb3 hH hS hl kk
        have hz6 := hms.2
        refine lv_iload hx hb dX11_picksBy_84 (lv_at hl 0 rfl) ?_
        refine lv_aload_n hx hb dX11_picksBy_86 rfl (lv_at hl 3 rfl) ?_
        refine hk_geti (L := (.inr (0, 0))) (v := nI (Z.1 0)) hx hb ht hown hK hH kc_12 hM.k0 2 (by decide) rfl tw_694 rfl (by show t (0, 0) 2 = _; rw [hI_m_pb3 _ _ (by decide)]; exact hms.1.1) dX11_picksBy_87 ?_
        refine lv_icmp_ge (tgt := 156) hx hb dX11_picksBy_90 (by decide) (fun c_13 => ?_) (fun c_13 => ?_)
        · exfalso; first | exact nI_ge (by omega) (by omega) c_13 | exact c_13 (nI_le (by omega) (by omega)) | exact nI_nlt (by omega) (by omega) c_13 | exact c_13 (nI_lt (by omega) (by omega))
        refine lv_bipush (v := 12) hx hb dX11_picksBy_93 (by decide) ?_
        refine lv_aload_n hx hb dX11_picksBy_95 rfl (lv_at hl 3 rfl) ?_
        refine hk_getr (L := (.inr (0, 0))) (v := .ref (G.1 (.inr (1, 36)))) hx hb ht hown hK hH kc_12 hM.k0 36 (by decide) rfl tw_728 rfl hM.r36 dX11_picksBy_96 ?_
        refine lv_iload hx hb dX11_picksBy_99 (lv_at hl 0 rfl) ?_
        refine lv_iconst (v := 1) hx hb dX11_picksBy_101 (by decide) ?_
        refine lv_iadd hx hb dX11_picksBy_102 ?_
        rw [show nI j + 1 = nI (j + 1) from nI_add _ 1]
        refine hk_ild (L := (.inr (1, 36))) (v := t (1, 36) (j + 1)) hx hb hK hH hM.k36 (vp_in_nI (by omega) (by omega)) (by rw [nI_clamp (by omega)]; rfl) dX11_picksBy_103 ?_
        refine lv_imul hx hb dX11_picksBy_104 ?_
        refine lv_istore (lv' := [(6, .int (12 * (t (1, 36) (j + 1)))), (5, .int (nI j)), (4, .int sum), (3, .int ((hk_wh (B_m_pb2 Z) (Z.1 1 + 1) (nI way, 0, (hk_it B_m_pb1 7 0 σ))).1)), (0, .ref (G.1 (.inr (0, 0)))), (1, .int (nI way)), (2, .int day)]) hx hb dX11_picksBy_105 hl (by decide) rfl (fun ls hl => ?_)
        refine lv_iload hx hb dX11_picksBy_107 (lv_at hl 2 rfl) ?_
        refine lv_aload_n hx hb dX11_picksBy_109 rfl (lv_at hl 4 rfl) ?_
        refine lv_iload hx hb dX11_picksBy_110 (lv_at hl 1 rfl) ?_
        refine lv_iload_n hx hb dX11_picksBy_112 rfl (lv_at hl 6 rfl) ?_
        refine hk_cV (L := (.inr (0, 0))) (As := [.int (nI j), .int day]) (rest := [.int sum]) hx hb hml hl.1 ht hown hK hH hS (c_m_isRipe l D G Z τ t (nI j) day hM (vp_in_nI (by omega) (by omega))) ymV_X11_isRipe kc_12 hM.k0 tw_864 ⟨rfl, rfl⟩ ⟨Nat.le_of_ble_eq_true rfl, Nat.le_of_ble_eq_true rfl⟩ rfl rfl (Nat.le_of_ble_eq_true rfl) dX11_picksBy_113 ⟨Nat.le_of_ble_eq_true rfl, Nat.le_of_ble_eq_true rfl⟩ (hk_ea (fun H locs hH hS => ?_))
        refine lv_if_ne (tgt := 123) hx hb dX11_picksBy_116 (by decide) (fun c_14 => ?_) (fun c_14 => ?_)
        · refine lv_iload hx hb dX11_picksBy_123 (lv_at hl 0 rfl) ?_
          refine lv_aload_n hx hb dX11_picksBy_125 rfl (lv_at hl 4 rfl) ?_
          refine hk_getr (L := (.inr (0, 0))) (v := .ref (G.1 (.inr (1, 3)))) hx hb ht hown hK hH kc_12 hM.k0 3 (by decide) rfl tw_695 rfl hM.r3 dX11_picksBy_126 ?_
          refine lv_iload hx hb dX11_picksBy_129 (lv_at hl 1 rfl) ?_
          refine hk_ild (L := (.inr (1, 3))) (v := t (1, 3) j) hx hb hK hH hM.k3 (vp_in_nI (by omega) (by omega)) (by rw [nI_clamp (by omega)]; rfl) dX11_picksBy_131 ?_
          refine lv_icmp_ge (tgt := 140) hx hb dX11_picksBy_132 (by decide) (fun c_15 => ?_) (fun c_15 => ?_)
          · refine lv_aload_n hx hb dX11_picksBy_140 rfl (lv_at hl 4 rfl) ?_
            refine hk_getr (L := (.inr (0, 0))) (v := .ref (G.1 (.inr (1, 3)))) hx hb ht hown hK hH kc_12 hM.k0 3 (by decide) rfl tw_695 rfl hM.r3 dX11_picksBy_141 ?_
            refine lv_iload hx hb dX11_picksBy_144 (lv_at hl 1 rfl) ?_
            refine hk_ild (L := (.inr (1, 3))) (v := t (1, 3) j) hx hb hK hH hM.k3 (vp_in_nI (by omega) (by omega)) (by rw [nI_clamp (by omega)]; rfl) dX11_picksBy_146 ?_
            refine lv_iadd hx hb dX11_picksBy_147 ?_
            refine lv_istore (lv' := [(4, .int (sum + (t (1, 3) j))), (6, .int (12 * (t (1, 36) (j + 1)))), (5, .int (nI j)), (3, .int ((hk_wh (B_m_pb2 Z) (Z.1 1 + 1) (nI way, 0, (hk_it B_m_pb1 7 0 σ))).1)), (0, .ref (G.1 (.inr (0, 0)))), (1, .int (nI way)), (2, .int day)]) hx hb dX11_picksBy_148 hl (by decide) rfl (fun ls hl => ?_)
            refine lv_iinc (v := nI (j + 1)) (lv' := [(5, .int (nI (j + 1))), (4, .int (sum + (t (1, 3) j))), (6, .int (12 * (t (1, 36) (j + 1)))), (3, .int ((hk_wh (B_m_pb2 Z) (Z.1 1 + 1) (nI way, 0, (hk_it B_m_pb1 7 0 σ))).1)), (0, .ref (G.1 (.inr (0, 0)))), (1, .int (nI way)), (2, .int day)]) hx hb dX11_picksBy_150 hl (k := 2) rfl (nI_1 _) (by decide) rfl (fun ls hl => ?_)
            refine lv_goto (tgt := 84) hx hb dX11_picksBy_153 (by decide) ?_
            have EB_16 : (B_m_pb3 day) j (sum, t) = (sum + (t (1, 3) j), t) := by simp only [B_m_pb3, if_neg c_14, if_pos c_15]
            have hI2 : ((∀ q k, q ≠ (1, 36) → t q k = σ q k)) := by
              exact hI_m_pb3
            exact ih (j + 1) (sum + (t (1, 3) j)) t _ _ _ QQ (by omega) hI2 hH hS (lv_sub hl [0, 1, 3, 4, 5, 6] rfl) (fun H locs ls hH hS hl hI_m_pb3 => kk H locs ls (by rw [hk_it_s, EB_16]; exact hH) hS (by rw [hk_it_s, EB_16]; exact hl) (by first | exact hI_m_pb3 | (rw [hk_it_s, EB_16]; exact hI_m_pb3)))
          · refine lv_iload hx hb dX11_picksBy_135 (lv_at hl 0 rfl) ?_
            refine lv_goto (tgt := 147) hx hb dX11_picksBy_137 (by decide) ?_
            refine lv_iadd hx hb dX11_picksBy_147 ?_
            refine lv_istore (lv' := [(4, .int (sum + (12 * (t (1, 36) (j + 1))))), (6, .int (12 * (t (1, 36) (j + 1)))), (5, .int (nI j)), (3, .int ((hk_wh (B_m_pb2 Z) (Z.1 1 + 1) (nI way, 0, (hk_it B_m_pb1 7 0 σ))).1)), (0, .ref (G.1 (.inr (0, 0)))), (1, .int (nI way)), (2, .int day)]) hx hb dX11_picksBy_148 hl (by decide) rfl (fun ls hl => ?_)
            refine lv_iinc (v := nI (j + 1)) (lv' := [(5, .int (nI (j + 1))), (4, .int (sum + (12 * (t (1, 36) (j + 1))))), (6, .int (12 * (t (1, 36) (j + 1)))), (3, .int ((hk_wh (B_m_pb2 Z) (Z.1 1 + 1) (nI way, 0, (hk_it B_m_pb1 7 0 σ))).1)), (0, .ref (G.1 (.inr (0, 0)))), (1, .int (nI way)), (2, .int day)]) hx hb dX11_picksBy_150 hl (k := 2) rfl (nI_1 _) (by decide) rfl (fun ls hl => ?_)
            refine lv_goto (tgt := 84) hx hb dX11_picksBy_153 (by decide) ?_
            have EB_17 : (B_m_pb3 day) j (sum, t) = (sum + (12 * (t (1, 36) (j + 1))), t) := by simp only [B_m_pb3, if_neg c_14, if_neg c_15]
            have hI2 : ((∀ q k, q ≠ (1, 36) → t q k = σ q k)) := by
              exact hI_m_pb3
            exact ih (j + 1) (sum + (12 * (t (1, 36) (j + 1)))) t _ _ _ QQ (by omega) hI2 hH hS (lv_sub hl [0, 1, 3, 4, 5, 6] rfl) (fun H locs ls hH hS hl hI_m_pb3 => kk H locs ls (by rw [hk_it_s, EB_17]; exact hH) hS (by rw [hk_it_s, EB_17]; exact hl) (by first | exact hI_m_pb3 | (rw [hk_it_s, EB_17]; exact hI_m_pb3)))
        · refine lv_iconst (v := 0) hx hb dX11_picksBy_119 (by decide) ?_
          refine lv_goto (tgt := 147) hx hb dX11_picksBy_120 (by decide) ?_
          refine lv_iadd hx hb dX11_picksBy_147 ?_
          refine lv_istore (lv' := [(4, .int (sum + 0)), (6, .int (12 * (t (1, 36) (j + 1)))), (5, .int (nI j)), (3, .int ((hk_wh (B_m_pb2 Z) (Z.1 1 + 1) (nI way, 0, (hk_it B_m_pb1 7 0 σ))).1)), (0, .ref (G.1 (.inr (0, 0)))), (1, .int (nI way)), (2, .int day)]) hx hb dX11_picksBy_148 hl (by decide) rfl (fun ls hl => ?_)
          refine lv_iinc (v := nI (j + 1)) (lv' := [(5, .int (nI (j + 1))), (4, .int (sum + 0)), (6, .int (12 * (t (1, 36) (j + 1)))), (3, .int ((hk_wh (B_m_pb2 Z) (Z.1 1 + 1) (nI way, 0, (hk_it B_m_pb1 7 0 σ))).1)), (0, .ref (G.1 (.inr (0, 0)))), (1, .int (nI way)), (2, .int day)]) hx hb dX11_picksBy_150 hl (k := 2) rfl (nI_1 _) (by decide) rfl (fun ls hl => ?_)
          refine lv_goto (tgt := 84) hx hb dX11_picksBy_153 (by decide) ?_
          have EB_18 : (B_m_pb3 day) j (sum, t) = (sum + 0, t) := by simp only [B_m_pb3, if_pos c_14]
          have hI2 : ((∀ q k, q ≠ (1, 36) → t q k = σ q k)) := by
            exact hI_m_pb3
          exact ih (j + 1) (sum + 0) t _ _ _ QQ (by omega) hI2 hH hS (lv_sub hl [0, 1, 3, 4, 5, 6] rfl) (fun H locs ls hH hS hl hI_m_pb3 => kk H locs ls (by rw [hk_it_s, EB_18]; exact hH) hS (by rw [hk_it_s, EB_18]; exact hl) (by first | exact hI_m_pb3 | (rw [hk_it_s, EB_18]; exact hI_m_pb3)))
    refine LP_11 (Z.1 0) 0 0 ((hk_wh (B_m_pb2 Z) (Z.1 1 + 1) (nI way, 0, (hk_it B_m_pb1 7 0 σ))).2.2) _ _ _ _ (by omega) (pb2_keep hI_m_pb1) hH hS (lv_sub hl [0, 1, 2, 3, 4, 5] rfl) (fun H locs ls hH hS hl hI_m_pb3 => ?_)
    refine lv_iload hx hb dX11_picksBy_156 (lv_at hl 1 rfl) ?_
    exact hk_iret hx hb hr hlocks hH hS ⟨(by simp only [F_m_picksBy, if_pos hex_10]), rfl, (by simp only [T_m_picksBy, if_pos hex_10])⟩ dX11_picksBy_158
  · refine lv_iconst (v := -1) hx hb dX11_picksBy_46 (by decide) ?_
    exact hk_iret hx hb hr hlocks hH hS ⟨(by simp only [F_m_picksBy, if_neg hex_10]), rfl, (by simp only [T_m_picksBy, if_neg hex_10])⟩ dX11_picksBy_47
theorem picksBy_o {Z : hk_Z} {σ : hk_v} {way : Nat} {day : Int32} : ∀ q k, q ≠ (1, 36) → T_m_picksBy Z σ way day q k = σ q k := by
  have h1 : ∀ q k, q ≠ (1, 36) → hk_it B_m_pb1 7 0 σ q k = σ q k := fun q k hq => hk_it_inv (f := B_m_pb1) (fun _ s => s q k = σ q k) 7 0 σ rfl (fun j s _ _ hs => by
    unfold B_m_pb1
    rw [hk_u_ap, if_neg (fun e => hq e.1)]
    exact hs)
  intro q k hq
  unfold T_m_picksBy
  split
  · refine hk_it_inv (f := B_m_pb3 day) (fun _ s => s.2 q k = σ q k) (Z.1 0) 0 _ (pb2_keep h1 q k hq) (fun j s _ _ hs => ?_)
    obtain ⟨x, u⟩ := s
    simp only [B_m_pb3]
    split
    · exact hs
    · split <;> exact hs
  · exact pb2_keep h1 q k hq
theorem h7 (n : Nat) (h : n ≤ 6) : 1 ≤ 7 ^ n ∧ 7 ^ n ≤ 117649 := by
  have : ∀ j : Fin 7, 1 ≤ 7 ^ j.val ∧ 7 ^ j.val ≤ 117649 := by decide
  exact this ⟨n, by omega⟩
theorem ymV_X11_picksBy : hk_mV yX11_picksBy cX11_picksBy 7 (some FieldType.int) RX11 2 := ⟨tw_955, tw_954, tw_32, tw_42, rfl, by decide, by decide, by decide +kernel⟩
def B_m_mw  (j : Nat) (ways : Int32) : Int32 := ways * 7
def B_m_ms (day : Int32) (Z : hk_Z) (j : Nat) (s : Int32 × Int32 × hk_v) : Int32 × Int32 × hk_v := match s with
  | (best, mo, t) => (if (F_m_picksBy Z t j day) ≤ mo then (best, mo, (T_m_picksBy Z t j day)) else (nI j, F_m_picksBy Z t j day, (T_m_picksBy Z t j day)))
def F_m_most (Z : hk_Z) (σ : hk_v) (day : Int32) (w : Int32) : Int32 := (if (hk_in day 0 40) = 0 then (-1) else (if (hk_in w 0 1) = 0 then (-1) else (if w = 0 then (hk_it (B_m_ms day Z) (7 ^ Z.1 1 - 1) 1 (0, 0, σ)).2.1 else (hk_it (B_m_ms day Z) (7 ^ Z.1 1 - 1) 1 (0, 0, σ)).1)))
def T_m_most (Z : hk_Z) (σ : hk_v) (day : Int32) (w : Int32) : hk_v := (if (hk_in day 0 40) = 0 then σ else (if (hk_in w 0 1) = 0 then σ else (hk_it (B_m_ms day Z) (7 ^ Z.1 1 - 1) 1 (0, 0, σ)).2.2))
set_option maxHeartbeats 4000000 in
set_option maxRecDepth 100000 in
theorem c_m_most (l : Launch) (D : hk_D) (G : hk_G) (Z : hk_Z) (τ σ : hk_v) (day : Int32) (w : Int32) (hM : hk_M G) (hms : hk_mz Z σ) : Met l yX11_most (hk_ws yX11_most cX11_most 8 (some FieldType.int)) ({ frames := 3, cells := 0, slots := 0, locals := 70 }) (hk_P D G (hk_cm τ σ) [.ref (G.1 (.inr (0, 0))), .int day, .int w]) (hk_Q D (hk_e G (some (.int (F_m_most Z σ day w))) (hk_cm τ (T_m_most Z σ day w)))) 0 0 (hk_A D) := by
  refine hk_met (by decide +kernel) (Nat.le_of_ble_eq_true rfl) (fun p e s m below meth c hx hb hr hml hlocks ht hown hin hK hH hS ls hl => ?_)
  have hl : lv_has ls 8 [(0, .ref (G.1 (.inr (0, 0)))), (1, .int day), (2, .int w)] := hl
  refine lv_iload_n hx hb dX11_most_0 rfl (lv_at hl 1 rfl) ?_
  refine lv_iconst (v := 0) hx hb dX11_most_1 (by decide) ?_
  refine lv_bipush (v := 40) hx hb dX11_most_2 (by decide) ?_
  refine hk_cS (As := [.int day, .int 0, .int 40]) (rest := []) hx hb hml hl.1 ht hown hK hH hS (c_isIn l D G τ σ day 0 40) ymS_X11_isIn tw_808 ⟨rfl, rfl⟩ ⟨Nat.le_of_ble_eq_true rfl, Nat.le_of_ble_eq_true rfl⟩ rfl rfl (Nat.le_of_ble_eq_true rfl) dX11_most_4 ⟨Nat.le_of_ble_eq_true rfl, Nat.le_of_ble_eq_true rfl⟩ (hk_ea (fun H locs hH hS => ?_))
  refine lv_if_eq (tgt := 19) hx hb dX11_most_7 (by decide) (fun c_1 => ?_) (fun c_1 => ?_)
  · refine lv_iconst (v := -1) hx hb dX11_most_19 (by decide) ?_
    exact hk_iret hx hb hr hlocks hH hS ⟨(by simp only [F_m_most, if_pos c_1]), rfl, (by simp only [T_m_most, if_pos c_1])⟩ dX11_most_20
  · refine lv_iload_n hx hb dX11_most_10 rfl (lv_at hl 2 rfl) ?_
    refine lv_iconst (v := 0) hx hb dX11_most_11 (by decide) ?_
    refine lv_iconst (v := 1) hx hb dX11_most_12 (by decide) ?_
    refine hk_cS (As := [.int w, .int 0, .int 1]) (rest := []) hx hb hml hl.1 ht hown hK hH hS (c_isIn l D G τ σ w 0 1) ymS_X11_isIn tw_808 ⟨rfl, rfl⟩ ⟨Nat.le_of_ble_eq_true rfl, Nat.le_of_ble_eq_true rfl⟩ rfl rfl (Nat.le_of_ble_eq_true rfl) dX11_most_13 ⟨Nat.le_of_ble_eq_true rfl, Nat.le_of_ble_eq_true rfl⟩ (hk_ea (fun H locs hH hS => ?_))
    refine lv_if_ne (tgt := 21) hx hb dX11_most_16 (by decide) (fun c_2 => ?_) (fun c_2 => ?_)
    · refine lv_iconst (v := 1) hx hb dX11_most_21 (by decide) ?_
      refine lv_istore_n (lv' := [(3, .int 1), (0, .ref (G.1 (.inr (0, 0)))), (1, .int day), (2, .int w)]) hx hb dX11_most_22 rfl hl (by decide) rfl (fun ls hl => ?_)
      refine lv_iconst (v := 0) hx hb dX11_most_23 (by decide) ?_
      refine lv_istore (lv' := [(4, .int 0), (3, .int 1), (0, .ref (G.1 (.inr (0, 0)))), (1, .int day), (2, .int w)]) hx hb dX11_most_24 hl (by decide) rfl (fun ls hl => ?_)
      have LP_3 : ∀ (r j : Nat) (ways : Int32) (H : Heap) (locs : List Loc) (ls : Array Slot) (QQ : State → Prop), j + r = Z.1 1 → (ways = nI (7 ^ (j))) → hk_H D G (hk_cm τ σ) H → va_S (hk_A D) s.heap H locs → lv_has ls 8 [(4, .int (nI j)), (3, .int ways), (0, .ref (G.1 (.inr (0, 0)))), (1, .int day), (2, .int w)] → (∀ (H : Heap) (locs : List Loc) (ls : Array Slot), hk_H D G (hk_cm τ σ) H → va_S (hk_A D) s.heap H locs → lv_has ls 8 [(4, .int (nI (Z.1 1))), (3, .int (hk_it B_m_mw r j ways)), (0, .ref (G.1 (.inr (0, 0)))), (1, .int day), (2, .int w)] → ((hk_it B_m_mw r j ways) = nI (7 ^ (Z.1 1))) → W p l e ({ frames := 3, cells := 0, slots := 0, locals := 70 }) s m ([.ref (G.1 (.inr (0, 0))), .int day, .int w] : List Value).toArray below meth c H locs 0 0 QQ (F0 m 46 ls [])) → W p l e ({ frames := 3, cells := 0, slots := 0, locals := 70 }) s m ([.ref (G.1 (.inr (0, 0))), .int day, .int w] : List Value).toArray below meth c H locs 0 0 QQ (F0 m 26 ls []) := by
        intro r
        induction r with
        | zero =>
          intro j ways H locs ls QQ hn_m_mw hI_m_mw hH hS hl kk
          have hz6 := hms.2
          refine lv_iload hx hb dX11_most_26 (lv_at hl 0 rfl) ?_
          refine lv_aload_n hx hb dX11_most_28 rfl (lv_at hl 2 rfl) ?_
          refine hk_geti (L := (.inr (0, 0))) (v := σ (0, 0) 9) hx hb ht hown hK hH kc_12 hM.k0 9 (by decide) rfl tw_701 rfl rfl dX11_most_29 ?_
          refine lv_icmp_ge (tgt := 46) hx hb dX11_most_32 (by decide) (fun c_4 => ?_) (fun c_4 => ?_)
          rotate_left
          · exfalso; rw [hms.1.2.1] at c_4; first | exact nI_ge (by omega) (by omega) c_4 | exact c_4 (nI_le (by omega) (by omega)) | exact nI_nlt (by omega) (by omega) c_4 | exact c_4 (nI_lt (by omega) (by omega))
          have hiN : j = Z.1 1 := by omega
          rw [hiN] at hl hI_m_mw
          exact kk H locs ls hH hS (lv_sub hl [0, 1, 2, 3, 4] rfl) hI_m_mw
        | succ r ih =>
          intro j ways H locs ls QQ hn_m_mw hI_m_mw hH hS hl kk
          have hz6 := hms.2
          refine lv_iload hx hb dX11_most_26 (lv_at hl 0 rfl) ?_
          refine lv_aload_n hx hb dX11_most_28 rfl (lv_at hl 2 rfl) ?_
          refine hk_geti (L := (.inr (0, 0))) (v := σ (0, 0) 9) hx hb ht hown hK hH kc_12 hM.k0 9 (by decide) rfl tw_701 rfl rfl dX11_most_29 ?_
          refine lv_icmp_ge (tgt := 46) hx hb dX11_most_32 (by decide) (fun c_5 => ?_) (fun c_5 => ?_)
          · exfalso; rw [hms.1.2.1] at c_5; first | exact nI_ge (by omega) (by omega) c_5 | exact c_5 (nI_le (by omega) (by omega)) | exact nI_nlt (by omega) (by omega) c_5 | exact c_5 (nI_lt (by omega) (by omega))
          refine lv_iload_n hx hb dX11_most_35 rfl (lv_at hl 1 rfl) ?_
          refine lv_bipush (v := 7) hx hb dX11_most_36 (by decide) ?_
          refine lv_imul hx hb dX11_most_38 ?_
          refine lv_istore_n (lv' := [(3, .int (ways * 7)), (4, .int (nI j)), (0, .ref (G.1 (.inr (0, 0)))), (1, .int day), (2, .int w)]) hx hb dX11_most_39 rfl hl (by decide) rfl (fun ls hl => ?_)
          refine lv_iinc (v := nI (j + 1)) (lv' := [(4, .int (nI (j + 1))), (3, .int (ways * 7)), (0, .ref (G.1 (.inr (0, 0)))), (1, .int day), (2, .int w)]) hx hb dX11_most_40 hl (k := 1) rfl (nI_1 _) (by decide) rfl (fun ls hl => ?_)
          refine lv_goto (tgt := 26) hx hb dX11_most_43 (by decide) ?_
          have EB_6 : B_m_mw j ways = ways * 7 := by simp only [B_m_mw]
          have hI2 : (ways * 7 = nI (7 ^ ((j + 1)))) := by
            rw [hI_m_mw, show (7 : Int32) = nI 7 from rfl, pk_mul, Nat.pow_succ]
          exact ih (j + 1) (ways * 7) _ _ _ QQ (by omega) hI2 hH hS (lv_sub hl [0, 1, 2, 3, 4] rfl) (fun H locs ls hH hS hl hI_m_mw => kk H locs ls hH hS (by rw [hk_it_s, EB_6]; exact hl) (by first | exact hI_m_mw | (rw [hk_it_s, EB_6]; exact hI_m_mw)))
      refine LP_3 (Z.1 1) 0 1 _ _ _ _ (by omega) rfl hH hS (lv_sub hl [0, 1, 2, 3, 4] rfl) (fun H locs ls hH hS hl hI_m_mw => ?_)
      rw [hI_m_mw] at hl
      refine lv_iconst (v := 0) hx hb dX11_most_46 (by decide) ?_
      refine lv_istore (lv' := [(4, .int 0), (3, .int (nI (7 ^ Z.1 1))), (0, .ref (G.1 (.inr (0, 0)))), (1, .int day), (2, .int w)]) hx hb dX11_most_47 hl (by decide) rfl (fun ls hl => ?_)
      refine lv_iconst (v := 0) hx hb dX11_most_49 (by decide) ?_
      refine lv_istore (lv' := [(5, .int 0), (4, .int 0), (3, .int (nI (7 ^ Z.1 1))), (0, .ref (G.1 (.inr (0, 0)))), (1, .int day), (2, .int w)]) hx hb dX11_most_50 hl (by decide) rfl (fun ls hl => ?_)
      refine lv_iconst (v := 1) hx hb dX11_most_52 (by decide) ?_
      refine lv_istore (lv' := [(6, .int 1), (5, .int 0), (4, .int 0), (3, .int (nI (7 ^ Z.1 1))), (0, .ref (G.1 (.inr (0, 0)))), (1, .int day), (2, .int w)]) hx hb dX11_most_53 hl (by decide) rfl (fun ls hl => ?_)
      have LP_7 : ∀ (r j : Nat) (best : Int32) (mo : Int32) (t : hk_v) (H : Heap) (locs : List Loc) (ls : Array Slot) (QQ : State → Prop), j + r = 7 ^ Z.1 1 → ((∀ q k, q ≠ (1, 36) → t q k = σ q k)) → hk_H D G (hk_cm τ t) H → va_S (hk_A D) s.heap H locs → lv_has ls 8 [(6, .int (nI j)), (5, .int mo), (4, .int best), (3, .int (nI (7 ^ Z.1 1))), (0, .ref (G.1 (.inr (0, 0)))), (1, .int day), (2, .int w)] → (∀ (H : Heap) (locs : List Loc) (ls : Array Slot), hk_H D G (hk_cm τ (hk_it (B_m_ms day Z) r j (best, mo, t)).2.2) H → va_S (hk_A D) s.heap H locs → lv_has ls 8 [(6, .int (nI (7 ^ Z.1 1))), (5, .int ((hk_it (B_m_ms day Z) r j (best, mo, t)).2.1)), (4, .int ((hk_it (B_m_ms day Z) r j (best, mo, t)).1)), (3, .int (nI (7 ^ Z.1 1))), (0, .ref (G.1 (.inr (0, 0)))), (1, .int day), (2, .int w)] → ((∀ q k, q ≠ (1, 36) → (hk_it (B_m_ms day Z) r j (best, mo, t)).2.2 q k = σ q k)) → W p l e ({ frames := 3, cells := 0, slots := 0, locals := 70 }) s m ([.ref (G.1 (.inr (0, 0))), .int day, .int w] : List Value).toArray below meth c H locs 0 0 QQ (F0 m 108 ls [])) → W p l e ({ frames := 3, cells := 0, slots := 0, locals := 70 }) s m ([.ref (G.1 (.inr (0, 0))), .int day, .int w] : List Value).toArray below meth c H locs 0 0 QQ (F0 m 55 ls []) := by
        intro r
        induction r with
        | zero =>
          intro j best mo t H locs ls QQ hn_m_ms hI_m_ms hH hS hl kk
          have hp7 := h7 (Z.1 1) hms.2.2.1
          refine lv_iload hx hb dX11_most_55 (lv_at hl 0 rfl) ?_
          refine lv_iload_n hx hb dX11_most_57 rfl (lv_at hl 3 rfl) ?_
          refine lv_icmp_ge (tgt := 108) hx hb dX11_most_58 (by decide) (fun c_8 => ?_) (fun c_8 => ?_)
          rotate_left
          · exfalso; first | exact nI_ge (by omega) (by omega) c_8 | exact c_8 (nI_le (by omega) (by omega)) | exact nI_nlt (by omega) (by omega) c_8 | exact c_8 (nI_lt (by omega) (by omega))
          have hiN : j = 7 ^ Z.1 1 := by omega
          rw [hiN] at hl
          exact kk H locs ls hH hS (lv_sub hl [0, 1, 2, 3, 4, 5, 6] rfl) hI_m_ms
        | succ r ih =>
          intro j best mo t H locs ls QQ hn_m_ms hI_m_ms hH hS hl kk
          have hp7 := h7 (Z.1 1) hms.2.2.1
          refine lv_iload hx hb dX11_most_55 (lv_at hl 0 rfl) ?_
          refine lv_iload_n hx hb dX11_most_57 rfl (lv_at hl 3 rfl) ?_
          refine lv_icmp_ge (tgt := 108) hx hb dX11_most_58 (by decide) (fun c_9 => ?_) (fun c_9 => ?_)
          · exfalso; first | exact nI_ge (by omega) (by omega) c_9 | exact c_9 (nI_le (by omega) (by omega)) | exact nI_nlt (by omega) (by omega) c_9 | exact c_9 (nI_lt (by omega) (by omega))
          refine lv_aload_n hx hb dX11_most_61 rfl (lv_at hl 4 rfl) ?_
          refine lv_iload hx hb dX11_most_62 (lv_at hl 0 rfl) ?_
          refine lv_iload_n hx hb dX11_most_64 rfl (lv_at hl 5 rfl) ?_
          refine hk_cV (L := (.inr (0, 0))) (As := [.int (nI j), .int day]) (rest := []) hx hb hml hl.1 ht hown hK hH hS (c_m_picksBy l D G Z τ t j day hM (hms.of (fun k => hI_m_ms _ _ (by decide))) (by omega)) ymV_X11_picksBy kc_12 hM.k0 tw_952 ⟨rfl, rfl⟩ ⟨Nat.le_of_ble_eq_true rfl, Nat.le_of_ble_eq_true rfl⟩ rfl rfl (Nat.le_of_ble_eq_true rfl) dX11_most_65 ⟨Nat.le_of_ble_eq_true rfl, Nat.le_of_ble_eq_true rfl⟩ (hk_ea (fun H locs hH hS => ?_))
          refine lv_istore (lv' := [(7, .int (F_m_picksBy Z t j day)), (6, .int (nI j)), (5, .int mo), (4, .int best), (3, .int (nI (7 ^ Z.1 1))), (0, .ref (G.1 (.inr (0, 0)))), (1, .int day), (2, .int w)]) hx hb dX11_most_68 hl (by decide) rfl (fun ls hl => ?_)
          refine lv_iload hx hb dX11_most_70 (lv_at hl 0 rfl) ?_
          refine lv_iload hx hb dX11_most_72 (lv_at hl 2 rfl) ?_
          refine lv_icmp_le (tgt := 82) hx hb dX11_most_74 (by decide) (fun c_10 => ?_) (fun c_10 => ?_)
          · refine lv_iload hx hb dX11_most_82 (lv_at hl 3 rfl) ?_
            refine lv_istore (lv' := [(4, .int best), (7, .int (F_m_picksBy Z t j day)), (6, .int (nI j)), (5, .int mo), (3, .int (nI (7 ^ Z.1 1))), (0, .ref (G.1 (.inr (0, 0)))), (1, .int day), (2, .int w)]) hx hb dX11_most_84 hl (by decide) rfl (fun ls hl => ?_)
            refine lv_iload hx hb dX11_most_86 (lv_at hl 1 rfl) ?_
            refine lv_iload hx hb dX11_most_88 (lv_at hl 3 rfl) ?_
            refine lv_icmp_le (tgt := 98) hx hb dX11_most_90 (by decide) (fun c_11 => ?_) (fun c_11 => ?_)
            rotate_left
            · exfalso; first | exact absurd c_11 c_10 | exact absurd c_10 c_11
            refine lv_iload hx hb dX11_most_98 (lv_at hl 3 rfl) ?_
            refine lv_istore (lv' := [(5, .int mo), (4, .int best), (7, .int (F_m_picksBy Z t j day)), (6, .int (nI j)), (3, .int (nI (7 ^ Z.1 1))), (0, .ref (G.1 (.inr (0, 0)))), (1, .int day), (2, .int w)]) hx hb dX11_most_100 hl (by decide) rfl (fun ls hl => ?_)
            refine lv_iinc (v := nI (j + 1)) (lv' := [(6, .int (nI (j + 1))), (5, .int mo), (4, .int best), (7, .int (F_m_picksBy Z t j day)), (3, .int (nI (7 ^ Z.1 1))), (0, .ref (G.1 (.inr (0, 0)))), (1, .int day), (2, .int w)]) hx hb dX11_most_102 hl (k := 3) rfl (nI_1 _) (by decide) rfl (fun ls hl => ?_)
            refine lv_goto (tgt := 55) hx hb dX11_most_105 (by decide) ?_
            have EB_12 : (B_m_ms day Z) j (best, mo, t) = (best, mo, (T_m_picksBy Z t j day)) := by simp only [B_m_ms, if_pos c_10]
            have hI2 : ((∀ q k, q ≠ (1, 36) → (T_m_picksBy Z t j day) q k = σ q k)) := by
              exact fun q k h => by rw [picksBy_o q k h]; exact hI_m_ms q k h
            exact ih (j + 1) best mo (T_m_picksBy Z t j day) _ _ _ QQ (by omega) hI2 hH hS (lv_sub hl [0, 1, 2, 4, 5, 6, 7] rfl) (fun H locs ls hH hS hl hI_m_ms => kk H locs ls (by rw [hk_it_s, EB_12]; exact hH) hS (by rw [hk_it_s, EB_12]; exact hl) (by first | exact hI_m_ms | (rw [hk_it_s, EB_12]; exact hI_m_ms)))
          · refine lv_iload hx hb dX11_most_77 (lv_at hl 1 rfl) ?_
            refine lv_goto (tgt := 84) hx hb dX11_most_79 (by decide) ?_
            refine lv_istore (lv' := [(4, .int (nI j)), (7, .int (F_m_picksBy Z t j day)), (6, .int (nI j)), (5, .int mo), (3, .int (nI (7 ^ Z.1 1))), (0, .ref (G.1 (.inr (0, 0)))), (1, .int day), (2, .int w)]) hx hb dX11_most_84 hl (by decide) rfl (fun ls hl => ?_)
            refine lv_iload hx hb dX11_most_86 (lv_at hl 1 rfl) ?_
            refine lv_iload hx hb dX11_most_88 (lv_at hl 3 rfl) ?_
            refine lv_icmp_le (tgt := 98) hx hb dX11_most_90 (by decide) (fun c_13 => ?_) (fun c_13 => ?_)
            · exfalso; first | exact absurd c_13 c_10 | exact absurd c_10 c_13
            refine lv_iload hx hb dX11_most_93 (lv_at hl 1 rfl) ?_
            refine lv_goto (tgt := 100) hx hb dX11_most_95 (by decide) ?_
            refine lv_istore (lv' := [(5, .int (F_m_picksBy Z t j day)), (4, .int (nI j)), (7, .int (F_m_picksBy Z t j day)), (6, .int (nI j)), (3, .int (nI (7 ^ Z.1 1))), (0, .ref (G.1 (.inr (0, 0)))), (1, .int day), (2, .int w)]) hx hb dX11_most_100 hl (by decide) rfl (fun ls hl => ?_)
            refine lv_iinc (v := nI (j + 1)) (lv' := [(6, .int (nI (j + 1))), (5, .int (F_m_picksBy Z t j day)), (4, .int (nI j)), (7, .int (F_m_picksBy Z t j day)), (3, .int (nI (7 ^ Z.1 1))), (0, .ref (G.1 (.inr (0, 0)))), (1, .int day), (2, .int w)]) hx hb dX11_most_102 hl (k := 3) rfl (nI_1 _) (by decide) rfl (fun ls hl => ?_)
            refine lv_goto (tgt := 55) hx hb dX11_most_105 (by decide) ?_
            have EB_14 : (B_m_ms day Z) j (best, mo, t) = (nI j, F_m_picksBy Z t j day, (T_m_picksBy Z t j day)) := by simp only [B_m_ms, if_neg c_10]
            have hI2 : ((∀ q k, q ≠ (1, 36) → (T_m_picksBy Z t j day) q k = σ q k)) := by
              exact fun q k h => by rw [picksBy_o q k h]; exact hI_m_ms q k h
            exact ih (j + 1) (nI j) (F_m_picksBy Z t j day) (T_m_picksBy Z t j day) _ _ _ QQ (by omega) hI2 hH hS (lv_sub hl [0, 1, 2, 4, 5, 6, 7] rfl) (fun H locs ls hH hS hl hI_m_ms => kk H locs ls (by rw [hk_it_s, EB_14]; exact hH) hS (by rw [hk_it_s, EB_14]; exact hl) (by first | exact hI_m_ms | (rw [hk_it_s, EB_14]; exact hI_m_ms)))
      have hp7 := h7 (Z.1 1) hms.2.2.1
      refine LP_7 (7 ^ Z.1 1 - 1) 1 0 0 σ _ _ _ _ (by omega) (fun _ _ _ => rfl) hH hS (lv_sub hl [0, 1, 2, 3, 4, 5, 6] rfl) (fun H locs ls hH hS hl hI_m_ms => ?_)
      refine lv_iload_n hx hb dX11_most_108 rfl (lv_at hl 6 rfl) ?_
      refine lv_if_ne (tgt := 117) hx hb dX11_most_109 (by decide) (fun c_15 => ?_) (fun c_15 => ?_)
      · refine lv_iload hx hb dX11_most_117 (lv_at hl 2 rfl) ?_
        exact hk_iret hx hb hr hlocks hH hS ⟨(by simp only [F_m_most, if_neg c_1, if_neg c_2, if_neg c_15]), rfl, (by simp only [T_m_most, if_neg c_1, if_neg c_2, if_neg c_15])⟩ dX11_most_119
      · refine lv_iload hx hb dX11_most_112 (lv_at hl 1 rfl) ?_
        refine lv_goto (tgt := 119) hx hb dX11_most_114 (by decide) ?_
        exact hk_iret hx hb hr hlocks hH hS ⟨(by simp only [F_m_most, if_neg c_1, if_neg c_2, if_pos c_15]), rfl, (by simp only [T_m_most, if_neg c_1, if_neg c_2, if_pos c_15])⟩ dX11_most_119
    · refine lv_iconst (v := -1) hx hb dX11_most_19 (by decide) ?_
      exact hk_iret hx hb hr hlocks hH hS ⟨(by simp only [F_m_most, if_neg c_1, if_pos c_2]), rfl, (by simp only [T_m_most, if_neg c_1, if_pos c_2])⟩ dX11_most_20
