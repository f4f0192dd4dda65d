section HKCAST
variable {p : Program} {l : Launch} {e : Env} {R : Room} {s : State} {m : MethodId} {args : Array Value} {below : List Frame} {meth : Method} {c : Code} {H : Heap} {locs : List Loc} {cells slots : Nat} {Q : State → Prop}
variable {cc : ByteArray} {pc : Nat} {ls : Array Slot} {rest : List Value} {D : hk_D} {G : hk_G} {iv : hk_V} {L : hk_L}
theorem hk_cast (hexec : p.tables.exec = Jvm.exec) (hb : c.code = cc) {own C : String} {T : u_T} {N ci index : Nat} {ty : Nat → FieldType} (ht : ∀ w ∈ lw_tg, w.before args s = true) (hown : s.vm.findClass own = some m.cls) (hK : hk_K D s) (hH : hk_H D G iv H) (hc : hk_cls ci C T N ty) (hkd : G.2.1 L = some (.inl ci)) (hlink : Cond.classLink own index C ∈ lw_tg) (hdg : decode cc pc = .ok (.checkcast index, 3))
    (k : W p l e R s m args below meth c H locs cells slots Q (F0 m (pc + 3) ls (.ref (G.1 L) :: rest))) : W p l e R s m args below meth c H locs cells slots Q (F0 m pc ls (.ref (G.1 L) :: rest)) :=
  va_castS hexec hb hown (ht _ hlink) (hK.1.1 ci _ hc.1).2 (hk_recv hK hH hc.1 hkd) hdg k
end HKCAST
def hk_in (x a b : Int32) : Int32 := if x < a then 0 else if b < x then 0 else 1
theorem hk_in_01 (x a b : Int32) : hk_in x a b = 0 ∨ hk_in x a b = 1 := by
  unfold hk_in
  split
  · exact Or.inl rfl
  · split
    · exact Or.inl rfl
    · exact Or.inr rfl
theorem hk_in_ne {x a b : Int32} (h : ¬ hk_in x a b = 0) : ¬ x < a ∧ ¬ b < x := by
  unfold hk_in at h
  refine ⟨fun q => h (if_pos q), fun q => h ?_⟩
  split
  · rfl
  · rfl
theorem hk_in_ix {x : Int32} {n : Nat} {b : Int32} (hb : b = nI n) (hn : n < 2 ^ 31) (h : ¬ hk_in x 0 b = 0) : x.toNatClampNeg ≤ n ∧ x = nI x.toNatClampNeg := by
  obtain ⟨h1, h2⟩ := hk_in_ne h
  subst hb
  obtain ⟨j, hj, rfl⟩ := nI_of h1
  rw [nI_clamp hj]
  refine ⟨?_, rfl⟩
  rcases Nat.lt_or_ge n j with q | q
  · exact absurd (nI_lt q hj) h2
  · exact q
theorem hk_vin {x : Int32} {n : Nat} (h0 : ¬ x < 0) (h1 : ¬ nI n ≤ x) : vp_in x n := by
  obtain ⟨j, hj, rfl⟩ := nI_of h0
  rw [vp_in, nI_clamp hj]
  intro h
  rcases h with h | h
  · exact h0 h
  · exact h1 (nI_le h hj)
def hk_wh {α : Type} (f : α → Option α) : Nat → α → α
  | 0, s => s
  | n + 1, s => match f s with
    | none => s
    | some s2 => hk_wh f n s2
theorem hk_wh_n {α : Type} {f : α → Option α} {n : Nat} {s : α} (h : f s = none) : hk_wh f (n + 1) s = s := by simp only [hk_wh, h]
theorem hk_wh_s {α : Type} {f : α → Option α} {n : Nat} {s s2 : α} (h : f s = some s2) : hk_wh f (n + 1) s = hk_wh f n s2 := by simp only [hk_wh, h]
set_option maxHeartbeats 4000000 in
set_option maxRecDepth 100000 in
theorem c_within (l : Launch) (D : hk_D) (G : hk_G) (τ σ : hk_v) (x : Int32) (a : Int32) (b : Int32)   : Met l yX10_within (hk_ws yX10_within cX10_within 3 (some FieldType.boolean)) ({ frames := 0, cells := 0, slots := 0, locals := 0 }) (hk_P D G (hk_cm τ σ) [.int x, .int a, .int b]) (hk_Q D (hk_e G (some (.int (hk_in x a b))) (hk_cm τ σ))) 0 0 (hk_A D) := by
  refine hk_met (by decide +kernel) (Nat.le_of_ble_eq_true rfl) (fun p e s m below meth c hx hb hr hml hlocks ht hown hin hK hH hS ls hl => ?_)
  have hl : lv_has ls 3 [(0, .int x), (1, .int a), (2, .int b)] := hl
  refine lv_iload_n hx hb dX10_within_0 rfl (lv_at hl 0 rfl) ?_
  refine lv_iload_n hx hb dX10_within_1 rfl (lv_at hl 1 rfl) ?_
  refine lv_icmp_lt (tgt := 14) hx hb dX10_within_2 (by decide) (fun c_1 => ?_) (fun c_1 => ?_)
  · refine lv_iconst (v := 0) hx hb dX10_within_14 (by decide) ?_
    exact hk_zret hx hb hr hlocks (by decide) hH hS ⟨(by simp only [hk_in, if_pos c_1]), rfl, rfl⟩ dX10_within_15
  · refine lv_iload_n hx hb dX10_within_5 rfl (lv_at hl 0 rfl) ?_
    refine lv_iload_n hx hb dX10_within_6 rfl (lv_at hl 2 rfl) ?_
    refine lv_icmp_gt (tgt := 14) hx hb dX10_within_7 (by decide) (fun c_2 => ?_) (fun c_2 => ?_)
    · refine lv_iconst (v := 0) hx hb dX10_within_14 (by decide) ?_
      exact hk_zret hx hb hr hlocks (by decide) hH hS ⟨(by simp only [hk_in, if_neg c_1, if_pos c_2]), rfl, rfl⟩ dX10_within_15
    · refine lv_iconst (v := 1) hx hb dX10_within_10 (by decide) ?_
      refine lv_goto (tgt := 15) hx hb dX10_within_11 (by decide) ?_
      exact hk_zret hx hb hr hlocks (by decide) hH hS ⟨(by simp only [hk_in, if_neg c_1, if_neg c_2]), rfl, rfl⟩ dX10_within_15
set_option maxHeartbeats 4000000 in
set_option maxRecDepth 100000 in
theorem c_isIn (l : Launch) (D : hk_D) (G : hk_G) (τ σ : hk_v) (x : Int32) (a : Int32) (b : Int32)   : Met l yX11_isIn (hk_ws yX11_isIn cX11_isIn 3 (some FieldType.boolean)) ({ frames := 0, cells := 0, slots := 0, locals := 0 }) (hk_P D G (hk_cm τ σ) [.int x, .int a, .int b]) (hk_Q D (hk_e G (some (.int (hk_in x a b))) (hk_cm τ σ))) 0 0 (hk_A D) := by
  refine hk_met (by decide +kernel) (Nat.le_of_ble_eq_true rfl) (fun p e s m below meth c hx hb hr hml hlocks ht hown hin hK hH hS ls hl => ?_)
  have hl : lv_has ls 3 [(0, .int x), (1, .int a), (2, .int b)] := hl
  refine lv_iload_n hx hb dX11_isIn_0 rfl (lv_at hl 0 rfl) ?_
  refine lv_iload_n hx hb dX11_isIn_1 rfl (lv_at hl 1 rfl) ?_
  refine lv_icmp_lt (tgt := 14) hx hb dX11_isIn_2 (by decide) (fun c_1 => ?_) (fun c_1 => ?_)
  · refine lv_iconst (v := 0) hx hb dX11_isIn_14 (by decide) ?_
    exact hk_zret hx hb hr hlocks (by decide) hH hS ⟨(by simp only [hk_in, if_pos c_1]), rfl, rfl⟩ dX11_isIn_15
  · refine lv_iload_n hx hb dX11_isIn_5 rfl (lv_at hl 0 rfl) ?_
    refine lv_iload_n hx hb dX11_isIn_6 rfl (lv_at hl 2 rfl) ?_
    refine lv_icmp_gt (tgt := 14) hx hb dX11_isIn_7 (by decide) (fun c_2 => ?_) (fun c_2 => ?_)
    · refine lv_iconst (v := 0) hx hb dX11_isIn_14 (by decide) ?_
      exact hk_zret hx hb hr hlocks (by decide) hH hS ⟨(by simp only [hk_in, if_neg c_1, if_pos c_2]), rfl, rfl⟩ dX11_isIn_15
    · refine lv_iconst (v := 1) hx hb dX11_isIn_10 (by decide) ?_
      refine lv_goto (tgt := 15) hx hb dX11_isIn_11 (by decide) ?_
      exact hk_zret hx hb hr hlocks (by decide) hH hS ⟨(by simp only [hk_in, if_neg c_1, if_neg c_2]), rfl, rfl⟩ dX11_isIn_15
theorem ymS_X10_within : hk_mS yX10_within cX10_within 3 (some FieldType.boolean) 3 := ⟨tw_208, tw_207, tw_34, by decide, by decide, by decide +kernel⟩
def F_isRipe (τ : hk_v) (i : Nat) (day : Int32) : Int32 := hk_in day (τ (9, i) 0) (τ (9, i) 1)
set_option maxHeartbeats 4000000 in
set_option maxRecDepth 100000 in
theorem c_isRipe (l : Launch) (D : hk_D) (G : hk_G) (Z : hk_Z) (τ σ : hk_v) (i : Nat) (day : Int32) (hG : hk_Y D G Z) (hi : i < Z.1 0) : Met l yX4_isRipe (hk_ws yX4_isRipe cX4_isRipe 2 (some FieldType.boolean)) ({ frames := 1, cells := 0, slots := 0, locals := 22 }) (hk_P D G (hk_cm τ σ) [.ref (G.1 (.inl (9, i))), .int day]) (hk_Q D (hk_e G (some (.int (F_isRipe τ i day))) (hk_cm τ σ))) 0 0 (hk_A D) := by
  refine hk_met (by decide +kernel) (Nat.le_of_ble_eq_true rfl) (fun p e s m below meth c hx hb hr hml hlocks ht hown hin hK hH hS ls hl => ?_)
  have hl : lv_has ls 2 [(0, .ref (G.1 (.inl (9, i)))), (1, .int day)] := hl
  refine lv_iload_n hx hb dX4_isRipe_0 rfl (lv_at hl 1 rfl) ?_
  refine lv_aload_n hx hb dX4_isRipe_1 rfl (lv_at hl 0 rfl) ?_
  refine hk_geti (L := (.inl (9, i))) (v := τ (9, i) 0) hx hb ht hown hK hH kc_5 (hG.k9 i hi) 0 (by decide) rfl tw_219 rfl rfl dX4_isRipe_2 ?_
  refine lv_aload_n hx hb dX4_isRipe_5 rfl (lv_at hl 0 rfl) ?_
  refine hk_geti (L := (.inl (9, i))) (v := τ (9, i) 1) hx hb ht hown hK hH kc_5 (hG.k9 i hi) 1 (by decide) rfl tw_220 rfl rfl dX4_isRipe_6 ?_
  refine hk_cSN (As := [.int day, .int (τ (9, i) 0), .int (τ (9, i) 1)]) (rest := []) hx hb hml hl.1 ht hown hK hH hS (c_within l D G τ σ day (τ (9, i) 0) (τ (9, i) 1)) ymS_X10_within (List.mem_filter.mpr ⟨tw_490, rfl⟩) ⟨rfl, rfl⟩ ⟨Nat.le_of_ble_eq_true rfl, Nat.le_of_ble_eq_true rfl⟩ rfl rfl (Nat.le_of_ble_eq_true rfl) dX4_isRipe_9 ⟨Nat.le_of_ble_eq_true rfl, Nat.le_of_ble_eq_true rfl⟩ (hk_ea (fun H locs hH hS => ?_))
  exact hk_zret hx hb hr hlocks (hk_in_01 _ _ _) hH hS ⟨(by simp only [F_isRipe]), rfl, rfl⟩ dX4_isRipe_12
def F_yields (τ : hk_v) (i : Nat) (rate : Int32) : Int32 := if (τ (9, i) 2) < rate then (τ (9, i) 2) else rate
def T_yields (τ : hk_v) (i : Nat) (rate : Int32) : hk_v := (hk_u (hk_u τ (9, i) 2 ((τ (9, i) 2) - (if (τ (9, i) 2) < rate then (τ (9, i) 2) else rate))) (9, i) 3 ((τ (9, i) 3) + (if (τ (9, i) 2) < rate then (τ (9, i) 2) else rate)))
set_option maxHeartbeats 4000000 in
set_option maxRecDepth 100000 in
theorem c_yields (l : Launch) (D : hk_D) (G : hk_G) (Z : hk_Z) (τ σ : hk_v) (i : Nat) (rate : Int32) (hG : hk_Y D G Z) (hi : i < Z.1 0) : Met l yX4_yields (hk_ws yX4_yields cX4_yields 3 (some FieldType.int)) ({ frames := 1, cells := 0, slots := 0, locals := 13 }) (hk_P D G (hk_cm τ σ) [.ref (G.1 (.inl (9, i))), .int rate]) (hk_Q D (hk_e G (some (.int (F_yields τ i rate))) (hk_cm (T_yields τ i rate) σ))) 0 0 (hk_A D) := by
  refine hk_met (by decide +kernel) (Nat.le_of_ble_eq_true rfl) (fun p e s m below meth c hx hb hr hml hlocks ht hown hin hK hH hS ls hl => ?_)
  have hl : lv_has ls 3 [(0, .ref (G.1 (.inl (9, i)))), (1, .int rate)] := hl
  refine lv_iload_n hx hb dX4_yields_0 rfl (lv_at hl 1 rfl) ?_
  refine lv_aload_n hx hb dX4_yields_1 rfl (lv_at hl 0 rfl) ?_
  refine hk_geti (L := (.inl (9, i))) (v := τ (9, i) 2) hx hb ht hown hK hH kc_5 (hG.k9 i hi) 2 (by decide) rfl tw_221 rfl rfl dX4_yields_2 ?_
  refine va_mmin hx hb (hml.trans hl.1.symm) hown (ht _ tw_495) (ht _ tw_293) (ht _ tw_45) (ht _ tw_294) (Nat.le_of_ble_eq_true rfl) (Nat.le_of_ble_eq_true rfl) (Nat.zero_le _) (Nat.zero_le _) dX4_yields_5 ?_
  refine lv_istore_n (lv' := [(2, .int (if (τ (9, i) 2) < rate then (τ (9, i) 2) else rate)), (0, .ref (G.1 (.inl (9, i)))), (1, .int rate)]) hx hb dX4_yields_8 rfl hl (by decide) rfl (fun ls hl => ?_)
  refine lv_aload_n hx hb dX4_yields_9 rfl (lv_at hl 1 rfl) ?_
  refine lv_dup hx hb dX4_yields_10 rfl ?_
  refine hk_geti (L := (.inl (9, i))) (v := τ (9, i) 2) hx hb ht hown hK hH kc_5 (hG.k9 i hi) 2 (by decide) rfl tw_221 rfl rfl dX4_yields_11 ?_
  refine lv_iload_n hx hb dX4_yields_14 rfl (lv_at hl 0 rfl) ?_
  refine lv_isub hx hb dX4_yields_15 ?_
  refine hk_puti (L := (.inl (9, i))) hx hb ht hown hK hH hS kc_5 (hG.k9 i hi) 2 (by decide) rfl tw_221 rfl (Or.inl rfl) rfl dX4_yields_16 (fun H locs hH hS => ?_)
  rw [hk_up_l] at hH
  refine lv_aload_n hx hb dX4_yields_19 rfl (lv_at hl 1 rfl) ?_
  refine lv_dup hx hb dX4_yields_20 rfl ?_
  refine hk_geti (L := (.inl (9, i))) (v := τ (9, i) 3) hx hb ht hown hK hH kc_5 (hG.k9 i hi) 3 (by decide) rfl tw_223 rfl (by simp [hk_cm, hk_u_ap]) dX4_yields_21 ?_
  refine lv_iload_n hx hb dX4_yields_24 rfl (lv_at hl 0 rfl) ?_
  refine lv_iadd hx hb dX4_yields_25 ?_
  refine hk_puti (L := (.inl (9, i))) hx hb ht hown hK hH hS kc_5 (hG.k9 i hi) 3 (by decide) rfl tw_223 rfl (Or.inl rfl) rfl dX4_yields_26 (fun H locs hH hS => ?_)
  rw [hk_up_l] at hH
  refine lv_iload_n hx hb dX4_yields_29 rfl (lv_at hl 0 rfl) ?_
  exact hk_iret hx hb hr hlocks hH hS ⟨(by simp only [F_yields]), rfl, (by simp only [T_yields])⟩ dX4_yields_30
def T_enter (τ : hk_v) (i : Nat) (b : Int32) (paid : Int32) : hk_v := (hk_u (hk_u (hk_u τ (10, i) 3 ((τ (10, i) 3) + b)) (10, i) 4 ((τ (10, i) 4) + ((b * 100) / (τ (10, i) 1)))) (10, i) 5 ((τ (10, i) 5) + (((b * 100) / (τ (10, i) 1)) * paid)))
set_option maxHeartbeats 4000000 in
set_option maxRecDepth 100000 in
theorem c_enter (l : Launch) (D : hk_D) (G : hk_G) (Z : hk_Z) (τ σ : hk_v) (i : Nat) (b : Int32) (paid : Int32) (hG : hk_Y D G Z) (hi : i < Z.1 1) (hm : ¬ τ (10, i) 1 = 0) : Met l yX3_enter (hk_ws yX3_enter cX3_enter 4 none) ({ frames := 0, cells := 0, slots := 0, locals := 0 }) (hk_P D G (hk_cm τ σ) [.ref (G.1 (.inl (10, i))), .int b, .int paid]) (hk_Q D (hk_e G (none) (hk_cm (T_enter τ i b paid) σ))) 0 0 (hk_A D) := by
  refine hk_met (by decide +kernel) (Nat.le_of_ble_eq_true rfl) (fun p e s m below meth c hx hb hr hml hlocks ht hown hin hK hH hS ls hl => ?_)
  have hl : lv_has ls 4 [(0, .ref (G.1 (.inl (10, i)))), (1, .int b), (2, .int paid)] := hl
  refine lv_iload_n hx hb dX3_enter_0 rfl (lv_at hl 1 rfl) ?_
  refine lv_bipush (v := 100) hx hb dX3_enter_1 (by decide) ?_
  refine lv_imul hx hb dX3_enter_3 ?_
  refine lv_aload_n hx hb dX3_enter_4 rfl (lv_at hl 0 rfl) ?_
  refine hk_geti (L := (.inl (10, i))) (v := τ (10, i) 1) hx hb ht hown hK hH kc_4 (hG.k10 i hi) 1 (by decide) rfl tw_313 rfl rfl dX3_enter_5 ?_
  refine lv_idiv hx hb dX3_enter_8 (by assumption) ?_
  refine lv_istore_n (lv' := [(3, .int ((b * 100) / (τ (10, i) 1))), (0, .ref (G.1 (.inl (10, i)))), (1, .int b), (2, .int paid)]) hx hb dX3_enter_9 rfl hl (by decide) rfl (fun ls hl => ?_)
  refine lv_aload_n hx hb dX3_enter_10 rfl (lv_at hl 1 rfl) ?_
  refine lv_dup hx hb dX3_enter_11 rfl ?_
  refine hk_geti (L := (.inl (10, i))) (v := τ (10, i) 3) hx hb ht hown hK hH kc_4 (hG.k10 i hi) 3 (by decide) rfl tw_316 rfl rfl dX3_enter_12 ?_
  refine lv_iload_n hx hb dX3_enter_15 rfl (lv_at hl 2 rfl) ?_
  refine lv_iadd hx hb dX3_enter_16 ?_
  refine hk_puti (L := (.inl (10, i))) hx hb ht hown hK hH hS kc_4 (hG.k10 i hi) 3 (by decide) rfl tw_316 rfl (Or.inl rfl) rfl dX3_enter_17 (fun H locs hH hS => ?_)
  rw [hk_up_l] at hH
  refine lv_aload_n hx hb dX3_enter_20 rfl (lv_at hl 1 rfl) ?_
  refine lv_dup hx hb dX3_enter_21 rfl ?_
  refine hk_geti (L := (.inl (10, i))) (v := τ (10, i) 4) hx hb ht hown hK hH kc_4 (hG.k10 i hi) 4 (by decide) rfl tw_318 rfl (by simp [hk_cm, hk_u_ap]) dX3_enter_22 ?_
  refine lv_iload_n hx hb dX3_enter_25 rfl (lv_at hl 0 rfl) ?_
  refine lv_iadd hx hb dX3_enter_26 ?_
  refine hk_puti (L := (.inl (10, i))) hx hb ht hown hK hH hS kc_4 (hG.k10 i hi) 4 (by decide) rfl tw_318 rfl (Or.inl rfl) rfl dX3_enter_27 (fun H locs hH hS => ?_)
  rw [hk_up_l] at hH
  refine lv_aload_n hx hb dX3_enter_30 rfl (lv_at hl 1 rfl) ?_
  refine lv_dup hx hb dX3_enter_31 rfl ?_
  refine hk_geti (L := (.inl (10, i))) (v := τ (10, i) 5) hx hb ht hown hK hH kc_4 (hG.k10 i hi) 5 (by decide) rfl tw_320 rfl (by simp [hk_cm, hk_u_ap]) dX3_enter_32 ?_
  refine lv_iload_n hx hb dX3_enter_35 rfl (lv_at hl 0 rfl) ?_
  refine lv_iload_n hx hb dX3_enter_36 rfl (lv_at hl 3 rfl) ?_
  refine lv_imul hx hb dX3_enter_37 ?_
  refine lv_iadd hx hb dX3_enter_38 ?_
  refine hk_puti (L := (.inl (10, i))) hx hb ht hown hK hH hS kc_4 (hG.k10 i hi) 5 (by decide) rfl tw_320 rfl (Or.inl rfl) rfl dX3_enter_39 (fun H locs hH hS => ?_)
  rw [hk_up_l] at hH
  exact hk_vret hx hb hr hlocks hH hS ⟨rfl, rfl, (by simp only [T_enter])⟩ dX3_enter_42
def F_isEmpty (τ : hk_v) (i : Nat) : Int32 := (if (τ (11, i) 5) = 0 then 1 else 0)
set_option maxHeartbeats 4000000 in
set_option maxRecDepth 100000 in
theorem c_isEmpty (l : Launch) (D : hk_D) (G : hk_G) (Z : hk_Z) (τ σ : hk_v) (i : Nat) (hG : hk_Y D G Z) (hi : i < Z.1 2) : Met l yX6_isEmpty (hk_ws yX6_isEmpty cX6_isEmpty 1 (some FieldType.boolean)) ({ frames := 0, cells := 0, slots := 0, locals := 0 }) (hk_P D G (hk_cm τ σ) [.ref (G.1 (.inl (11, i)))]) (hk_Q D (hk_e G (some (.int (F_isEmpty τ i))) (hk_cm τ σ))) 0 0 (hk_A D) := by
  refine hk_met (by decide +kernel) (Nat.le_of_ble_eq_true rfl) (fun p e s m below meth c hx hb hr hml hlocks ht hown hin hK hH hS ls hl => ?_)
  have hl : lv_has ls 1 [(0, .ref (G.1 (.inl (11, i))))] := hl
  refine lv_aload_n hx hb dX6_isEmpty_0 rfl (lv_at hl 0 rfl) ?_
  refine hk_geti (L := (.inl (11, i))) (v := τ (11, i) 5) hx hb ht hown hK hH kc_7 (hG.k11 i hi) 5 (by decide) rfl tw_404 rfl rfl dX6_isEmpty_1 ?_
  refine lv_if_ne (tgt := 11) hx hb dX6_isEmpty_4 (by decide) (fun c_1 => ?_) (fun c_1 => ?_)
  · refine lv_iconst (v := 0) hx hb dX6_isEmpty_11 (by decide) ?_
    exact hk_zret hx hb hr hlocks (by decide) hH hS ⟨(by simp only [F_isEmpty, if_neg c_1]), rfl, rfl⟩ dX6_isEmpty_12
  · refine lv_iconst (v := 1) hx hb dX6_isEmpty_7 (by decide) ?_
    refine lv_goto (tgt := 12) hx hb dX6_isEmpty_8 (by decide) ?_
    exact hk_zret hx hb hr hlocks (by decide) hH hS ⟨(by simp only [F_isEmpty, if_pos c_1]), rfl, rfl⟩ dX6_isEmpty_12
def F_free (τ : hk_v) (i : Nat) : Int32 := (τ (11, i) 1) - (τ (11, i) 5)
set_option maxHeartbeats 4000000 in
set_option maxRecDepth 100000 in
theorem c_free (l : Launch) (D : hk_D) (G : hk_G) (Z : hk_Z) (τ σ : hk_v) (i : Nat) (hG : hk_Y D G Z) (hi : i < Z.1 2) : Met l yX6_free (hk_ws yX6_free cX6_free 1 (some FieldType.int)) ({ frames := 0, cells := 0, slots := 0, locals := 0 }) (hk_P D G (hk_cm τ σ) [.ref (G.1 (.inl (11, i)))]) (hk_Q D (hk_e G (some (.int (F_free τ i))) (hk_cm τ σ))) 0 0 (hk_A D) := by
  refine hk_met (by decide +kernel) (Nat.le_of_ble_eq_true rfl) (fun p e s m below meth c hx hb hr hml hlocks ht hown hin hK hH hS ls hl => ?_)
  have hl : lv_has ls 1 [(0, .ref (G.1 (.inl (11, i))))] := hl
  refine lv_aload_n hx hb dX6_free_0 rfl (lv_at hl 0 rfl) ?_
  refine hk_geti (L := (.inl (11, i))) (v := τ (11, i) 1) hx hb ht hown hK hH kc_7 (hG.k11 i hi) 1 (by decide) rfl tw_397 rfl rfl dX6_free_1 ?_
  refine lv_aload_n hx hb dX6_free_4 rfl (lv_at hl 0 rfl) ?_
  refine hk_geti (L := (.inl (11, i))) (v := τ (11, i) 5) hx hb ht hown hK hH kc_7 (hG.k11 i hi) 5 (by decide) rfl tw_404 rfl rfl dX6_free_5 ?_
  refine lv_isub hx hb dX6_free_8 ?_
  exact hk_iret hx hb hr hlocks hH hS ⟨(by simp only [F_free]), rfl, rfl⟩ dX6_free_9
def T_clear (τ : hk_v) (i : Nat) : hk_v := (hk_u (hk_u (hk_u τ (11, i) 4 0) (11, i) 5 0) (11, i) 6 0)
set_option maxHeartbeats 4000000 in
set_option maxRecDepth 100000 in
theorem c_clear (l : Launch) (D : hk_D) (G : hk_G) (Z : hk_Z) (τ σ : hk_v) (i : Nat) (hG : hk_Y D G Z) (hi : i < Z.1 2) : Met l yX6_clear (hk_ws yX6_clear cX6_clear 1 none) ({ frames := 0, cells := 0, slots := 0, locals := 0 }) (hk_P D G (hk_cm τ σ) [.ref (G.1 (.inl (11, i)))]) (hk_Q D (hk_e G (none) (hk_cm (T_clear τ i) σ))) 0 0 (hk_A D) := by
  refine hk_met (by decide +kernel) (Nat.le_of_ble_eq_true rfl) (fun p e s m below meth c hx hb hr hml hlocks ht hown hin hK hH hS ls hl => ?_)
  have hl : lv_has ls 1 [(0, .ref (G.1 (.inl (11, i))))] := hl
  refine lv_aload_n hx hb dX6_clear_0 rfl (lv_at hl 0 rfl) ?_
  refine lv_iconst (v := 0) hx hb dX6_clear_1 (by decide) ?_
  refine hk_puti (L := (.inl (11, i))) hx hb ht hown hK hH hS kc_7 (hG.k11 i hi) 4 (by decide) rfl tw_402 rfl (Or.inl rfl) rfl dX6_clear_2 (fun H locs hH hS => ?_)
  rw [hk_up_l] at hH
  refine lv_aload_n hx hb dX6_clear_5 rfl (lv_at hl 0 rfl) ?_
  refine lv_iconst (v := 0) hx hb dX6_clear_6 (by decide) ?_
  refine hk_puti (L := (.inl (11, i))) hx hb ht hown hK hH hS kc_7 (hG.k11 i hi) 5 (by decide) rfl tw_404 rfl (Or.inl rfl) rfl dX6_clear_7 (fun H locs hH hS => ?_)
  rw [hk_up_l] at hH
  refine lv_aload_n hx hb dX6_clear_10 rfl (lv_at hl 0 rfl) ?_
  refine lv_iconst (v := 0) hx hb dX6_clear_11 (by decide) ?_
  refine hk_puti (L := (.inl (11, i))) hx hb ht hown hK hH hS kc_7 (hG.k11 i hi) 6 (by decide) rfl tw_406 rfl (Or.inl rfl) rfl dX6_clear_12 (fun H locs hH hS => ?_)
  rw [hk_up_l] at hH
  exact hk_vret hx hb hr hlocks hH hS ⟨rfl, rfl, (by simp only [T_clear])⟩ dX6_clear_15
def T_take (Z : hk_Z) (τ : hk_v) (i : Nat) (g : Int32) (b : Int32) : hk_v := (if b ≤ 0 then τ else (if (τ (11, i) 4) < (nI (Z.2.2 i)) then (hk_u (hk_u (hk_u (hk_u τ (13, i) ((τ (11, i) 4).toNatClampNeg) g) (14, i) ((τ (11, i) 4).toNatClampNeg) b) (11, i) 4 ((τ (11, i) 4) + 1)) (11, i) 5 ((τ (11, i) 5) + b)) else τ))
set_option maxHeartbeats 4000000 in
set_option maxRecDepth 100000 in
theorem c_take (l : Launch) (D : hk_D) (G : hk_G) (Z : hk_Z) (τ σ : hk_v) (i : Nat) (g : Int32) (b : Int32) (hG : hk_Y D G Z) (hi : i < Z.1 2) (h0 : ¬ τ (11, i) 4 < 0) : Met l yX6_take (hk_ws yX6_take cX6_take 3 none) ({ frames := 0, cells := 0, slots := 0, locals := 0 }) (hk_P D G (hk_cm τ σ) [.ref (G.1 (.inl (11, i))), .int g, .int b]) (hk_Q D (hk_e G (none) (hk_cm (T_take Z τ i g b) σ))) 0 0 (hk_A D) := by
  refine hk_met (by decide +kernel) (Nat.le_of_ble_eq_true rfl) (fun p e s m below meth c hx hb hr hml hlocks ht hown hin hK hH hS ls hl => ?_)
  have hl : lv_has ls 3 [(0, .ref (G.1 (.inl (11, i)))), (1, .int g), (2, .int b)] := hl
  refine lv_iload_n hx hb dX6_take_0 rfl (lv_at hl 2 rfl) ?_
  refine lv_if_le (tgt := 16) hx hb dX6_take_1 (by decide) (fun c_1 => ?_) (fun c_1 => ?_)
  · exact hk_vret hx hb hr hlocks hH hS ⟨rfl, rfl, (by simp only [T_take, if_pos c_1])⟩ dX6_take_16
  · refine lv_aload_n hx hb dX6_take_4 rfl (lv_at hl 0 rfl) ?_
    refine hk_geti (L := (.inl (11, i))) (v := τ (11, i) 4) hx hb ht hown hK hH kc_7 (hG.k11 i hi) 4 (by decide) rfl tw_402 rfl rfl dX6_take_5 ?_
    refine lv_aload_n hx hb dX6_take_8 rfl (lv_at hl 0 rfl) ?_
    refine hk_getr (L := (.inl (11, i))) (v := .ref (G.1 (.inl (13, i)))) hx hb ht hown hK hH kc_7 (hG.k11 i hi) 2 (by decide) rfl tw_398 rfl (hG.r11_2 i hi) dX6_take_9 ?_
    refine hk_ilen (L := (.inl (13, i))) (v := nI (Z.2.2 i)) hx hb hK hH (hG.k13 i hi) rfl dX6_take_12 ?_
    refine lv_icmp_lt (tgt := 17) hx hb dX6_take_13 (by decide) (fun c_2 => ?_) (fun c_2 => ?_)
    · refine lv_aload_n hx hb dX6_take_17 rfl (lv_at hl 0 rfl) ?_
      refine hk_getr (L := (.inl (11, i))) (v := .ref (G.1 (.inl (13, i)))) hx hb ht hown hK hH kc_7 (hG.k11 i hi) 2 (by decide) rfl tw_398 rfl (hG.r11_2 i hi) dX6_take_18 ?_
      refine lv_aload_n hx hb dX6_take_21 rfl (lv_at hl 0 rfl) ?_
      refine hk_geti (L := (.inl (11, i))) (v := τ (11, i) 4) hx hb ht hown hK hH kc_7 (hG.k11 i hi) 4 (by decide) rfl tw_402 rfl rfl dX6_take_22 ?_
      refine lv_iload_n hx hb dX6_take_25 rfl (lv_at hl 1 rfl) ?_
      refine hk_ist (L := (.inl (13, i))) hx hb hK hH hS (hG.k13 i hi) (hk_vin h0 (Int32.not_le.mpr c_2)) dX6_take_26 (fun H locs hH hS => ?_)
      rw [hk_up_l] at hH
      refine lv_aload_n hx hb dX6_take_27 rfl (lv_at hl 0 rfl) ?_
      refine hk_getr (L := (.inl (11, i))) (v := .ref (G.1 (.inl (14, i)))) hx hb ht hown hK hH kc_7 (hG.k11 i hi) 3 (by decide) rfl tw_400 rfl (hG.r11_3 i hi) dX6_take_28 ?_
      refine lv_aload_n hx hb dX6_take_31 rfl (lv_at hl 0 rfl) ?_
      refine hk_geti (L := (.inl (11, i))) (v := τ (11, i) 4) hx hb ht hown hK hH kc_7 (hG.k11 i hi) 4 (by decide) rfl tw_402 rfl (by simp [hk_cm, hk_u_ap]) dX6_take_32 ?_
      refine lv_iload_n hx hb dX6_take_35 rfl (lv_at hl 2 rfl) ?_
      refine hk_ist (L := (.inl (14, i))) hx hb hK hH hS (hG.k14 i hi) (hk_vin h0 (Int32.not_le.mpr c_2)) dX6_take_36 (fun H locs hH hS => ?_)
      rw [hk_up_l] at hH
      refine lv_aload_n hx hb dX6_take_37 rfl (lv_at hl 0 rfl) ?_
      refine lv_dup hx hb dX6_take_38 rfl ?_
      refine hk_geti (L := (.inl (11, i))) (v := τ (11, i) 4) hx hb ht hown hK hH kc_7 (hG.k11 i hi) 4 (by decide) rfl tw_402 rfl (by simp [hk_cm, hk_u_ap]) dX6_take_39 ?_
      refine lv_iconst (v := 1) hx hb dX6_take_42 (by decide) ?_
      refine lv_iadd hx hb dX6_take_43 ?_
      refine hk_puti (L := (.inl (11, i))) hx hb ht hown hK hH hS kc_7 (hG.k11 i hi) 4 (by decide) rfl tw_402 rfl (Or.inl rfl) rfl dX6_take_44 (fun H locs hH hS => ?_)
      rw [hk_up_l] at hH
      refine lv_aload_n hx hb dX6_take_47 rfl (lv_at hl 0 rfl) ?_
      refine lv_dup hx hb dX6_take_48 rfl ?_
      refine hk_geti (L := (.inl (11, i))) (v := τ (11, i) 5) hx hb ht hown hK hH kc_7 (hG.k11 i hi) 5 (by decide) rfl tw_404 rfl (by simp [hk_cm, hk_u_ap]) dX6_take_49 ?_
      refine lv_iload_n hx hb dX6_take_52 rfl (lv_at hl 2 rfl) ?_
      refine lv_iadd hx hb dX6_take_53 ?_
      refine hk_puti (L := (.inl (11, i))) hx hb ht hown hK hH hS kc_7 (hG.k11 i hi) 5 (by decide) rfl tw_404 rfl (Or.inl rfl) rfl dX6_take_54 (fun H locs hH hS => ?_)
      rw [hk_up_l] at hH
      exact hk_vret hx hb hr hlocks hH hS ⟨rfl, rfl, (by simp only [T_take, if_neg c_1, if_pos c_2])⟩ dX6_take_57
    · exact hk_vret hx hb hr hlocks hH hS ⟨rfl, rfl, (by simp only [T_take, if_neg c_1, if_neg c_2])⟩ dX6_take_16
def B_ofGarden (i : Nat) (g : Int32) (τ : hk_v) (j : Nat) (sum : Int32) : Int32 := (if (τ (13, i) j) = g then sum + (τ (14, i) j) else sum)
def F_ofGarden (τ : hk_v) (i : Nat) (n : Nat) (g : Int32) : Int32 := (hk_it (B_ofGarden i g τ) n 0 0)
set_option maxHeartbeats 4000000 in
set_option maxRecDepth 100000 in
theorem c_ofGarden (l : Launch) (D : hk_D) (G : hk_G) (Z : hk_Z) (τ σ : hk_v) (i : Nat) (n : Nat) (g : Int32) (hG : hk_Y D G Z) (hi : i < Z.1 2) (hn : τ (11, i) 4 = nI n) (hr : n ≤ Z.2.2 i) (hz : Z.2.2 i < 2 ^ 31) : Met l yX6_ofGarden (hk_ws yX6_ofGarden cX6_ofGarden 4 (some FieldType.int)) ({ frames := 0, cells := 0, slots := 0, locals := 0 }) (hk_P D G (hk_cm τ σ) [.ref (G.1 (.inl (11, i))), .int g]) (hk_Q D (hk_e G (some (.int (F_ofGarden τ i n g))) (hk_cm τ σ))) 0 0 (hk_A D) := by
  refine hk_met (by decide +kernel) (Nat.le_of_ble_eq_true rfl) (fun p e s m below meth c hx hb hr hml hlocks ht hown hin hK hH hS ls hl => ?_)
  have hl : lv_has ls 4 [(0, .ref (G.1 (.inl (11, i)))), (1, .int g)] := hl
  refine lv_iconst (v := 0) hx hb dX6_ofGarden_0 (by decide) ?_
  refine lv_istore_n (lv' := [(2, .int 0), (0, .ref (G.1 (.inl (11, i)))), (1, .int g)]) hx hb dX6_ofGarden_1 rfl hl (by decide) rfl (fun ls hl => ?_)
  refine lv_iconst (v := 0) hx hb dX6_ofGarden_2 (by decide) ?_
  refine lv_istore_n (lv' := [(3, .int 0), (2, .int 0), (0, .ref (G.1 (.inl (11, i)))), (1, .int g)]) hx hb dX6_ofGarden_3 rfl hl (by decide) rfl (fun ls hl => ?_)
  have LP_1 : ∀ (r j : Nat) (sum : Int32) (H : Heap) (locs : List Loc) (ls : Array Slot) (QQ : State → Prop), j + r = n → hk_H D G (hk_cm τ σ) H → va_S (hk_A D) s.heap H locs → lv_has ls 4 [(3, .int (nI j)), (2, .int sum), (0, .ref (G.1 (.inl (11, i)))), (1, .int g)] → (∀ (H : Heap) (locs : List Loc) (ls : Array Slot), hk_H D G (hk_cm τ σ) H → va_S (hk_A D) s.heap H locs → lv_has ls 4 [(3, .int (nI n)), (2, .int (hk_it (B_ofGarden i g τ) r j sum)), (0, .ref (G.1 (.inl (11, i)))), (1, .int g)] → W p l e ({ frames := 0, cells := 0, slots := 0, locals := 0 }) s m ([.ref (G.1 (.inl (11, i))), .int g] : List Value).toArray below meth c H locs 0 0 QQ (F0 m 37 ls [])) → W p l e ({ frames := 0, cells := 0, slots := 0, locals := 0 }) s m ([.ref (G.1 (.inl (11, i))), .int g] : List Value).toArray below meth c H locs 0 0 QQ (F0 m 4 ls []) := by
    intro r
    induction r with
    | zero =>
      intro j sum H locs ls QQ hn_ofGarden hH hS hl kk
      refine lv_iload_n hx hb dX6_ofGarden_4 rfl (lv_at hl 0 rfl) ?_
      refine lv_aload_n hx hb dX6_ofGarden_5 rfl (lv_at hl 2 rfl) ?_
      refine hk_geti (L := (.inl (11, i))) (v := τ (11, i) 4) hx hb ht hown hK hH kc_7 (hG.k11 i hi) 4 (by decide) rfl tw_402 rfl rfl dX6_ofGarden_6 ?_
      refine lv_icmp_ge (tgt := 37) hx hb dX6_ofGarden_9 (by decide) (fun c_2 => ?_) (fun c_2 => ?_)
      rotate_left
      · exfalso; rw [hn] at c_2; first | exact nI_ge (by omega) (by omega) c_2 | exact c_2 (nI_le (by omega) (by omega)) | exact nI_nlt (by omega) (by omega) c_2 | exact c_2 (nI_lt (by omega) (by omega))
      have hiN : j = n := by omega
      rw [hiN] at hl
      exact kk H locs ls hH hS (lv_sub hl [0, 1, 2, 3] rfl)
    | succ r ih =>
      intro j sum H locs ls QQ hn_ofGarden hH hS hl kk
      refine lv_iload_n hx hb dX6_ofGarden_4 rfl (lv_at hl 0 rfl) ?_
      refine lv_aload_n hx hb dX6_ofGarden_5 rfl (lv_at hl 2 rfl) ?_
      refine hk_geti (L := (.inl (11, i))) (v := τ (11, i) 4) hx hb ht hown hK hH kc_7 (hG.k11 i hi) 4 (by decide) rfl tw_402 rfl rfl dX6_ofGarden_6 ?_
      refine lv_icmp_ge (tgt := 37) hx hb dX6_ofGarden_9 (by decide) (fun c_3 => ?_) (fun c_3 => ?_)
      · exfalso; rw [hn] at c_3; first | exact nI_ge (by omega) (by omega) c_3 | exact c_3 (nI_le (by omega) (by omega)) | exact nI_nlt (by omega) (by omega) c_3 | exact c_3 (nI_lt (by omega) (by omega))
      refine lv_aload_n hx hb dX6_ofGarden_12 rfl (lv_at hl 2 rfl) ?_
      refine hk_getr (L := (.inl (11, i))) (v := .ref (G.1 (.inl (13, i)))) hx hb ht hown hK hH kc_7 (hG.k11 i hi) 2 (by decide) rfl tw_398 rfl (hG.r11_2 i hi) dX6_ofGarden_13 ?_
      refine lv_iload_n hx hb dX6_ofGarden_16 rfl (lv_at hl 0 rfl) ?_
      refine hk_ild (L := (.inl (13, i))) (v := τ (13, i) j) hx hb hK hH (hG.k13 i hi) (vp_in_nI (by omega) (by omega)) (by rw [nI_clamp (by omega)]; rfl) dX6_ofGarden_17 ?_
      refine lv_iload_n hx hb dX6_ofGarden_18 rfl (lv_at hl 3 rfl) ?_
      refine lv_icmp_ne (tgt := 31) hx hb dX6_ofGarden_19 (by decide) (fun c_4 => ?_) (fun c_4 => ?_)
      · refine lv_iinc (v := nI (j + 1)) (lv' := [(3, .int (nI (j + 1))), (2, .int sum), (0, .ref (G.1 (.inl (11, i)))), (1, .int g)]) hx hb dX6_ofGarden_31 hl (k := 0) rfl (nI_1 _) (by decide) rfl (fun ls hl => ?_)
        refine lv_goto (tgt := 4) hx hb dX6_ofGarden_34 (by decide) ?_
        have EB_5 : (B_ofGarden i g τ) j sum = sum := by simp only [B_ofGarden, if_neg c_4]
        exact ih (j + 1) sum _ _ _ QQ (by omega) hH hS (lv_sub hl [0, 1, 2, 3] rfl) (fun H locs ls hH hS hl => kk H locs ls hH hS (by rw [hk_it_s, EB_5]; exact hl))
      · refine lv_iload_n hx hb dX6_ofGarden_22 rfl (lv_at hl 1 rfl) ?_
        refine lv_aload_n hx hb dX6_ofGarden_23 rfl (lv_at hl 2 rfl) ?_
        refine hk_getr (L := (.inl (11, i))) (v := .ref (G.1 (.inl (14, i)))) hx hb ht hown hK hH kc_7 (hG.k11 i hi) 3 (by decide) rfl tw_400 rfl (hG.r11_3 i hi) dX6_ofGarden_24 ?_
        refine lv_iload_n hx hb dX6_ofGarden_27 rfl (lv_at hl 0 rfl) ?_
        refine hk_ild (L := (.inl (14, i))) (v := τ (14, i) j) hx hb hK hH (hG.k14 i hi) (vp_in_nI (by omega) (by omega)) (by rw [nI_clamp (by omega)]; rfl) dX6_ofGarden_28 ?_
        refine lv_iadd hx hb dX6_ofGarden_29 ?_
        refine lv_istore_n (lv' := [(2, .int (sum + (τ (14, i) j))), (3, .int (nI j)), (0, .ref (G.1 (.inl (11, i)))), (1, .int g)]) hx hb dX6_ofGarden_30 rfl hl (by decide) rfl (fun ls hl => ?_)
        refine lv_iinc (v := nI (j + 1)) (lv' := [(3, .int (nI (j + 1))), (2, .int (sum + (τ (14, i) j))), (0, .ref (G.1 (.inl (11, i)))), (1, .int g)]) hx hb dX6_ofGarden_31 hl (k := 1) rfl (nI_1 _) (by decide) rfl (fun ls hl => ?_)
        refine lv_goto (tgt := 4) hx hb dX6_ofGarden_34 (by decide) ?_
        have EB_6 : (B_ofGarden i g τ) j sum = sum + (τ (14, i) j) := by simp only [B_ofGarden, if_pos c_4]
        exact ih (j + 1) (sum + (τ (14, i) j)) _ _ _ QQ (by omega) hH hS (lv_sub hl [0, 1, 2, 3] rfl) (fun H locs ls hH hS hl => kk H locs ls hH hS (by rw [hk_it_s, EB_6]; exact hl))
  refine LP_1 n 0 0 _ _ _ _ (by omega) hH hS (lv_sub hl [0, 1, 2, 3] rfl) (fun H locs ls hH hS hl => ?_)
  refine lv_iload_n hx hb dX6_ofGarden_37 rfl (lv_at hl 1 rfl) ?_
  exact hk_iret hx hb hr hlocks hH hS ⟨(by simp only [F_ofGarden]), rfl, rfl⟩ dX6_ofGarden_38
def B_gardenBits (i : Nat) (τ : hk_v) (j : Nat) (bits : Int32) : Int32 := bits ||| (1 <<< ((τ (13, i) j) &&& 31))
def F_gardenBits (τ : hk_v) (i : Nat) (n : Nat) : Int32 := (hk_it (B_gardenBits i τ) n 0 0)
set_option maxHeartbeats 4000000 in
set_option maxRecDepth 100000 in
theorem c_gardenBits (l : Launch) (D : hk_D) (G : hk_G) (Z : hk_Z) (τ σ : hk_v) (i : Nat) (n : Nat) (hG : hk_Y D G Z) (hi : i < Z.1 2) (hn : τ (11, i) 4 = nI n) (hr : n ≤ Z.2.2 i) (hz : Z.2.2 i < 2 ^ 31) : Met l yX6_gardenBits (hk_ws yX6_gardenBits cX6_gardenBits 3 (some FieldType.int)) ({ frames := 0, cells := 0, slots := 0, locals := 0 }) (hk_P D G (hk_cm τ σ) [.ref (G.1 (.inl (11, i)))]) (hk_Q D (hk_e G (some (.int (F_gardenBits τ i n))) (hk_cm τ σ))) 0 0 (hk_A D) := by
  refine hk_met (by decide +kernel) (Nat.le_of_ble_eq_true rfl) (fun p e s m below meth c hx hb hr hml hlocks ht hown hin hK hH hS ls hl => ?_)
  have hl : lv_has ls 3 [(0, .ref (G.1 (.inl (11, i))))] := hl
  refine lv_iconst (v := 0) hx hb dX6_gardenBits_0 (by decide) ?_
  refine lv_istore_n (lv' := [(1, .int 0), (0, .ref (G.1 (.inl (11, i))))]) hx hb dX6_gardenBits_1 rfl hl (by decide) rfl (fun ls hl => ?_)
  refine lv_iconst (v := 0) hx hb dX6_gardenBits_2 (by decide) ?_
  refine lv_istore_n (lv' := [(2, .int 0), (1, .int 0), (0, .ref (G.1 (.inl (11, i))))]) hx hb dX6_gardenBits_3 rfl hl (by decide) rfl (fun ls hl => ?_)
  have LP_1 : ∀ (r j : Nat) (bits : Int32) (H : Heap) (locs : List Loc) (ls : Array Slot) (QQ : State → Prop), j + r = n → hk_H D G (hk_cm τ σ) H → va_S (hk_A D) s.heap H locs → lv_has ls 3 [(2, .int (nI j)), (1, .int bits), (0, .ref (G.1 (.inl (11, i))))] → (∀ (H : Heap) (locs : List Loc) (ls : Array Slot), hk_H D G (hk_cm τ σ) H → va_S (hk_A D) s.heap H locs → lv_has ls 3 [(2, .int (nI n)), (1, .int (hk_it (B_gardenBits i τ) r j bits)), (0, .ref (G.1 (.inl (11, i))))] → W p l e ({ frames := 0, cells := 0, slots := 0, locals := 0 }) s m ([.ref (G.1 (.inl (11, i)))] : List Value).toArray below meth c H locs 0 0 QQ (F0 m 29 ls [])) → W p l e ({ frames := 0, cells := 0, slots := 0, locals := 0 }) s m ([.ref (G.1 (.inl (11, i)))] : List Value).toArray below meth c H locs 0 0 QQ (F0 m 4 ls []) := by
    intro r
    induction r with
    | zero =>
      intro j bits H locs ls QQ hn_gardenBits hH hS hl kk
      refine lv_iload_n hx hb dX6_gardenBits_4 rfl (lv_at hl 0 rfl) ?_
      refine lv_aload_n hx hb dX6_gardenBits_5 rfl (lv_at hl 2 rfl) ?_
      refine hk_geti (L := (.inl (11, i))) (v := τ (11, i) 4) hx hb ht hown hK hH kc_7 (hG.k11 i hi) 4 (by decide) rfl tw_402 rfl rfl dX6_gardenBits_6 ?_
      refine lv_icmp_ge (tgt := 29) hx hb dX6_gardenBits_9 (by decide) (fun c_2 => ?_) (fun c_2 => ?_)
      rotate_left
      · exfalso; rw [hn] at c_2; first | exact nI_ge (by omega) (by omega) c_2 | exact c_2 (nI_le (by omega) (by omega)) | exact nI_nlt (by omega) (by omega) c_2 | exact c_2 (nI_lt (by omega) (by omega))
      have hiN : j = n := by omega
      rw [hiN] at hl
      exact kk H locs ls hH hS (lv_sub hl [0, 1, 2] rfl)
    | succ r ih =>
      intro j bits H locs ls QQ hn_gardenBits hH hS hl kk
      refine lv_iload_n hx hb dX6_gardenBits_4 rfl (lv_at hl 0 rfl) ?_
      refine lv_aload_n hx hb dX6_gardenBits_5 rfl (lv_at hl 2 rfl) ?_
      refine hk_geti (L := (.inl (11, i))) (v := τ (11, i) 4) hx hb ht hown hK hH kc_7 (hG.k11 i hi) 4 (by decide) rfl tw_402 rfl rfl dX6_gardenBits_6 ?_
      refine lv_icmp_ge (tgt := 29) hx hb dX6_gardenBits_9 (by decide) (fun c_3 => ?_) (fun c_3 => ?_)
      · exfalso; rw [hn] at c_3; first | exact nI_ge (by omega) (by omega) c_3 | exact c_3 (nI_le (by omega) (by omega)) | exact nI_nlt (by omega) (by omega) c_3 | exact c_3 (nI_lt (by omega) (by omega))
      refine lv_iload_n hx hb dX6_gardenBits_12 rfl (lv_at hl 1 rfl) ?_
      refine lv_iconst (v := 1) hx hb dX6_gardenBits_13 (by decide) ?_
      refine lv_aload_n hx hb dX6_gardenBits_14 rfl (lv_at hl 2 rfl) ?_
      refine hk_getr (L := (.inl (11, i))) (v := .ref (G.1 (.inl (13, i)))) hx hb ht hown hK hH kc_7 (hG.k11 i hi) 2 (by decide) rfl tw_398 rfl (hG.r11_2 i hi) dX6_gardenBits_15 ?_
      refine lv_iload_n hx hb dX6_gardenBits_18 rfl (lv_at hl 0 rfl) ?_
      refine hk_ild (L := (.inl (13, i))) (v := τ (13, i) j) hx hb hK hH (hG.k13 i hi) (vp_in_nI (by omega) (by omega)) (by rw [nI_clamp (by omega)]; rfl) dX6_gardenBits_19 ?_
      refine lv_ishl hx hb dX6_gardenBits_20 ?_
      refine lv_ior hx hb dX6_gardenBits_21 ?_
      refine lv_istore_n (lv' := [(1, .int (bits ||| (1 <<< ((τ (13, i) j) &&& 31)))), (2, .int (nI j)), (0, .ref (G.1 (.inl (11, i))))]) hx hb dX6_gardenBits_22 rfl hl (by decide) rfl (fun ls hl => ?_)
      refine lv_iinc (v := nI (j + 1)) (lv' := [(2, .int (nI (j + 1))), (1, .int (bits ||| (1 <<< ((τ (13, i) j) &&& 31)))), (0, .ref (G.1 (.inl (11, i))))]) hx hb dX6_gardenBits_23 hl (k := 1) rfl (nI_1 _) (by decide) rfl (fun ls hl => ?_)
      refine lv_goto (tgt := 4) hx hb dX6_gardenBits_26 (by decide) ?_
      have EB_4 : (B_gardenBits i τ) j bits = bits ||| (1 <<< ((τ (13, i) j) &&& 31)) := by simp only [B_gardenBits]
      exact ih (j + 1) (bits ||| (1 <<< ((τ (13, i) j) &&& 31))) _ _ _ QQ (by omega) hH hS (lv_sub hl [0, 1, 2] rfl) (fun H locs ls hH hS hl => kk H locs ls hH hS (by rw [hk_it_s, EB_4]; exact hl))
  refine LP_1 n 0 0 _ _ _ _ (by omega) hH hS (lv_sub hl [0, 1, 2] rfl) (fun H locs ls hH hS hl => ?_)
  refine lv_iload_n hx hb dX6_gardenBits_29 rfl (lv_at hl 1 rfl) ?_
  exact hk_iret hx hb hr hlocks hH hS ⟨(by simp only [F_gardenBits]), rfl, rfl⟩ dX6_gardenBits_30
def F_dries0 (i : Nat) (x : Int32) : Int32 := x / 5
set_option maxHeartbeats 4000000 in
set_option maxRecDepth 100000 in
theorem c_dries0 (l : Launch) (D : hk_D) (G : hk_G) (Z : hk_Z) (τ σ : hk_v) (i : Nat) (x : Int32) (hG : hk_Y D G Z) (hi : i < Z.1 2) : Met l yX8_dries (hk_ws yX8_dries cX8_dries 2 (some FieldType.int)) ({ frames := 0, cells := 0, slots := 0, locals := 0 }) (hk_P D G (hk_cm τ σ) [.ref (G.1 (.inl (12, i))), .int x]) (hk_Q D (hk_e G (some (.int (F_dries0 i x))) (hk_cm τ σ))) 0 0 (hk_A D) := by
  refine hk_met (by decide +kernel) (Nat.le_of_ble_eq_true rfl) (fun p e s m below meth c hx hb hr hml hlocks ht hown hin hK hH hS ls hl => ?_)
  have hl : lv_has ls 2 [(0, .ref (G.1 (.inl (12, i)))), (1, .int x)] := hl
  refine lv_iload_n hx hb dX8_dries_0 rfl (lv_at hl 1 rfl) ?_
  refine lv_iconst (v := 5) hx hb dX8_dries_1 (by decide) ?_
  refine lv_idiv hx hb dX8_dries_2 (by decide) ?_
  exact hk_iret hx hb hr hlocks hH hS ⟨(by simp only [F_dries0]), rfl, rfl⟩ dX8_dries_3
def F_marks0 (i : Nat) : Int32 := 1
set_option maxHeartbeats 4000000 in
set_option maxRecDepth 100000 in
theorem c_marks0 (l : Launch) (D : hk_D) (G : hk_G) (Z : hk_Z) (τ σ : hk_v) (i : Nat) (hG : hk_Y D G Z) (hi : i < Z.1 2) : Met l yX8_marks (hk_ws yX8_marks cX8_marks 1 (some FieldType.int)) ({ frames := 0, cells := 0, slots := 0, locals := 0 }) (hk_P D G (hk_cm τ σ) [.ref (G.1 (.inl (12, i)))]) (hk_Q D (hk_e G (some (.int (F_marks0 i))) (hk_cm τ σ))) 0 0 (hk_A D) := by
  refine hk_met (by decide +kernel) (Nat.le_of_ble_eq_true rfl) (fun p e s m below meth c hx hb hr hml hlocks ht hown hin hK hH hS ls hl => ?_)
  have hl : lv_has ls 1 [(0, .ref (G.1 (.inl (12, i))))] := hl
  refine lv_iconst (v := 1) hx hb dX8_marks_0 (by decide) ?_
  exact hk_iret hx hb hr hlocks hH hS ⟨(by simp only [F_marks0]), rfl, rfl⟩ dX8_marks_1
def F_floorMod (x : Int32) (y : Int32) : Int32 := (if 0 ≤ (x ^^^ y) then x - x / y * y else (if (x - x / y * y) = 0 then x - x / y * y else (x - x / y * y) + y))
set_option maxHeartbeats 4000000 in
set_option maxRecDepth 100000 in
theorem c_floorMod (l : Launch) (D : hk_D) (G : hk_G) (τ σ : hk_v) (x : Int32) (y : Int32)  (hy : ¬ y = 0) : Met l yJ9_floorMod_7cf53 (hk_ws yJ9_floorMod_7cf53 cJ9_floorMod_7cf53 3 (some FieldType.int)) ({ frames := 0, cells := 0, slots := 0, locals := 0 }) (hk_P D G (hk_cm τ σ) [.int x, .int y]) (hk_Q D (hk_e G (some (.int (F_floorMod x y))) (hk_cm τ σ))) 0 0 (hk_A D) := by
  refine hk_met (by decide +kernel) (Nat.le_of_ble_eq_true rfl) (fun p e s m below meth c hx hb hr hml hlocks ht hown hin hK hH hS ls hl => ?_)
  have hl : lv_has ls 3 [(0, .int x), (1, .int y)] := hl
  refine lv_iload_n hx hb dJ9_floorMod_7cf53_0 rfl (lv_at hl 0 rfl) ?_
  refine lv_iload_n hx hb dJ9_floorMod_7cf53_1 rfl (lv_at hl 1 rfl) ?_
  refine lv_irem hx hb dJ9_floorMod_7cf53_2 hy ?_
  refine lv_istore_n (lv' := [(2, .int (x - x / y * y)), (0, .int x), (1, .int y)]) hx hb dJ9_floorMod_7cf53_3 rfl hl (by decide) rfl (fun ls hl => ?_)
  refine lv_iload_n hx hb dJ9_floorMod_7cf53_4 rfl (lv_at hl 1 rfl) ?_
  refine lv_iload_n hx hb dJ9_floorMod_7cf53_5 rfl (lv_at hl 2 rfl) ?_
  refine lv_ixor hx hb dJ9_floorMod_7cf53_6 ?_
  refine lv_if_ge (tgt := 18) hx hb dJ9_floorMod_7cf53_7 (by decide) (fun c_1 => ?_) (fun c_1 => ?_)
  · refine lv_iload_n hx hb dJ9_floorMod_7cf53_18 rfl (lv_at hl 0 rfl) ?_
    exact hk_iret hx hb hr hlocks hH hS ⟨(by simp only [F_floorMod, if_pos c_1]), rfl, rfl⟩ dJ9_floorMod_7cf53_19
  · refine lv_iload_n hx hb dJ9_floorMod_7cf53_10 rfl (lv_at hl 0 rfl) ?_
    refine lv_if_eq (tgt := 18) hx hb dJ9_floorMod_7cf53_11 (by decide) (fun c_2 => ?_) (fun c_2 => ?_)
    · refine lv_iload_n hx hb dJ9_floorMod_7cf53_18 rfl (lv_at hl 0 rfl) ?_
      exact hk_iret hx hb hr hlocks hH hS ⟨(by simp only [F_floorMod, if_neg c_1, if_pos c_2]), rfl, rfl⟩ dJ9_floorMod_7cf53_19
    · refine lv_iload_n hx hb dJ9_floorMod_7cf53_14 rfl (lv_at hl 0 rfl) ?_
      refine lv_iload_n hx hb dJ9_floorMod_7cf53_15 rfl (lv_at hl 2 rfl) ?_
      refine lv_iadd hx hb dJ9_floorMod_7cf53_16 ?_
      exact hk_iret hx hb hr hlocks hH hS ⟨(by simp only [F_floorMod, if_neg c_1, if_neg c_2]), rfl, rfl⟩ dJ9_floorMod_7cf53_17
theorem ymS_J9_floorMod_7cf53 : hk_mS yJ9_floorMod_7cf53 cJ9_floorMod_7cf53 3 (some FieldType.int) 2 := ⟨tw_510, tw_509, tw_45, by decide, by decide, by decide +kernel⟩
def F_place (h : Int32) (g : Int32) : Int32 := ((F_floorMod h 25) * 6) + g
set_option maxHeartbeats 4000000 in
set_option maxRecDepth 100000 in
theorem c_place (l : Launch) (D : hk_D) (G : hk_G) (τ σ : hk_v) (h : Int32) (g : Int32)   : Met l yX5_place (hk_ws yX5_place cX5_place 2 (some FieldType.int)) ({ frames := 1, cells := 0, slots := 0, locals := 22 }) (hk_P D G (hk_cm τ σ) [.int h, .int g]) (hk_Q D (hk_e G (some (.int (F_place h g))) (hk_cm τ σ))) 0 0 (hk_A D) := by
  refine hk_met (by decide +kernel) (Nat.le_of_ble_eq_true rfl) (fun p e s m below meth c hx hb hr hml hlocks ht hown hin hK hH hS ls hl => ?_)
  have hl : lv_has ls 2 [(0, .int h), (1, .int g)] := hl
  refine lv_iload_n hx hb dX5_place_0 rfl (lv_at hl 0 rfl) ?_
  refine lv_bipush (v := 25) hx hb dX5_place_1 (by decide) ?_
  refine hk_cS (As := [.int h, .int 25]) (rest := []) hx hb hml hl.1 ht hown hK hH hS (c_floorMod l D G τ σ h 25 (by decide)) ymS_J9_floorMod_7cf53 tw_508 ⟨rfl, rfl⟩ ⟨Nat.le_of_ble_eq_true rfl, Nat.le_of_ble_eq_true rfl⟩ rfl rfl (Nat.le_of_ble_eq_true rfl) dX5_place_3 ⟨Nat.le_of_ble_eq_true rfl, Nat.le_of_ble_eq_true rfl⟩ (hk_ea (fun H locs hH hS => ?_))
  refine lv_bipush (v := 6) hx hb dX5_place_6 (by decide) ?_
  refine lv_imul hx hb dX5_place_8 ?_
  refine lv_iload_n hx hb dX5_place_9 rfl (lv_at hl 1 rfl) ?_
  refine lv_iadd hx hb dX5_place_10 ?_
  exact hk_iret hx hb hr hlocks hH hS ⟨(by simp only [F_place]), rfl, rfl⟩ dX5_place_11
def F_tell (τ : hk_v) (i : Nat) (w : Int32) (v : Int32) : Int32 := (if (τ (5, i) 3) < 20 then 1 else 0)
def T_tell (τ : hk_v) (i : Nat) (w : Int32) (v : Int32) : hk_v := (if (τ (5, i) 3) < 20 then (hk_u (hk_u (hk_u τ (6, i) ((τ (5, i) 3).toNatClampNeg) w) (7, i) ((τ (5, i) 3).toNatClampNeg) v) (5, i) 3 ((τ (5, i) 3) + 1)) else τ)
set_option maxHeartbeats 4000000 in
set_option maxRecDepth 100000 in
theorem c_tell (l : Launch) (D : hk_D) (G : hk_G) (Z : hk_Z) (τ σ : hk_v) (i : Nat) (w : Int32) (v : Int32) (hG : hk_Y D G Z) (hi : i < 2) (h0 : ¬ τ (5, i) 3 < 0) : Met l yX7_tell (hk_ws yX7_tell cX7_tell 3 (some FieldType.boolean)) ({ frames := 0, cells := 0, slots := 0, locals := 0 }) (hk_P D G (hk_cm τ σ) [.ref (G.1 (.inl (5, i))), .int w, .int v]) (hk_Q D (hk_e G (some (.int (F_tell τ i w v))) (hk_cm (T_tell τ i w v) σ))) 0 0 (hk_A D) := by
  refine hk_met (by decide +kernel) (Nat.le_of_ble_eq_true rfl) (fun p e s m below meth c hx hb hr hml hlocks ht hown hin hK hH hS ls hl => ?_)
  have hl : lv_has ls 3 [(0, .ref (G.1 (.inl (5, i)))), (1, .int w), (2, .int v)] := hl
  refine lv_aload_n hx hb dX7_tell_0 rfl (lv_at hl 0 rfl) ?_
  refine hk_geti (L := (.inl (5, i))) (v := τ (5, i) 3) hx hb ht hown hK hH kc_8 (hG.k5 i hi) 3 (by decide) rfl tw_139 rfl rfl dX7_tell_1 ?_
  refine lv_bipush (v := 20) hx hb dX7_tell_4 (by decide) ?_
  refine lv_icmp_lt (tgt := 11) hx hb dX7_tell_6 (by decide) (fun c_1 => ?_) (fun c_1 => ?_)
  · refine lv_aload_n hx hb dX7_tell_11 rfl (lv_at hl 0 rfl) ?_
    refine hk_getr (L := (.inl (5, i))) (v := .ref (G.1 (.inl (6, i)))) hx hb ht hown hK hH kc_8 (hG.k5 i hi) 0 (by decide) rfl tw_136 rfl (hG.r5_0 i hi) dX7_tell_12 ?_
    refine lv_aload_n hx hb dX7_tell_15 rfl (lv_at hl 0 rfl) ?_
    refine hk_geti (L := (.inl (5, i))) (v := τ (5, i) 3) hx hb ht hown hK hH kc_8 (hG.k5 i hi) 3 (by decide) rfl tw_139 rfl rfl dX7_tell_16 ?_
    refine lv_iload_n hx hb dX7_tell_19 rfl (lv_at hl 1 rfl) ?_
    refine hk_ist (L := (.inl (6, i))) hx hb hK hH hS (hG.k6 i hi) (hk_vin h0 (Int32.not_le.mpr c_1)) dX7_tell_20 (fun H locs hH hS => ?_)
    rw [hk_up_l] at hH
    refine lv_aload_n hx hb dX7_tell_21 rfl (lv_at hl 0 rfl) ?_
    refine hk_getr (L := (.inl (5, i))) (v := .ref (G.1 (.inl (7, i)))) hx hb ht hown hK hH kc_8 (hG.k5 i hi) 1 (by decide) rfl tw_137 rfl (hG.r5_1 i hi) dX7_tell_22 ?_
    refine lv_aload_n hx hb dX7_tell_25 rfl (lv_at hl 0 rfl) ?_
    refine hk_geti (L := (.inl (5, i))) (v := τ (5, i) 3) hx hb ht hown hK hH kc_8 (hG.k5 i hi) 3 (by decide) rfl tw_139 rfl (by simp [hk_cm, hk_u_ap]) dX7_tell_26 ?_
    refine lv_iload_n hx hb dX7_tell_29 rfl (lv_at hl 2 rfl) ?_
    refine hk_ist (L := (.inl (7, i))) hx hb hK hH hS (hG.k7 i hi) (hk_vin h0 (Int32.not_le.mpr c_1)) dX7_tell_30 (fun H locs hH hS => ?_)
    rw [hk_up_l] at hH
    refine lv_aload_n hx hb dX7_tell_31 rfl (lv_at hl 0 rfl) ?_
    refine lv_dup hx hb dX7_tell_32 rfl ?_
    refine hk_geti (L := (.inl (5, i))) (v := τ (5, i) 3) hx hb ht hown hK hH kc_8 (hG.k5 i hi) 3 (by decide) rfl tw_139 rfl (by simp [hk_cm, hk_u_ap]) dX7_tell_33 ?_
    refine lv_iconst (v := 1) hx hb dX7_tell_36 (by decide) ?_
    refine lv_iadd hx hb dX7_tell_37 ?_
    refine hk_puti (L := (.inl (5, i))) hx hb ht hown hK hH hS kc_8 (hG.k5 i hi) 3 (by decide) rfl tw_139 rfl (Or.inl rfl) rfl dX7_tell_38 (fun H locs hH hS => ?_)
    rw [hk_up_l] at hH
    refine lv_iconst (v := 1) hx hb dX7_tell_41 (by decide) ?_
    exact hk_zret hx hb hr hlocks (by decide) hH hS ⟨(by simp only [F_tell, if_pos c_1]), rfl, (by simp only [T_tell, if_pos c_1])⟩ dX7_tell_42
  · refine lv_iconst (v := 0) hx hb dX7_tell_9 (by decide) ?_
    exact hk_zret hx hb hr hlocks (by decide) hH hS ⟨(by simp only [F_tell, if_neg c_1]), rfl, (by simp only [T_tell, if_neg c_1])⟩ dX7_tell_10
def B_inForce (i : Nat) (w : Int32) (τ : hk_v) (j : Nat) (s : Int32 × Int32) : Int32 × Int32 := match s with
  | (la, fo) => (if w < (τ (6, i) j) then (la, fo) else (if (τ (6, i) j) < la then (la, fo) else (τ (6, i) j, τ (7, i) j)))
def F_inForce (τ : hk_v) (i : Nat) (n : Nat) (w : Int32) : Int32 := (hk_it (B_inForce i w τ) n 0 ((-1), τ (5, i) 2)).2
set_option maxHeartbeats 4000000 in
set_option maxRecDepth 100000 in
theorem c_inForce (l : Launch) (D : hk_D) (G : hk_G) (Z : hk_Z) (τ σ : hk_v) (i : Nat) (n : Nat) (w : Int32) (hG : hk_Y D G Z) (hi : i < 2) (hn : τ (5, i) 3 = nI n) (hr : n ≤ 20) : Met l yX7_inForce (hk_ws yX7_inForce cX7_inForce 5 (some FieldType.int)) ({ frames := 0, cells := 0, slots := 0, locals := 0 }) (hk_P D G (hk_cm τ σ) [.ref (G.1 (.inl (5, i))), .int w]) (hk_Q D (hk_e G (some (.int (F_inForce τ i n w))) (hk_cm τ σ))) 0 0 (hk_A D) := by
  refine hk_met (by decide +kernel) (Nat.le_of_ble_eq_true rfl) (fun p e s m below meth c hx hb hr hml hlocks ht hown hin hK hH hS ls hl => ?_)
  have hl : lv_has ls 5 [(0, .ref (G.1 (.inl (5, i)))), (1, .int w)] := hl
  refine lv_iconst (v := -1) hx hb dX7_inForce_0 (by decide) ?_
  refine lv_istore_n (lv' := [(2, .int (-1)), (0, .ref (G.1 (.inl (5, i)))), (1, .int w)]) hx hb dX7_inForce_1 rfl hl (by decide) rfl (fun ls hl => ?_)
  refine lv_aload_n hx hb dX7_inForce_2 rfl (lv_at hl 1 rfl) ?_
  refine hk_geti (L := (.inl (5, i))) (v := τ (5, i) 2) hx hb ht hown hK hH kc_8 (hG.k5 i hi) 2 (by decide) rfl tw_138 rfl rfl dX7_inForce_3 ?_
  refine lv_istore_n (lv' := [(3, .int (τ (5, i) 2)), (2, .int (-1)), (0, .ref (G.1 (.inl (5, i)))), (1, .int w)]) hx hb dX7_inForce_6 rfl hl (by decide) rfl (fun ls hl => ?_)
  refine lv_iconst (v := 0) hx hb dX7_inForce_7 (by decide) ?_
  refine lv_istore (lv' := [(4, .int 0), (3, .int (τ (5, i) 2)), (2, .int (-1)), (0, .ref (G.1 (.inl (5, i)))), (1, .int w)]) hx hb dX7_inForce_8 hl (by decide) rfl (fun ls hl => ?_)
  have LP_1 : ∀ (r j : Nat) (la : Int32) (fo : Int32) (H : Heap) (locs : List Loc) (ls : Array Slot) (QQ : State → Prop), j + r = n → hk_H D G (hk_cm τ σ) H → va_S (hk_A D) s.heap H locs → lv_has ls 5 [(4, .int (nI j)), (3, .int fo), (2, .int la), (0, .ref (G.1 (.inl (5, i)))), (1, .int w)] → (∀ (H : Heap) (locs : List Loc) (ls : Array Slot), hk_H D G (hk_cm τ σ) H → va_S (hk_A D) s.heap H locs → lv_has ls 5 [(4, .int (nI n)), (3, .int ((hk_it (B_inForce i w τ) r j (la, fo)).2)), (2, .int ((hk_it (B_inForce i w τ) r j (la, fo)).1)), (0, .ref (G.1 (.inl (5, i)))), (1, .int w)] → W p l e ({ frames := 0, cells := 0, slots := 0, locals := 0 }) s m ([.ref (G.1 (.inl (5, i))), .int w] : List Value).toArray below meth c H locs 0 0 QQ (F0 m 63 ls [])) → W p l e ({ frames := 0, cells := 0, slots := 0, locals := 0 }) s m ([.ref (G.1 (.inl (5, i))), .int w] : List Value).toArray below meth c H locs 0 0 QQ (F0 m 10 ls []) := by
    intro r
    induction r with
    | zero =>
      intro j la fo H locs ls QQ hn_inForce hH hS hl kk
      refine lv_iload hx hb dX7_inForce_10 (lv_at hl 0 rfl) ?_
      refine lv_aload_n hx hb dX7_inForce_12 rfl (lv_at hl 3 rfl) ?_
      refine hk_geti (L := (.inl (5, i))) (v := τ (5, i) 3) hx hb ht hown hK hH kc_8 (hG.k5 i hi) 3 (by decide) rfl tw_139 rfl rfl dX7_inForce_13 ?_
      refine lv_icmp_ge (tgt := 63) hx hb dX7_inForce_16 (by decide) (fun c_2 => ?_) (fun c_2 => ?_)
      rotate_left
      · exfalso; rw [hn] at c_2; first | exact nI_ge (by omega) (by omega) c_2 | exact c_2 (nI_le (by omega) (by omega)) | exact nI_nlt (by omega) (by omega) c_2 | exact c_2 (nI_lt (by omega) (by omega))
      have hiN : j = n := by omega
      rw [hiN] at hl
      exact kk H locs ls hH hS (lv_sub hl [0, 1, 2, 3, 4] rfl)
    | succ r ih =>
      intro j la fo H locs ls QQ hn_inForce hH hS hl kk
      refine lv_iload hx hb dX7_inForce_10 (lv_at hl 0 rfl) ?_
      refine lv_aload_n hx hb dX7_inForce_12 rfl (lv_at hl 3 rfl) ?_
      refine hk_geti (L := (.inl (5, i))) (v := τ (5, i) 3) hx hb ht hown hK hH kc_8 (hG.k5 i hi) 3 (by decide) rfl tw_139 rfl rfl dX7_inForce_13 ?_
      refine lv_icmp_ge (tgt := 63) hx hb dX7_inForce_16 (by decide) (fun c_3 => ?_) (fun c_3 => ?_)
      · exfalso; rw [hn] at c_3; first | exact nI_ge (by omega) (by omega) c_3 | exact c_3 (nI_le (by omega) (by omega)) | exact nI_nlt (by omega) (by omega) c_3 | exact c_3 (nI_lt (by omega) (by omega))
      refine lv_aload_n hx hb dX7_inForce_19 rfl (lv_at hl 3 rfl) ?_
      refine hk_getr (L := (.inl (5, i))) (v := .ref (G.1 (.inl (6, i)))) hx hb ht hown hK hH kc_8 (hG.k5 i hi) 0 (by decide) rfl tw_136 rfl (hG.r5_0 i hi) dX7_inForce_20 ?_
      refine lv_iload hx hb dX7_inForce_23 (lv_at hl 0 rfl) ?_
      refine hk_ild (L := (.inl (6, i))) (v := τ (6, i) j) hx hb hK hH (hG.k6 i hi) (vp_in_nI (by omega) (by omega)) (by rw [nI_clamp (by omega)]; rfl) dX7_inForce_25 ?_
      refine lv_iload_n hx hb dX7_inForce_26 rfl (lv_at hl 4 rfl) ?_
      refine lv_icmp_gt (tgt := 57) hx hb dX7_inForce_27 (by decide) (fun c_4 => ?_) (fun c_4 => ?_)
      · refine lv_iinc (v := nI (j + 1)) (lv' := [(4, .int (nI (j + 1))), (3, .int fo), (2, .int la), (0, .ref (G.1 (.inl (5, i)))), (1, .int w)]) hx hb dX7_inForce_57 hl (k := 0) rfl (nI_1 _) (by decide) rfl (fun ls hl => ?_)
        refine lv_goto (tgt := 10) hx hb dX7_inForce_60 (by decide) ?_
        have EB_5 : (B_inForce i w τ) j (la, fo) = (la, fo) := by simp only [B_inForce, if_pos c_4]
        exact ih (j + 1) la fo _ _ _ QQ (by omega) hH hS (lv_sub hl [0, 1, 2, 3, 4] rfl) (fun H locs ls hH hS hl => kk H locs ls hH hS (by rw [hk_it_s, EB_5]; exact hl))
      · refine lv_aload_n hx hb dX7_inForce_30 rfl (lv_at hl 3 rfl) ?_
        refine hk_getr (L := (.inl (5, i))) (v := .ref (G.1 (.inl (6, i)))) hx hb ht hown hK hH kc_8 (hG.k5 i hi) 0 (by decide) rfl tw_136 rfl (hG.r5_0 i hi) dX7_inForce_31 ?_
        refine lv_iload hx hb dX7_inForce_34 (lv_at hl 0 rfl) ?_
        refine hk_ild (L := (.inl (6, i))) (v := τ (6, i) j) hx hb hK hH (hG.k6 i hi) (vp_in_nI (by omega) (by omega)) (by rw [nI_clamp (by omega)]; rfl) dX7_inForce_36 ?_
        refine lv_iload_n hx hb dX7_inForce_37 rfl (lv_at hl 2 rfl) ?_
        refine lv_icmp_lt (tgt := 57) hx hb dX7_inForce_38 (by decide) (fun c_6 => ?_) (fun c_6 => ?_)
        · refine lv_iinc (v := nI (j + 1)) (lv' := [(4, .int (nI (j + 1))), (3, .int fo), (2, .int la), (0, .ref (G.1 (.inl (5, i)))), (1, .int w)]) hx hb dX7_inForce_57 hl (k := 0) rfl (nI_1 _) (by decide) rfl (fun ls hl => ?_)
          refine lv_goto (tgt := 10) hx hb dX7_inForce_60 (by decide) ?_
          have EB_7 : (B_inForce i w τ) j (la, fo) = (la, fo) := by simp only [B_inForce, if_neg c_4, if_pos c_6]
          exact ih (j + 1) la fo _ _ _ QQ (by omega) hH hS (lv_sub hl [0, 1, 2, 3, 4] rfl) (fun H locs ls hH hS hl => kk H locs ls hH hS (by rw [hk_it_s, EB_7]; exact hl))
        · refine lv_aload_n hx hb dX7_inForce_41 rfl (lv_at hl 3 rfl) ?_
          refine hk_getr (L := (.inl (5, i))) (v := .ref (G.1 (.inl (6, i)))) hx hb ht hown hK hH kc_8 (hG.k5 i hi) 0 (by decide) rfl tw_136 rfl (hG.r5_0 i hi) dX7_inForce_42 ?_
          refine lv_iload hx hb dX7_inForce_45 (lv_at hl 0 rfl) ?_
          refine hk_ild (L := (.inl (6, i))) (v := τ (6, i) j) hx hb hK hH (hG.k6 i hi) (vp_in_nI (by omega) (by omega)) (by rw [nI_clamp (by omega)]; rfl) dX7_inForce_47 ?_
          refine lv_istore_n (lv' := [(2, .int (τ (6, i) j)), (4, .int (nI j)), (3, .int fo), (0, .ref (G.1 (.inl (5, i)))), (1, .int w)]) hx hb dX7_inForce_48 rfl hl (by decide) rfl (fun ls hl => ?_)
          refine lv_aload_n hx hb dX7_inForce_49 rfl (lv_at hl 3 rfl) ?_
          refine hk_getr (L := (.inl (5, i))) (v := .ref (G.1 (.inl (7, i)))) hx hb ht hown hK hH kc_8 (hG.k5 i hi) 1 (by decide) rfl tw_137 rfl (hG.r5_1 i hi) dX7_inForce_50 ?_
          refine lv_iload hx hb dX7_inForce_53 (lv_at hl 1 rfl) ?_
          refine hk_ild (L := (.inl (7, i))) (v := τ (7, i) j) hx hb hK hH (hG.k7 i hi) (vp_in_nI (by omega) (by omega)) (by rw [nI_clamp (by omega)]; rfl) dX7_inForce_55 ?_
          refine lv_istore_n (lv' := [(3, .int (τ (7, i) j)), (2, .int (τ (6, i) j)), (4, .int (nI j)), (0, .ref (G.1 (.inl (5, i)))), (1, .int w)]) hx hb dX7_inForce_56 rfl hl (by decide) rfl (fun ls hl => ?_)
          refine lv_iinc (v := nI (j + 1)) (lv' := [(4, .int (nI (j + 1))), (3, .int (τ (7, i) j)), (2, .int (τ (6, i) j)), (0, .ref (G.1 (.inl (5, i)))), (1, .int w)]) hx hb dX7_inForce_57 hl (k := 2) rfl (nI_1 _) (by decide) rfl (fun ls hl => ?_)
          refine lv_goto (tgt := 10) hx hb dX7_inForce_60 (by decide) ?_
          have EB_8 : (B_inForce i w τ) j (la, fo) = (τ (6, i) j, τ (7, i) j) := by simp only [B_inForce, if_neg c_4, if_neg c_6]
          exact ih (j + 1) (τ (6, i) j) (τ (7, i) j) _ _ _ QQ (by omega) hH hS (lv_sub hl [0, 1, 2, 3, 4] rfl) (fun H locs ls hH hS hl => kk H locs ls hH hS (by rw [hk_it_s, EB_8]; exact hl))
  refine LP_1 n 0 (-1) (τ (5, i) 2) _ _ _ _ (by omega) hH hS (lv_sub hl [0, 1, 2, 3, 4] rfl) (fun H locs ls hH hS hl => ?_)
  refine lv_iload_n hx hb dX7_inForce_63 rfl (lv_at hl 1 rfl) ?_
  exact hk_iret hx hb hr hlocks hH hS ⟨(by simp only [F_inForce]), rfl, rfl⟩ dX7_inForce_64
def F_led (τ : hk_v)  : Int32 := if 100 < (τ (4, 0) 2) then 100 else (τ (4, 0) 2)
set_option maxHeartbeats 4000000 in
set_option maxRecDepth 100000 in
theorem c_led (l : Launch) (D : hk_D) (G : hk_G) (Z : hk_Z) (τ σ : hk_v)  (hG : hk_Y D G Z)  : Met l yX9_led (hk_ws yX9_led cX9_led 1 (some FieldType.int)) ({ frames := 1, cells := 0, slots := 0, locals := 13 }) (hk_P D G (hk_cm τ σ) [.ref (G.1 (.inl (4, 0)))]) (hk_Q D (hk_e G (some (.int (F_led τ))) (hk_cm τ σ))) 0 0 (hk_A D) := by
  refine hk_met (by decide +kernel) (Nat.le_of_ble_eq_true rfl) (fun p e s m below meth c hx hb hr hml hlocks ht hown hin hK hH hS ls hl => ?_)
  have hl : lv_has ls 1 [(0, .ref (G.1 (.inl (4, 0))))] := hl
  refine lv_aload_n hx hb dX9_led_0 rfl (lv_at hl 0 rfl) ?_
  refine hk_geti (L := (.inl (4, 0))) (v := τ (4, 0) 2) hx hb ht hown hK hH kc_10 hG.k4_0 2 (by decide) rfl tw_114 rfl rfl dX9_led_1 ?_
  refine lv_bipush (v := 100) hx hb dX9_led_4 (by decide) ?_
  refine va_mmin hx hb (hml.trans hl.1.symm) hown (ht _ tw_604) (ht _ tw_293) (ht _ tw_45) (ht _ tw_294) (Nat.le_of_ble_eq_true rfl) (Nat.le_of_ble_eq_true rfl) (Nat.zero_le _) (Nat.zero_le _) dX9_led_6 ?_
  exact hk_iret hx hb hr hlocks hH hS ⟨(by simp only [F_led]), rfl, rfl⟩ dX9_led_9
def T_pressOne (τ : hk_v) (day : Int32) : hk_v := (if 100 ≤ (τ (4, 0) 2) then (hk_u τ (4, 0) 2 ((τ (4, 0) 2) + 1)) else (hk_u (hk_u (hk_u τ (4, 1) ((τ (4, 0) 2).toNatClampNeg) (τ (4, 0) 4)) (4, 2) ((τ (4, 0) 2).toNatClampNeg) day) (4, 0) 2 ((τ (4, 0) 2) + 1)))
set_option maxHeartbeats 4000000 in
set_option maxRecDepth 100000 in
theorem c_pressOne (l : Launch) (D : hk_D) (G : hk_G) (Z : hk_Z) (τ σ : hk_v) (day : Int32) (hG : hk_Y D G Z) (h0 : ¬ τ (4, 0) 2 < 0) : Met l yX9_pressOne (hk_ws yX9_pressOne cX9_pressOne 2 none) ({ frames := 0, cells := 0, slots := 0, locals := 0 }) (hk_P D G (hk_cm τ σ) [.ref (G.1 (.inl (4, 0))), .int day]) (hk_Q D (hk_e G (none) (hk_cm (T_pressOne τ day) σ))) 0 0 (hk_A D) := by
  refine hk_met (by decide +kernel) (Nat.le_of_ble_eq_true rfl) (fun p e s m below meth c hx hb hr hml hlocks ht hown hin hK hH hS ls hl => ?_)
  have hl : lv_has ls 2 [(0, .ref (G.1 (.inl (4, 0)))), (1, .int day)] := hl
  refine lv_aload_n hx hb dX9_pressOne_0 rfl (lv_at hl 0 rfl) ?_
  refine hk_geti (L := (.inl (4, 0))) (v := τ (4, 0) 2) hx hb ht hown hK hH kc_10 hG.k4_0 2 (by decide) rfl tw_114 rfl rfl dX9_pressOne_1 ?_
  refine lv_bipush (v := 100) hx hb dX9_pressOne_4 (by decide) ?_
  refine lv_icmp_ge (tgt := 32) hx hb dX9_pressOne_6 (by decide) (fun c_1 => ?_) (fun c_1 => ?_)
  · refine lv_aload_n hx hb dX9_pressOne_32 rfl (lv_at hl 0 rfl) ?_
    refine lv_dup hx hb dX9_pressOne_33 rfl ?_
    refine hk_geti (L := (.inl (4, 0))) (v := τ (4, 0) 2) hx hb ht hown hK hH kc_10 hG.k4_0 2 (by decide) rfl tw_114 rfl rfl dX9_pressOne_34 ?_
    refine lv_iconst (v := 1) hx hb dX9_pressOne_37 (by decide) ?_
    refine lv_iadd hx hb dX9_pressOne_38 ?_
    refine hk_puti (L := (.inl (4, 0))) hx hb ht hown hK hH hS kc_10 hG.k4_0 2 (by decide) rfl tw_114 rfl (Or.inl rfl) rfl dX9_pressOne_39 (fun H locs hH hS => ?_)
    rw [hk_up_l] at hH
    exact hk_vret hx hb hr hlocks hH hS ⟨rfl, rfl, (by simp only [T_pressOne, if_pos c_1])⟩ dX9_pressOne_42
  · refine lv_aload_n hx hb dX9_pressOne_9 rfl (lv_at hl 0 rfl) ?_
    refine hk_getr (L := (.inl (4, 0))) (v := .ref (G.1 (.inl (4, 1)))) hx hb ht hown hK hH kc_10 hG.k4_0 0 (by decide) rfl tw_110 rfl hG.r4_0 dX9_pressOne_10 ?_
    refine lv_aload_n hx hb dX9_pressOne_13 rfl (lv_at hl 0 rfl) ?_
    refine hk_geti (L := (.inl (4, 0))) (v := τ (4, 0) 2) hx hb ht hown hK hH kc_10 hG.k4_0 2 (by decide) rfl tw_114 rfl rfl dX9_pressOne_14 ?_
    refine lv_aload_n hx hb dX9_pressOne_17 rfl (lv_at hl 0 rfl) ?_
    refine hk_geti (L := (.inl (4, 0))) (v := τ (4, 0) 4) hx hb ht hown hK hH kc_10 hG.k4_0 4 (by decide) rfl tw_118 rfl rfl dX9_pressOne_18 ?_
    refine hk_ist (L := (.inl (4, 1))) hx hb hK hH hS hG.k4_1 (hk_vin h0 c_1) dX9_pressOne_21 (fun H locs hH hS => ?_)
    rw [hk_up_l] at hH
    refine lv_aload_n hx hb dX9_pressOne_22 rfl (lv_at hl 0 rfl) ?_
    refine hk_getr (L := (.inl (4, 0))) (v := .ref (G.1 (.inl (4, 2)))) hx hb ht hown hK hH kc_10 hG.k4_0 1 (by decide) rfl tw_112 rfl hG.r4_1 dX9_pressOne_23 ?_
    refine lv_aload_n hx hb dX9_pressOne_26 rfl (lv_at hl 0 rfl) ?_
    refine hk_geti (L := (.inl (4, 0))) (v := τ (4, 0) 2) hx hb ht hown hK hH kc_10 hG.k4_0 2 (by decide) rfl tw_114 rfl (by simp [hk_cm, hk_u_ap]) dX9_pressOne_27 ?_
    refine lv_iload_n hx hb dX9_pressOne_30 rfl (lv_at hl 1 rfl) ?_
    refine hk_ist (L := (.inl (4, 2))) hx hb hK hH hS hG.k4_2 (hk_vin h0 c_1) dX9_pressOne_31 (fun H locs hH hS => ?_)
    rw [hk_up_l] at hH
    refine lv_aload_n hx hb dX9_pressOne_32 rfl (lv_at hl 0 rfl) ?_
    refine lv_dup hx hb dX9_pressOne_33 rfl ?_
    refine hk_geti (L := (.inl (4, 0))) (v := τ (4, 0) 2) hx hb ht hown hK hH kc_10 hG.k4_0 2 (by decide) rfl tw_114 rfl (by simp [hk_cm, hk_u_ap]) dX9_pressOne_34 ?_
    refine lv_iconst (v := 1) hx hb dX9_pressOne_37 (by decide) ?_
    refine lv_iadd hx hb dX9_pressOne_38 ?_
    refine hk_puti (L := (.inl (4, 0))) hx hb ht hown hK hH hS kc_10 hG.k4_0 2 (by decide) rfl tw_114 rfl (Or.inl rfl) rfl dX9_pressOne_39 (fun H locs hH hS => ?_)
    rw [hk_up_l] at hH
    exact hk_vret hx hb hr hlocks hH hS ⟨rfl, rfl, (by simp only [T_pressOne, if_neg c_1])⟩ dX9_pressOne_42
