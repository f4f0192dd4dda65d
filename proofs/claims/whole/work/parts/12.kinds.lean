theorem hk_max1 (x : Int32) : ¬ (if x < 1 then (1 : Int32) else x) = 0 := by
  split
  · decide
  · intro h; subst h; rename_i q; exact q (by decide)
def F_dries1 (i : Nat) (x : Int32) : Int32 := (if x < 40 then F_dries0 i x else (F_dries0 i x) + 3)
set_option maxHeartbeats 4000000 in
set_option maxRecDepth 100000 in
theorem c_dries1 (l : Launch) (D : hk_D) (G : hk_G) (Z : hk_Z) (τ σ : hk_v) (i : Nat) (x : Int32) (hG : hk_Y D G Z) (hi : i < Z.1 2) (ci : Nat) (C : String) (T : u_T) (N : Nat) (ty : Nat → FieldType) (hc : hk_cls ci C T N ty) (hk : G.2.1 (.inl (12, i)) = some (.inl ci)) : Met l yX2_dries (hk_ws yX2_dries cX2_dries 3 (some FieldType.int)) ({ frames := 1, cells := 0, slots := 0, locals := 21 }) (hk_P D G (hk_cm τ σ) [.ref (G.1 (.inl (12, i))), .int x]) (hk_Q D (hk_e G (some (.int (F_dries1 i x))) (hk_cm τ σ))) 0 0 (hk_A D) := by
  refine hk_met (by decide +kernel) (Nat.le_of_ble_eq_true rfl) (fun p e s m below meth c hx hb hr hml hlocks ht hown hin hK hH hS ls hl => ?_)
  have hl : lv_has ls 3 [(0, .ref (G.1 (.inl (12, i)))), (1, .int x)] := hl
  refine lv_aload_n hx hb dX2_dries_0 rfl (lv_at hl 0 rfl) ?_
  refine lv_iload_n hx hb dX2_dries_1 rfl (lv_at hl 1 rfl) ?_
  refine hk_cSU (n := 1) (L := (.inl (12, i))) (As := [.int x]) (rest := []) hx hb hml hl.1 ht hown hK hH hS (c_dries0 l D G Z τ σ i x hG hi) tw_465 tw_462 tw_455 tw_379 tw_453 tw_52 ⟨by decide, by decide +kernel⟩ hc hk ⟨rfl, rfl⟩ ⟨Nat.le_of_ble_eq_true rfl, Nat.le_of_ble_eq_true rfl⟩ rfl rfl (Nat.le_of_ble_eq_true rfl) dX2_dries_2 ⟨Nat.le_of_ble_eq_true rfl, Nat.le_of_ble_eq_true rfl⟩ (hk_ea (fun H locs hH hS => ?_))
  refine lv_istore_n (lv' := [(2, .int (F_dries0 i x)), (0, .ref (G.1 (.inl (12, i)))), (1, .int x)]) hx hb dX2_dries_5 rfl hl (by decide) rfl (fun ls hl => ?_)
  refine lv_iload_n hx hb dX2_dries_6 rfl (lv_at hl 2 rfl) ?_
  refine lv_bipush (v := 40) hx hb dX2_dries_7 (by decide) ?_
  refine lv_icmp_lt (tgt := 18) hx hb dX2_dries_9 (by decide) (fun c_1 => ?_) (fun c_1 => ?_)
  · refine lv_iload_n hx hb dX2_dries_18 rfl (lv_at hl 0 rfl) ?_
    exact hk_iret hx hb hr hlocks hH hS ⟨(by simp only [F_dries1, if_pos c_1]), rfl, rfl⟩ dX2_dries_19
  · refine lv_iload_n hx hb dX2_dries_12 rfl (lv_at hl 0 rfl) ?_
    refine lv_iconst (v := 3) hx hb dX2_dries_13 (by decide) ?_
    refine lv_iadd hx hb dX2_dries_14 ?_
    refine lv_goto (tgt := 19) hx hb dX2_dries_15 (by decide) ?_
    exact hk_iret hx hb hr hlocks hH hS ⟨(by simp only [F_dries1, if_neg c_1]), rfl, rfl⟩ dX2_dries_19
def F_marks1 (i : Nat) : Int32 := (F_marks0 i) + 10
set_option maxHeartbeats 4000000 in
set_option maxRecDepth 100000 in
theorem c_marks1 (l : Launch) (D : hk_D) (G : hk_G) (Z : hk_Z) (τ σ : hk_v) (i : Nat) (hG : hk_Y D G Z) (hi : i < Z.1 2) (ci : Nat) (C : String) (T : u_T) (N : Nat) (ty : Nat → FieldType) (hc : hk_cls ci C T N ty) (hk : G.2.1 (.inl (12, i)) = some (.inl ci)) : Met l yX2_marks (hk_ws yX2_marks cX2_marks 1 (some FieldType.int)) ({ frames := 1, cells := 0, slots := 0, locals := 20 }) (hk_P D G (hk_cm τ σ) [.ref (G.1 (.inl (12, i)))]) (hk_Q D (hk_e G (some (.int (F_marks1 i))) (hk_cm τ σ))) 0 0 (hk_A D) := by
  refine hk_met (by decide +kernel) (Nat.le_of_ble_eq_true rfl) (fun p e s m below meth c hx hb hr hml hlocks ht hown hin hK hH hS ls hl => ?_)
  have hl : lv_has ls 1 [(0, .ref (G.1 (.inl (12, i))))] := hl
  refine lv_aload_n hx hb dX2_marks_0 rfl (lv_at hl 0 rfl) ?_
  refine hk_cSU (n := 0) (L := (.inl (12, i))) (As := []) (rest := []) hx hb hml hl.1 ht hown hK hH hS (c_marks0 l D G Z τ σ i hG hi) tw_451 tw_449 tw_442 tw_379 tw_440 tw_52 ⟨by decide, by decide +kernel⟩ hc hk ⟨rfl, rfl⟩ ⟨Nat.le_of_ble_eq_true rfl, Nat.le_of_ble_eq_true rfl⟩ rfl rfl (Nat.le_of_ble_eq_true rfl) dX2_marks_1 ⟨Nat.le_of_ble_eq_true rfl, Nat.le_of_ble_eq_true rfl⟩ (hk_ea (fun H locs hH hS => ?_))
  refine lv_bipush (v := 10) hx hb dX2_marks_4 (by decide) ?_
  refine lv_iadd hx hb dX2_marks_6 ?_
  exact hk_iret hx hb hr hlocks hH hS ⟨(by simp only [F_marks1]), rfl, rfl⟩ dX2_marks_7
def F_dries2 (i : Nat) (x : Int32) : Int32 := if 40 < (2 * (F_dries1 i x)) then 40 else (2 * (F_dries1 i x))
set_option maxHeartbeats 4000000 in
set_option maxRecDepth 100000 in
theorem c_dries2 (l : Launch) (D : hk_D) (G : hk_G) (Z : hk_Z) (τ σ : hk_v) (i : Nat) (x : Int32) (hG : hk_Y D G Z) (hi : i < Z.1 2) (ci : Nat) (C : String) (T : u_T) (N : Nat) (ty : Nat → FieldType) (hc : hk_cls ci C T N ty) (hk : G.2.1 (.inl (12, i)) = some (.inl ci)) : Met l yX1_dries (hk_ws yX1_dries cX1_dries 2 (some FieldType.int)) ({ frames := 2, cells := 0, slots := 0, locals := 43 }) (hk_P D G (hk_cm τ σ) [.ref (G.1 (.inl (12, i))), .int x]) (hk_Q D (hk_e G (some (.int (F_dries2 i x))) (hk_cm τ σ))) 0 0 (hk_A D) := by
  refine hk_met (by decide +kernel) (Nat.le_of_ble_eq_true rfl) (fun p e s m below meth c hx hb hr hml hlocks ht hown hin hK hH hS ls hl => ?_)
  have hl : lv_has ls 2 [(0, .ref (G.1 (.inl (12, i)))), (1, .int x)] := hl
  refine lv_iconst (v := 2) hx hb dX1_dries_0 (by decide) ?_
  refine lv_aload_n hx hb dX1_dries_1 rfl (lv_at hl 0 rfl) ?_
  refine lv_iload_n hx hb dX1_dries_2 rfl (lv_at hl 1 rfl) ?_
  refine hk_cSU (n := 1) (L := (.inl (12, i))) (As := [.int x]) (rest := [.int 2]) hx hb hml hl.1 ht hown hK hH hS (c_dries1 l D G Z τ σ i x hG hi ci C T N ty hc hk) tw_461 tw_459 tw_961 tw_386 tw_460 tw_53 ⟨by decide, by decide +kernel⟩ hc hk ⟨rfl, rfl⟩ ⟨Nat.le_of_ble_eq_true rfl, Nat.le_of_ble_eq_true rfl⟩ rfl rfl (Nat.le_of_ble_eq_true rfl) dX1_dries_3 ⟨Nat.le_of_ble_eq_true rfl, Nat.le_of_ble_eq_true rfl⟩ (hk_ea (fun H locs hH hS => ?_))
  refine lv_imul hx hb dX1_dries_6 ?_
  refine lv_bipush (v := 40) hx hb dX1_dries_7 (by decide) ?_
  refine va_mmin hx hb (hml.trans hl.1.symm) hown (ht _ tw_463) (ht _ tw_293) (ht _ tw_45) (ht _ tw_294) (Nat.le_of_ble_eq_true rfl) (Nat.le_of_ble_eq_true rfl) (Nat.zero_le _) (Nat.zero_le _) dX1_dries_9 ?_
  exact hk_iret hx hb hr hlocks hH hS ⟨(by simp only [F_dries2]), rfl, rfl⟩ dX1_dries_12
def F_marks2 (i : Nat) : Int32 := (F_marks1 i) + 100
set_option maxHeartbeats 4000000 in
set_option maxRecDepth 100000 in
theorem c_marks2 (l : Launch) (D : hk_D) (G : hk_G) (Z : hk_Z) (τ σ : hk_v) (i : Nat) (hG : hk_Y D G Z) (hi : i < Z.1 2) (ci : Nat) (C : String) (T : u_T) (N : Nat) (ty : Nat → FieldType) (hc : hk_cls ci C T N ty) (hk : G.2.1 (.inl (12, i)) = some (.inl ci)) : Met l yX1_marks (hk_ws yX1_marks cX1_marks 1 (some FieldType.int)) ({ frames := 2, cells := 0, slots := 0, locals := 40 }) (hk_P D G (hk_cm τ σ) [.ref (G.1 (.inl (12, i)))]) (hk_Q D (hk_e G (some (.int (F_marks2 i))) (hk_cm τ σ))) 0 0 (hk_A D) := by
  refine hk_met (by decide +kernel) (Nat.le_of_ble_eq_true rfl) (fun p e s m below meth c hx hb hr hml hlocks ht hown hin hK hH hS ls hl => ?_)
  have hl : lv_has ls 1 [(0, .ref (G.1 (.inl (12, i))))] := hl
  refine lv_aload_n hx hb dX1_marks_0 rfl (lv_at hl 0 rfl) ?_
  refine hk_cSU (n := 0) (L := (.inl (12, i))) (As := []) (rest := []) hx hb hml hl.1 ht hown hK hH hS (c_marks1 l D G Z τ σ i hG hi ci C T N ty hc hk) tw_448 tw_446 tw_960 tw_386 tw_447 tw_53 ⟨by decide, by decide +kernel⟩ hc hk ⟨rfl, rfl⟩ ⟨Nat.le_of_ble_eq_true rfl, Nat.le_of_ble_eq_true rfl⟩ rfl rfl (Nat.le_of_ble_eq_true rfl) dX1_marks_1 ⟨Nat.le_of_ble_eq_true rfl, Nat.le_of_ble_eq_true rfl⟩ (hk_ea (fun H locs hH hS => ?_))
  refine lv_bipush (v := 100) hx hb dX1_marks_4 (by decide) ?_
  refine lv_iadd hx hb dX1_marks_6 ?_
  exact hk_iret hx hb hr hlocks hH hS ⟨(by simp only [F_marks2]), rfl, rfl⟩ dX1_marks_7
def hk_dries (c i : Nat) (x : Int32) : Int32 := if c = 9 then F_dries0 i x else if c = 3 then F_dries1 i x else F_dries2 i x
set_option maxHeartbeats 4000000 in
theorem hk_vdries {p : Program} {l : Launch} {e : Env} {R : Room} {s : State} {m : MethodId} {args : Array Value} {below : List Frame} {meth : Method} {c : Code} {H : Heap} {locs : List Loc} {Q : State → Prop} {cells slots : Nat} {cc : ByteArray} {pc nL index : Nat} {ls : Array Slot} {rest : List Value} {D : hk_D} {G : hk_G} {Z : hk_Z} {τ σ : hk_v} {own : String} {i : Nat} {x : Int32} (hG : hk_Y D G Z) (hi : i < Z.1 2) (hexec : p.tables.exec = Jvm.exec) (hb : c.code = cc) (hml : c.maxLocals = nL) (hlz : ls.size = nL) (ht : ∀ w ∈ lw_tg, w.before args s = true) (hown : s.vm.findClass own = some m.cls) (hK : hk_K D s) (hH : hk_H D G (hk_cm τ σ) H) (hS : va_S (hk_A D) s.heap H locs) (hl : Cond.methodLink own index yX8_dries ∈ lw_tg) (hR : 3 ≤ R.frames ∧ 64 ≤ R.locals) (hr : (rest.map fun v => v.category).sum ≤ 8) (hcs : cells ≤ R.cells ∧ slots ≤ R.slots) (hdg : decode cc pc = .ok (.invokevirtual index, 3))
    (kk : ∀ (H1 : Heap) (locs1 : List Loc), hk_H D G (hk_cm τ σ) H1 → va_S (hk_A D) s.heap H1 locs1 → W p l e R s m args below meth c H1 locs1 cells slots Q (F0 m (pc + 3) ls (.int (hk_dries (Z.2.1 i) i x) :: rest))) : W p l e R s m args below meth c H locs cells slots Q (F0 m pc ls (.int x :: .ref (G.1 (.inl (12, i))) :: rest)) := by
  rcases hG.kn i hi with h | h | h
  · refine hk_cO (n := 1) (L := (.inl (12, i))) (As := [.int x]) (rest := rest) hexec hb hml hlz ht hown hK hH hS (c_dries0 l D G Z τ σ i x hG hi) tw_465 hl tw_455 tw_453 tw_454 tw_453 tw_52 tw_465 ⟨by decide, by decide, by decide +kernel⟩ kc_9 (by rw [hG.k12 i hi, h]) ⟨rfl, rfl⟩ ⟨Nat.le_trans (Nat.le_of_ble_eq_true rfl) hR.1, Nat.le_trans (Nat.le_of_ble_eq_true rfl) hR.2⟩ rfl rfl hr hdg hcs (hk_ea (fun H locs hH hS => ?_))
    have h2 := kk H locs hH hS
    rw [h] at h2
    exact h2
  · refine hk_cO (n := 1) (L := (.inl (12, i))) (As := [.int x]) (rest := rest) hexec hb hml hlz ht hown hK hH hS (c_dries1 l D G Z τ σ i x hG hi 3 _ _ _ _ kc_3 (by rw [hG.k12 i hi, h])) tw_461 hl tw_455 tw_453 tw_464 tw_460 tw_53 tw_465 ⟨by decide, by decide, by decide +kernel⟩ kc_3 (by rw [hG.k12 i hi, h]) ⟨rfl, rfl⟩ ⟨Nat.le_trans (Nat.le_of_ble_eq_true rfl) hR.1, Nat.le_trans (Nat.le_of_ble_eq_true rfl) hR.2⟩ rfl rfl hr hdg hcs (hk_ea (fun H locs hH hS => ?_))
    have h2 := kk H locs hH hS
    rw [h] at h2
    exact h2
  · refine hk_cO (n := 1) (L := (.inl (12, i))) (As := [.int x]) (rest := rest) hexec hb hml hlz ht hown hK hH hS (c_dries2 l D G Z τ σ i x hG hi 2 _ _ _ _ kc_2 (by rw [hG.k12 i hi, h])) tw_458 hl tw_455 tw_453 tw_456 tw_457 tw_54 tw_465 ⟨by decide, by decide, by decide +kernel⟩ kc_2 (by rw [hG.k12 i hi, h]) ⟨rfl, rfl⟩ ⟨Nat.le_trans (Nat.le_of_ble_eq_true rfl) hR.1, Nat.le_trans (Nat.le_of_ble_eq_true rfl) hR.2⟩ rfl rfl hr hdg hcs (hk_ea (fun H locs hH hS => ?_))
    have h2 := kk H locs hH hS
    rw [h] at h2
    exact h2
def hk_marks (c i : Nat) : Int32 := if c = 9 then F_marks0 i else if c = 3 then F_marks1 i else F_marks2 i
set_option maxHeartbeats 4000000 in
theorem hk_vmarks {p : Program} {l : Launch} {e : Env} {R : Room} {s : State} {m : MethodId} {args : Array Value} {below : List Frame} {meth : Method} {c : Code} {H : Heap} {locs : List Loc} {Q : State → Prop} {cells slots : Nat} {cc : ByteArray} {pc nL index : Nat} {ls : Array Slot} {rest : List Value} {D : hk_D} {G : hk_G} {Z : hk_Z} {τ σ : hk_v} {own : String} {i : Nat} (hG : hk_Y D G Z) (hi : i < Z.1 2) (hexec : p.tables.exec = Jvm.exec) (hb : c.code = cc) (hml : c.maxLocals = nL) (hlz : ls.size = nL) (ht : ∀ w ∈ lw_tg, w.before args s = true) (hown : s.vm.findClass own = some m.cls) (hK : hk_K D s) (hH : hk_H D G (hk_cm τ σ) H) (hS : va_S (hk_A D) s.heap H locs) (hl : Cond.methodLink own index yX8_marks ∈ lw_tg) (hR : 3 ≤ R.frames ∧ 60 ≤ R.locals) (hr : (rest.map fun v => v.category).sum ≤ 8) (hcs : cells ≤ R.cells ∧ slots ≤ R.slots) (hdg : decode cc pc = .ok (.invokevirtual index, 3))
    (kk : ∀ (H1 : Heap) (locs1 : List Loc), hk_H D G (hk_cm τ σ) H1 → va_S (hk_A D) s.heap H1 locs1 → W p l e R s m args below meth c H1 locs1 cells slots Q (F0 m (pc + 3) ls (.int (hk_marks (Z.2.1 i) i) :: rest))) : W p l e R s m args below meth c H locs cells slots Q (F0 m pc ls (.ref (G.1 (.inl (12, i))) :: rest)) := by
  rcases hG.kn i hi with h | h | h
  · refine hk_cO (n := 0) (L := (.inl (12, i))) (As := []) (rest := rest) hexec hb hml hlz ht hown hK hH hS (c_marks0 l D G Z τ σ i hG hi) tw_451 hl tw_442 tw_440 tw_441 tw_440 tw_52 tw_451 ⟨by decide, by decide, by decide +kernel⟩ kc_9 (by rw [hG.k12 i hi, h]) ⟨rfl, rfl⟩ ⟨Nat.le_trans (Nat.le_of_ble_eq_true rfl) hR.1, Nat.le_trans (Nat.le_of_ble_eq_true rfl) hR.2⟩ rfl rfl hr hdg hcs (hk_ea (fun H locs hH hS => ?_))
    have h2 := kk H locs hH hS
    rw [h] at h2
    exact h2
  · refine hk_cO (n := 0) (L := (.inl (12, i))) (As := []) (rest := rest) hexec hb hml hlz ht hown hK hH hS (c_marks1 l D G Z τ σ i hG hi 3 _ _ _ _ kc_3 (by rw [hG.k12 i hi, h])) tw_448 hl tw_442 tw_440 tw_450 tw_447 tw_53 tw_451 ⟨by decide, by decide, by decide +kernel⟩ kc_3 (by rw [hG.k12 i hi, h]) ⟨rfl, rfl⟩ ⟨Nat.le_trans (Nat.le_of_ble_eq_true rfl) hR.1, Nat.le_trans (Nat.le_of_ble_eq_true rfl) hR.2⟩ rfl rfl hr hdg hcs (hk_ea (fun H locs hH hS => ?_))
    have h2 := kk H locs hH hS
    rw [h] at h2
    exact h2
  · refine hk_cO (n := 0) (L := (.inl (12, i))) (As := []) (rest := rest) hexec hb hml hlz ht hown hK hH hS (c_marks2 l D G Z τ σ i hG hi 2 _ _ _ _ kc_2 (by rw [hG.k12 i hi, h])) tw_445 hl tw_442 tw_440 tw_443 tw_444 tw_54 tw_451 ⟨by decide, by decide, by decide +kernel⟩ kc_2 (by rw [hG.k12 i hi, h]) ⟨rfl, rfl⟩ ⟨Nat.le_trans (Nat.le_of_ble_eq_true rfl) hR.1, Nat.le_trans (Nat.le_of_ble_eq_true rfl) hR.2⟩ rfl rfl hr hdg hcs (hk_ea (fun H locs hH hS => ?_))
    have h2 := kk H locs hH hS
    rw [h] at h2
    exact h2
def F_bears (Z : hk_Z) (τ : hk_v) (i : Nat) : Int32 := (if 0 < (hk_dries (Z.2.1 i) i (τ (11, i) 7)) then (τ (11, i) 1) / (if (((60 + (hk_dries (Z.2.1 i) i (τ (11, i) 7))) - 1) / (hk_dries (Z.2.1 i) i (τ (11, i) 7))) < 1 then 1 else (((60 + (hk_dries (Z.2.1 i) i (τ (11, i) 7))) - 1) / (hk_dries (Z.2.1 i) i (τ (11, i) 7)))) else 0)
set_option maxHeartbeats 4000000 in
set_option maxRecDepth 100000 in
theorem c_bears (l : Launch) (D : hk_D) (G : hk_G) (Z : hk_Z) (τ σ : hk_v) (i : Nat) (hG : hk_Y D G Z) (hi : i < Z.1 2) : Met l yX6_bears (hk_ws yX6_bears cX6_bears 3 (some FieldType.int)) ({ frames := 3, cells := 0, slots := 0, locals := 64 }) (hk_P D G (hk_cm τ σ) [.ref (G.1 (.inl (11, i)))]) (hk_Q D (hk_e G (some (.int (F_bears Z τ i))) (hk_cm τ σ))) 0 0 (hk_A D) := by
  refine hk_met (by decide +kernel) (Nat.le_of_ble_eq_true rfl) (fun p e s m below meth c hx hb hr hml hlocks ht hown hin hK hH hS ls hl => ?_)
  have hl : lv_has ls 3 [(0, .ref (G.1 (.inl (11, i))))] := hl
  refine lv_aload_n hx hb dX6_bears_0 rfl (lv_at hl 0 rfl) ?_
  refine hk_getr (L := (.inl (11, i))) (v := .ref (G.1 (.inl (12, i)))) hx hb ht hown hK hH kc_7 (hG.k11 i hi) 0 (by decide) rfl tw_395 rfl (hG.r11_0 i hi) dX6_bears_1 ?_
  refine lv_aload_n hx hb dX6_bears_4 rfl (lv_at hl 0 rfl) ?_
  refine hk_geti (L := (.inl (11, i))) (v := τ (11, i) 7) hx hb ht hown hK hH kc_7 (hG.k11 i hi) 7 (by decide) rfl tw_408 rfl rfl dX6_bears_5 ?_
  refine hk_vdries (i := i) hG hi hx hb hml hl.1 ht hown hK hH hS tw_649 ⟨Nat.le_of_ble_eq_true rfl, Nat.le_of_ble_eq_true rfl⟩ (Nat.le_of_ble_eq_true rfl) ⟨Nat.zero_le _, Nat.zero_le _⟩ dX6_bears_8 (fun H locs hH hS => ?_)
  refine lv_istore_n (lv' := [(1, .int (hk_dries (Z.2.1 i) i (τ (11, i) 7))), (0, .ref (G.1 (.inl (11, i))))]) hx hb dX6_bears_11 rfl hl (by decide) rfl (fun ls hl => ?_)
  refine lv_iload_n hx hb dX6_bears_12 rfl (lv_at hl 0 rfl) ?_
  refine lv_if_gt (tgt := 18) hx hb dX6_bears_13 (by decide) (fun c_1 => ?_) (fun c_1 => ?_)
  · refine lv_bipush (v := 60) hx hb dX6_bears_18 (by decide) ?_
    refine lv_iload_n hx hb dX6_bears_20 rfl (lv_at hl 0 rfl) ?_
    refine lv_iadd hx hb dX6_bears_21 ?_
    refine lv_iconst (v := 1) hx hb dX6_bears_22 (by decide) ?_
    refine lv_isub hx hb dX6_bears_23 ?_
    refine lv_iload_n hx hb dX6_bears_24 rfl (lv_at hl 0 rfl) ?_
    refine lv_idiv hx hb dX6_bears_25 (fun q => by rw [q] at c_1; exact absurd c_1 (by decide)) ?_
    refine lv_istore_n (lv' := [(2, .int (((60 + (hk_dries (Z.2.1 i) i (τ (11, i) 7))) - 1) / (hk_dries (Z.2.1 i) i (τ (11, i) 7)))), (1, .int (hk_dries (Z.2.1 i) i (τ (11, i) 7))), (0, .ref (G.1 (.inl (11, i))))]) hx hb dX6_bears_26 rfl hl (by decide) rfl (fun ls hl => ?_)
    refine lv_aload_n hx hb dX6_bears_27 rfl (lv_at hl 2 rfl) ?_
    refine hk_geti (L := (.inl (11, i))) (v := τ (11, i) 1) hx hb ht hown hK hH kc_7 (hG.k11 i hi) 1 (by decide) rfl tw_397 rfl rfl dX6_bears_28 ?_
    refine lv_iload_n hx hb dX6_bears_31 rfl (lv_at hl 0 rfl) ?_
    refine lv_iconst (v := 1) hx hb dX6_bears_32 (by decide) ?_
    refine va_mmax hx hb (hml.trans hl.1.symm) hown (ht _ tw_650) (ht _ tw_260) (ht _ tw_45) (ht _ tw_261) (Nat.le_of_ble_eq_true rfl) (Nat.le_of_ble_eq_true rfl) (Nat.zero_le _) (Nat.zero_le _) dX6_bears_33 ?_
    refine lv_idiv hx hb dX6_bears_36 (hk_max1 _) ?_
    exact hk_iret hx hb hr hlocks hH hS ⟨(by simp only [F_bears, if_pos c_1]), rfl, rfl⟩ dX6_bears_37
  · refine lv_iconst (v := 0) hx hb dX6_bears_16 (by decide) ?_
    exact hk_iret hx hb hr hlocks hH hS ⟨(by simp only [F_bears, if_neg c_1]), rfl, rfl⟩ dX6_bears_17
