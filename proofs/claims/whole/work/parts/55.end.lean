theorem ymI_X10_init : hk_mI yX10_init cX10_init 1 0 := ⟨tw_59, tw_58, tw_34, rfl, by decide, by decide, by decide +kernel⟩
theorem ymI_X11_init : hk_mI yX11_init cX11_init 1 0 := ⟨tw_690, tw_689, tw_42, rfl, by decide, by decide, by decide +kernel⟩
set_option maxHeartbeats 4000000 in
set_option maxRecDepth 100000 in
theorem law_loop {p : Program} {e : Env} {s : State} {m : MethodId} {below : List Frame} {meth : Method} {c : Code} (l : Launch) {b L : Nat} {xs : Nat → Int32} (C0 : lw_At p s m meth c b L xs) {D : hk_D} (hK : hk_K D s) (hDz : D.2.1 = s.heap.size) (hL : L ≤ 2048) {ax am : Nat} : ∀ (n i : Nat) (G : hk_G) (Z : hk_Z) (τ σ : hk_v) (nw w : Nat) (x : Int64) (H : Heap) (locs : List Loc) (cells slots : Nat) (ls : Array Slot), L < i + 4 * n → i ≤ L → lw_J D ax am G Z τ σ nw w x → hk_H D G (hk_cm τ σ) H → va_S (hk_A D) s.heap H locs → cells ≤ 1000 + 5 * i → slots ≤ 20000 + 418 * i → lv_has ls 4 [(3, .int (nI i)), (2, .ref am), (1, .ref ax), (0, .ref b)] → W p l e room_1 s m #[Value.ref b] below meth c H locs cells slots (lw_Z below #[Value.ref b] s) (F0 m 18 ls [])
  | 0, i, G, Z, τ, σ, nw, w, x, H, locs, cells, slots, ls, hn, hiL, hJ, hH, hS, hce, hsl, hl => by omega
  | n + 1, i, G, Z, τ, σ, nw, w, x, H, locs, cells, slots, ls, hn, hiL, hJ, hH, hS, hce, hsl, hl => by
    obtain ⟨hx, hb, hr, hml, hown, hts, hX, hbl, hlocks, hgv⟩ := id C0
    have hbA : ¬ hk_A D b := by show ¬ D.2.1 ≤ b; omega
    refine lv_iload_n hx hb dL_law_18 rfl (lv_at hl 0 rfl) ?_
    refine lv_aload_n hx hb dL_law_19 rfl (lv_at hl 3 rfl) ?_
    refine va_slen (A := hk_A D) hx hb hX hbl hbA hS dL_law_20 ?_
    refine lv_iconst (v := 4) hx hb dL_law_21 (by decide) ?_
    refine lv_isub hx hb dL_law_22 ?_
    refine lv_icmp_gt (tgt := 742) hx hb dL_law_23 (by decide) (fun _ => ?_) (fun hc => ?_)
    · refine lv_iconst (v := 1) hx hb dL_law_742 (by decide) ?_
      refine va_forget (fun q hq => ?_) ?_
      · have := hS.2.2 q hq
        rw [← hDz]
        exact this
      · refine W.widen (k := 600000) (n := 7302250) (by omega) (by omega) ?_
        exact lw_ret hx hb hr hlocks dL_law_743
    · have hi : i + 4 ≤ L := by
        refine Classical.byContradiction (fun z => hc ?_)
        show Int32.ofNat L - 4 < nI i
        rw [Int32.lt_iff_toInt_lt, nI_toInt (by omega), show Int32.ofNat L - 4 = nI L - nI 4 from rfl, pk_sub_toInt (by omega) (by omega)]
        omega
      have K : ∀ (G : hk_G) (Z : hk_Z) (τ σ : hk_v) (nw w : Nat) (x : Int64) (H : Heap) (locs : List Loc) (ce sl : Nat), lw_J D ax am G Z τ σ nw w x → hk_H D G (hk_cm τ σ) H → va_S (hk_A D) s.heap H locs → ce ≤ cells + 5 → sl ≤ slots + 418 → W p l e room_1 s m #[Value.ref b] below meth c H locs ce sl (lw_Z below #[Value.ref b] s) (F0 m 736 ls []) := fun G Z τ σ nw w x H locs ce sl hJ hH hS h1 h2 => by
        refine lv_iinc (k := 0) (v := nI (i + 4)) (lv' := [(3, .int (nI (i + 4))), (2, .ref am), (1, .ref ax), (0, .ref b)]) hx hb dL_law_736 hl rfl (nI_add i 4) (by decide) rfl (fun ls hl => ?_)
        refine lv_goto (tgt := 18) hx hb dL_law_739 (by decide) ?_
        exact law_loop l C0 hK hDz hL n (i + 4) G Z τ σ nw w x H locs ce sl ls (by omega) hi hJ hH hS (by omega) (by omega) hl
      refine lv_aload_n hx hb dL_law_26 rfl (lv_at hl 3 rfl) ?_
      refine lv_iload_n hx hb dL_law_27 rfl (lv_at hl 0 rfl) ?_
      refine va_sld (A := hk_A D) hx hb hX hbl hbA hS (vp_in_nI (show i < L by omega) (by omega)) dL_law_28 ?_
      refine lv_bipush (v := 31) hx hb dL_law_29 (by decide) ?_
      refine lv_iand hx hb dL_law_31 ?_
      obtain ⟨j, hj, ej⟩ := pk_andE (xs (nI i).toNatClampNeg) (m := 31) 5 (by decide)
      rw [ej]
      rcases (show j = 0 ∨ j = 1 ∨ j = 2 ∨ j = 3 ∨ j = 4 ∨ j = 5 ∨ j = 6 ∨ j = 7 ∨ j = 8 ∨ j = 9 ∨ j = 10 ∨ j = 11 ∨ j = 12 ∨ j = 13 ∨ j = 14 ∨ j = 15 ∨ j = 16 ∨ j = 17 ∨ j = 18 ∨ j = 19 ∨ j = 20 ∨ 21 ≤ j by omega) with rfl | rfl | rfl | rfl | rfl | rfl | rfl | rfl | rfl | rfl | rfl | rfl | rfl | rfl | rfl | rfl | rfl | rfl | rfl | rfl | rfl | hj2
      · refine lv_tableIn (off := 100) (tgt := 132) hx hb dL_law_32 (by decide) (by decide) (by decide) (by decide) ?_
        exact law_c0 l C0 hK hDz hJ hH hS hl hi hL (by omega) (by omega) K
      · refine lv_tableIn (off := 143) (tgt := 175) hx hb dL_law_32 (by decide) (by decide) (by decide) (by decide) ?_
        exact law_c1 l C0 hK hDz hJ hH hS hl hi hL (by omega) (by omega) K
      · refine lv_tableIn (off := 176) (tgt := 208) hx hb dL_law_32 (by decide) (by decide) (by decide) (by decide) ?_
        exact law_c2 l C0 hK hDz hJ hH hS hl hi hL (by omega) (by omega) K
      · refine lv_tableIn (off := 209) (tgt := 241) hx hb dL_law_32 (by decide) (by decide) (by decide) (by decide) ?_
        exact law_c3 l C0 hK hDz hJ hH hS hl hi hL (by omega) (by omega) K
      · refine lv_tableIn (off := 242) (tgt := 274) hx hb dL_law_32 (by decide) (by decide) (by decide) (by decide) ?_
        exact law_c4 l C0 hK hDz hJ hH hS hl hi hL (by omega) (by omega) K
      · refine lv_tableIn (off := 275) (tgt := 307) hx hb dL_law_32 (by decide) (by decide) (by decide) (by decide) ?_
        exact law_c5 l C0 hK hDz hJ hH hS hl hi hL (by omega) (by omega) K
      · refine lv_tableIn (off := 308) (tgt := 340) hx hb dL_law_32 (by decide) (by decide) (by decide) (by decide) ?_
        exact law_c6 l C0 hK hDz hJ hH hS hl hi hL (by omega) (by omega) K
      · refine lv_tableIn (off := 331) (tgt := 363) hx hb dL_law_32 (by decide) (by decide) (by decide) (by decide) ?_
        exact law_c7 l C0 hK hDz hJ hH hS hl hi hL (by omega) (by omega) K
      · refine lv_tableIn (off := 354) (tgt := 386) hx hb dL_law_32 (by decide) (by decide) (by decide) (by decide) ?_
        exact law_c8 l C0 hK hDz hJ hH hS hl hi hL (by omega) (by omega) K
      · refine lv_tableIn (off := 387) (tgt := 419) hx hb dL_law_32 (by decide) (by decide) (by decide) (by decide) ?_
        exact law_c9 l C0 hK hDz hJ hH hS hl hi hL (by omega) (by omega) K
      · refine lv_tableIn (off := 420) (tgt := 452) hx hb dL_law_32 (by decide) (by decide) (by decide) (by decide) ?_
        exact law_c10 l C0 hK hDz hJ hH hS hl hi hL (by omega) (by omega) K
      · refine lv_tableIn (off := 453) (tgt := 485) hx hb dL_law_32 (by decide) (by decide) (by decide) (by decide) ?_
        exact law_c11 l C0 hK hDz hJ hH hS hl hi hL (by omega) (by omega) K
      · refine lv_tableIn (off := 476) (tgt := 508) hx hb dL_law_32 (by decide) (by decide) (by decide) (by decide) ?_
        exact law_c12 l C0 hK hDz hJ hH hS hl hi hL (by omega) (by omega) K
      · refine lv_tableIn (off := 509) (tgt := 541) hx hb dL_law_32 (by decide) (by decide) (by decide) (by decide) ?_
        exact law_c13 l C0 hK hDz hJ hH hS hl hi hL (by omega) (by omega) K
      · refine lv_tableIn (off := 532) (tgt := 564) hx hb dL_law_32 (by decide) (by decide) (by decide) (by decide) ?_
        exact law_c14 l C0 hK hDz hJ hH hS hl hi hL (by omega) (by omega) K
      · refine lv_tableIn (off := 565) (tgt := 597) hx hb dL_law_32 (by decide) (by decide) (by decide) (by decide) ?_
        exact law_c15 l C0 hK hDz hJ hH hS hl hi hL (by omega) (by omega) K
      · refine lv_tableIn (off := 588) (tgt := 620) hx hb dL_law_32 (by decide) (by decide) (by decide) (by decide) ?_
        exact law_c16 l C0 hK hDz hJ hH hS hl hi hL (by omega) (by omega) K
      · refine lv_tableIn (off := 621) (tgt := 653) hx hb dL_law_32 (by decide) (by decide) (by decide) (by decide) ?_
        exact law_c17 l C0 hK hDz hJ hH hS hl hi hL (by omega) (by omega) K
      · refine lv_tableIn (off := 644) (tgt := 676) hx hb dL_law_32 (by decide) (by decide) (by decide) (by decide) ?_
        exact law_c18 l C0 hK hDz hJ hH hS hl hi hL (by omega) (by omega) K
      · refine lv_tableIn (off := 657) (tgt := 689) hx hb dL_law_32 (by decide) (by decide) (by decide) (by decide) ?_
        exact law_c19 l C0 hK hDz hJ hH hS hl hi hL (by omega) (by omega) K
      · refine lv_tableIn (off := 690) (tgt := 722) hx hb dL_law_32 (by decide) (by decide) (by decide) (by decide) ?_
        exact law_c20 l C0 hK hDz hJ hH hS hl hi hL (by omega) (by omega) K
      · refine lv_tableOut (tgt := 736) hx hb dL_law_32 (Or.inr (by rw [nI_toInt (by omega)]; omega)) (by decide) ?_
        exact K G Z τ σ nw w x H locs cells slots hJ hH hS (by omega) (by omega)
set_option maxHeartbeats 4000000 in
theorem whole_start {p : Program} {e : Env} {s : State} {m : MethodId} {below : List Frame} {meth : Method} {c : Code} (l : Launch) {b L : Nat} {xs : Nat → Int32} (hL : L ≤ 2048) (C0 : lw_At p s m meth c b L xs) : W p l e room_1 s m #[Value.ref b] below meth c s.heap [] 0 0 (lw_Z below #[Value.ref b] s) (entryFrame m ([Value.ref b] : List Value).toArray 4) := by
  obtain ⟨hx, hb, hr, hml, hown, hts, hX, hbl, hlocks, hgv⟩ := id C0
  have ht : ∀ w ∈ lw_tg, w.before #[Value.ref b] s = true := fun w h => hts w (List.mem_filter.mp h).1
  have hown : s.vm.findClass RL = some m.cls := hown
  obtain ⟨D, hK, hDz⟩ := lw_K C0
  have hS : va_S (hk_A D) s.heap s.heap [] := va_S.rf
  obtain ⟨G0, hG0⟩ : ∃ g : hk_G, g = (fun _ => 0, (fun _ => none, fun _ _ => .null)) := ⟨_, rfl⟩
  have hG0n : ∀ L, G0.2.1 L = none := fun L => by rw [hG0]
  have hH : hk_H D G0 (hk_cm (fun _ _ => 0) (fun _ _ => 0)) s.heap := ⟨by rw [hDz]; exact Nat.le_refl _, fun L k h => (by rw [hG0n] at h; cases h), fun L L' k k' h => (by rw [hG0n] at h; cases h)⟩
  have hl := lv_entry ([.ref b]) (n := 4) (Nat.le_of_ble_eq_true rfl)
  rw [lg_entry_eq]
  generalize (lg_sl ([.ref b]) ++ List.replicate (4 - (lg_sl ([.ref b])).length) Slot.unset).toArray = ls at hl ⊢
  have hl : lv_has ls 4 [(0, .ref b)] := hl
  refine hk_new (G := G0) (L := (.inl (0, 0))) hx hb ht hown hK hH hS kc_11 (hG0n _) (by decide) tw_55 tw_56 tw_34 ⟨Nat.le_of_ble_eq_true rfl, Nat.le_of_ble_eq_true rfl⟩ dL_law_0 (fun H ax hH hS => ?_)
  rw [hk_zr_l] at hH
  obtain ⟨G1, hG1⟩ : ∃ g, g = hk_add G0 (.inl (0, 0)) ax (.inl 11) (fun j => defaultValue (tyX10 j)) := ⟨_, rfl⟩
  rw [← hG1] at hH
  have ha : G1.1 (.inl (0, 0)) = ax := by rw [hG1, hk_add_1, if_pos rfl]
  have hk : G1.2.1 (.inl (0, 0)) = some (.inl 11) := by rw [hG1, hk_add_2, if_pos rfl]
  have hno : ∀ q, ¬ q = (0, 0) → G1.2.1 (.inl q) = none := fun q hq => by rw [hG1, hk_add_2, if_neg (by simpa using hq), hG0n]
  have hin : ∀ q, G1.2.1 (.inr q) = none := fun q => by rw [hG1, hk_add_2, if_neg (by simp), hG0n]
  refine lv_dup hx hb dL_law_3 rfl ?_
  refine hk_cI (G := G1) (As := []) (rest := [.ref ax]) hx hb hml hl.1 ht hown hK hH hS (c_init l D G1 (hk_zo (fun _ _ => 0) (0, 0)) (fun _ _ => 0) ax ha hk hno) ymI_X10_init tw_57 ⟨rfl, rfl⟩ ⟨Nat.le_of_ble_eq_true rfl, Nat.le_of_ble_eq_true rfl⟩ rfl rfl (Nat.le_of_ble_eq_true rfl) dL_law_4 ⟨Nat.le_of_ble_eq_true rfl, Nat.le_of_ble_eq_true rfl⟩ (fun v G2 iv H locs hP hH hS => ?_)
  obtain ⟨rfl, a1, a4, a7, a10, b11_0, a13, b14_0, b14_1, a16, b17_0, b17_1, a19, b20_0, b20_1, a22, b23_0, b23_1, b23_2, hG2, rfl⟩ := hP
  have hY : hk_Y D G2 hk_Z0 := by rw [hG2]; exact GT_Y ha hk hno
  obtain ⟨hN, h10, hax, hinr⟩ := GT_N (D := D) (a1 := a1) (a4 := a4) (a7 := a7) (a10 := a10) (b11_0 := b11_0) (a13 := a13) (b14_0 := b14_0) (b14_1 := b14_1) (a16 := a16) (b17_0 := b17_0) (b17_1 := b17_1) (a19 := a19) (b20_0 := b20_0) (b20_1 := b20_1) (a22 := a22) (b23_0 := b23_0) (b23_1 := b23_1) (b23_2 := b23_2) ha hk hno
  rw [← hG2] at hN h10 hax hinr
  refine lv_astore_n (lv' := [(1, .ref ax), (0, .ref b)]) hx hb dL_law_7 rfl hl (by decide) rfl (fun ls hl => ?_)
  refine hk_new (G := G2) (L := (.inr (0, 0))) hx hb ht hown hK hH hS kc_12 ((hinr _).2.trans (hin _)) (by decide) tw_686 tw_687 tw_42 ⟨Nat.le_of_ble_eq_true rfl, Nat.le_of_ble_eq_true rfl⟩ dL_law_8 (fun H am hH hS => ?_)
  rw [hk_zr_r] at hH
  obtain ⟨G3, hG3⟩ : ∃ g, g = hk_add G2 (.inr (0, 0)) am (.inl 12) (fun j => defaultValue (tyX11 j)) := ⟨_, rfl⟩
  rw [← hG3] at hH
  have ha3 : G3.1 (.inr (0, 0)) = am := by rw [hG3, hk_add_1, if_pos rfl]
  have hk3 : G3.2.1 (.inr (0, 0)) = some (.inl 12) := by rw [hG3, hk_add_2, if_pos rfl]
  have hno3 : ∀ y, G3.2.1 (.inr (1, y)) = none := fun y => by rw [hG3, hk_add_2, if_neg (by simp)]; exact (hinr _).2.trans (hin _)
  have h35 : G3.2.2 (.inr (0, 0)) 35 = .long 0 := by rw [hG3, hk_add_3, if_pos rfl]; rfl
  refine lv_dup hx hb dL_law_11 rfl ?_
  refine hk_cI (G := G3) (As := []) (rest := [.ref am]) hx hb hml hl.1 ht hown hK hH hS (c_minit l D G3 (T_init (hk_zo (fun _ _ => 0) (0, 0))) (hk_zo (fun _ _ => 0) (0, 0)) am ha3 hk3 hno3 h35) ymI_X11_init tw_688 ⟨rfl, rfl⟩ ⟨Nat.le_of_ble_eq_true rfl, Nat.le_of_ble_eq_true rfl⟩ rfl rfl (Nat.le_of_ble_eq_true rfl) dL_law_12 ⟨Nat.le_of_ble_eq_true rfl, Nat.le_of_ble_eq_true rfl⟩ (fun v G4 iv H locs hP hH hS => ?_)
  obtain ⟨rfl, hq, rfl⟩ := hP
  refine lv_astore_n (lv' := [(2, .ref am), (1, .ref ax), (0, .ref b)]) hx hb dL_law_15 rfl hl (by decide) rfl (fun ls hl => ?_)
  refine lv_iconst (v := 0) hx hb dL_law_16 (by decide) ?_
  refine lv_istore_n (lv' := [(3, .int 0), (2, .ref am), (1, .ref ax), (0, .ref b)]) hx hb dL_law_17 rfl hl (by decide) rfl (fun ls hl => ?_)
  have hE : ∀ q, G4.1 (.inl q) = G2.1 (.inl q) ∧ G4.2.1 (.inl q) = G2.2.1 (.inl q) ∧ ∀ j, G4.2.2 (.inl q) j = G2.2.2 (.inl q) j := fun q => by
    obtain ⟨q1, q2, q3⟩ := hq.2.2.2.2.2 q
    refine ⟨?_, ?_, fun j => ?_⟩
    · rw [q1, hG3, hk_add_1, if_neg (by simp)]
    · rw [q2, hG3, hk_add_2, if_neg (by simp)]
    · rw [q3 j, hG3, hk_add_3, if_neg (by simp)]
  have hJ : lw_J D ax am G4 hk_Z0 (T_init (hk_zo (fun _ _ => 0) (0, 0))) (T_minit (hk_zo (fun _ _ => 0) (0, 0))) 0 10 0 := ⟨⟨hY.cong hE, mi_M hq, by rw [(hE _).2.2 10]; exact h10, hq.2.2.2.2.1, hN.cong (fun q => (hE q).2.1)⟩, rr_first _ _, (hE _).1.trans hax, hq.1⟩
  exact law_loop l C0 hK hDz hL (L + 1) 0 G4 hk_Z0 _ _ 0 10 0 H locs _ _ ls (by omega) (Nat.zero_le _) hJ hH hS (Nat.le_of_ble_eq_true rfl) (Nat.le_of_ble_eq_true rfl) hl
set_option maxHeartbeats 4000000 in
theorem lw_walk (l : Launch) (b : Addr) (xs : List Int32) : MetFree l x (headSpec (Jvm.Cond.code x code maxLocals ret :: tables_1) room_1) (lw_P b xs) (fun _ _ _ _ _ => True) lw_Q := by
  refine MetFree.of_bodyS (code := code) (maxLocals := maxLocals) (ret := ret) (by decide) ?_ ?_
  · intro args s m h hn
    obtain ⟨meth, c, h1, h2, h3, h4, h5, h6, -, -⟩ := Cond.code_spec hn (atoms_spec (ws := Jvm.Cond.code x code maxLocals ret :: tables_1) h _ List.mem_cons_self)
    exact ⟨meth, c, h1, h2, h3, h4, h5, h6⟩
  · intro p e s m args below meth c s₁ B hml0 hP _
    obtain ⟨rfl, hx, hbd, hgv⟩ := hP
    obtain ⟨scr, harrAt, hlist, hof, hsmall⟩ := hx
    obtain ⟨hcb, hkn, -, -⟩ := State.arrayAt?_spec harrAt
    have hown : s.vm.findClass R_law = some m.cls := findClass_of_methodNamed B.named
    have hts0 : ∀ c ∈ (Jvm.Cond.code x code maxLocals ret :: tables_1), c.before #[Value.ref b] s = true := atoms_spec (ws := Jvm.Cond.code x code maxLocals ret :: tables_1) B.pre
    have hts : ∀ w ∈ lw_tbl, w.before #[Value.ref b] s = true := k2_hts_sels lw_privs (fun w hw => hts0 w (List.mem_cons_of_mem _ hw)) lw_privs_ok
    have hml : c.maxLocals = 4 := B.maxLocals_eq (hts0 _ List.mem_cons_self)
    have X₀ : Stand p l e room_1 s m #[Value.ref b] below meth c s₁ [] 0 0 := Stand.of_body B
    have hh0 : s₁.heap = s.heap := by rw [B.state]; rfl
    have hsz : scr.slots.size = xs.length := by rw [← Array.length_toList, hlist, List.length_map]
    have hval : ∀ j : Nat, j < xs.length → scr.slots[j]? = some (.int (xs.getD j 0)) := fun j hj => by
      rw [← Array.getElem?_toList, hlist]
      simp [hj]
    have hbl : b < s.heap.size := (Array.getElem?_eq_some_iff.mp hcb).1
    have hX : va_X b xs.length (fun j => xs.getD j 0) s s.heap := ⟨scr, hcb, hof, hkn, hsz, hval⟩
    have K : W p l e room_1 s m #[Value.ref b] below meth c s₁.heap [] 0 0 (lw_Z below #[Value.ref b] s) (entryFrame m ([Value.ref b] : List Value).toArray 4) := by
      rw [hh0]
      exact whole_start l hbd ⟨B.exec, B.bytes, B.returns, hml, hown, hts, hX, hbl, B.notSynchronized, hgv⟩
    obtain ⟨t, a1, o, b1, b2, b3⟩ := K s₁ rfl X₀
    exact ⟨t, o, a1, b1, b2, b3⟩
theorem lw_pre_spec {args : Array Value} {s : State} (h : (Jvm.Cond.and given_1 narrow_1).before args s = true) (hr : rest_1_c.before args s = true) : ∃ (b : Addr) (xs : List Int32), lw_P b xs args s := by
  have hs := flat_of_before _ h
  have hq := flat_of_before _ hr
  have hc : (Cond.count 1).before args s = true := hs _ (by decide +kernel)
  have harr : (Cond.arrayOf (.arg 0) .int).before args s = true := hs _ (by decide +kernel)
  have hle : (Cond.le (.length (.arg 0)) (.int 2048)).before args s = true := hs _ (by decide +kernel)
  have hlen : (Cond.isInt (.length (.arg 0))).before args s = true := hq _ (by decide +kernel)
  have hall : (Cond.all (.arg 0) (.isInt (.elem (.arg 0) (.index 0)))).before args s = true := hq _ (by decide +kernel)
  obtain ⟨b, xs, hb, hx⟩ := State.ints_of_pre rfl harr hlen hall
  have hsm : xs.length < 2 ^ 31 := hx.choose_spec.2.2.2
  have hev : (Term.length (.arg 0)).eval args s none [] s = some (.int xs.length.toInt32) := hx.length_eval hb
  have hv := Cond.le_ints hev (show (Term.int 2048).eval args s none [] s = some (.int 2048) from rfl)
  have hd : xs.length.toInt32 ≤ 2048 := by
    simpa [Cond.before, Cond.holds, hv] using hle
  have hN : xs.length ≤ 2048 := (Int32.ofNat_le_ofNat hsm (by decide)).mp (show Int32.ofNat xs.length ≤ Int32.ofNat 2048 from hd)
  exact ⟨b, xs, Cond.one_arg hc (show args[0]? = some (.ref b) from hb), hx, hN, h⟩
theorem lw_comes (l : Launch) : Comes l x (Jvm.Cond.code x code maxLocals ret :: tables_1) room_1 (fun tb e args s => Calls_1 tb e args s ∧ rest_1 tb e args s ∧ Pre_1 tb e args s)
    (fun _ _ args s o t => lw_Q args s o t) := by
  intro p e ha hc hk s m args below hf hfit hheap happ hpre
  obtain ⟨b, xs, hP⟩ := lw_pre_spec hpre.2.2 hpre.2.1
  obtain ⟨k, o, h1, h2, h3, hQ⟩ := lw_walk l b xs p e ha hc hk s m args below hf ((Spec.applies_iff_loose hf).mp happ).1 hP trivial
  exact ⟨k, o, h1, h2, h3, hQ⟩
theorem lw_frame {s t : State} {o : Outcome} {args : Array Value} (h : Framed s o t [] 600000 7302250) :
    Framed s o t (fieldLocs frame_1_writes args s ++ arrayLocs frame_1_arrays args s ++ staticLocs frame_1_statics s) 600000 7302250 := h
theorem lw_limb (L : Cond) (hL : ∀ (args : Array Value) (s t : State), L.after args s (.returned (some (.int 1))) t = true) :
    ArmFor flags0 classFile x code maxLocals ret World_1 tables_1 room_1 Calls_1 rest_1 Pre_1
      (fun tb e a s o t => postC L tb e a s o t ∧ Framed s o t (fieldLocs frame_1_writes a s ++ arrayLocs frame_1_arrays a s ++ staticLocs frame_1_statics s) 600000 7302250) := by
  intro l _ _ _ p e ha hc hk s m args below hf hfit hheap happ hpre
  obtain ⟨k, o, h1, h2, h3, rfl, hF⟩ := lw_comes l p e ha hc hk s m args below hf hfit hheap happ hpre
  exact ⟨k, _, h1, h2, h3, hL args s _, lw_frame hF⟩
theorem i_vc : Claimed_1_1 ∧ Claimed_1_2 := ⟨lw_limb limb_1_1 (fun args s t => by simp [limb_1_1, Cond.after, Cond.holds, Cond.value]), lw_limb limb_1_2 (fun args s t => Cond.after_iff.mpr (by
  first | (rw [show limb_1_2 = Cond.eq .result (.int 1) from rfl, Cond.eq_ints (x := 1) (y := 1) rfl rfl]; simp; done) | (simp [limb_1_2, Cond.value, Term.eval]; done)))⟩
