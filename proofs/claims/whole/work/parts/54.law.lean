def lw_J (D : hk_D) (ax am : Nat) (G : hk_G) (Z : hk_Z) (τ σ : hk_v) (nw w : Nat) (x : Int64) : Prop := hk_W D G Z x x ∧ rr_J Z nw w τ σ ∧ G.1 (.inl (0, 0)) = ax ∧ G.1 (.inr (0, 0)) = am
/-- an int of the script -/
theorem lw_rd {p : Program} {e : Env} {s : State} {m : MethodId} {below : List Frame} {meth : Method} {c : Code} (l : Launch) {b L : Nat} {xs : Nat → Int32} (C0 : lw_At p s m meth c b L xs) {D : hk_D} (hK : hk_K D s) (hDz : D.2.1 = s.heap.size) {H : Heap} {locs : List Loc} {cells slots : Nat} {ls : Array Slot} {lv : List (Nat × Value)} {i kq : Nat} {rest : List Value} {pc : Nat} (hS : va_S (hk_A D) s.heap H locs) (hl0 : ls[0]? = some (.val (.ref b))) (hl3 : ls[3]? = some (.val (.int (nI i)))) (hL : L ≤ 2048) (hi : i + kq < L) (d0 : decode cL_law pc = .ok (.aload_n 0, 1)) (d1 : decode cL_law (pc + 1) = .ok (.iload_n 3, 1)) {zq : Int} (d2 : decode cL_law (pc + 2) = .ok (.iconst zq, 1)) (hz : Int32.ofInt zq = nI kq) (d3 : decode cL_law (pc + 3) = .ok (.iadd, 1)) (d4 : decode cL_law (pc + 4) = .ok (.iaload, 1)) (k : W p l e room_1 s m #[Value.ref b] below meth c H locs cells slots (lw_Z below #[Value.ref b] s) (F0 m (pc + 5) ls (.int (xs (i + kq)) :: rest))) : W p l e room_1 s m #[Value.ref b] below meth c H locs cells slots (lw_Z below #[Value.ref b] s) (F0 m pc ls rest) := by
  obtain ⟨hx, hb, hr, hml, hown, hts, hX, hbl, hlocks, hgv⟩ := C0
  refine lv_aload_n hx hb d0 rfl hl0 ?_
  refine lv_iload_n hx hb d1 rfl hl3 ?_
  refine lv_iconst (v := nI kq) hx hb d2 hz ?_
  refine lv_iadd hx hb d3 ?_
  rw [nI_add]
  refine va_sld (A := hk_A D) hx hb hX hbl (by show ¬ D.2.1 ≤ b; omega) hS (vp_in_nI hi (by omega)) d4 ?_
  rw [nI_clamp (by omega)]
  exact k
theorem ymV_X10_garden : hk_mV yX10_garden cX10_garden 4 (some FieldType.int) RX10 3 := ⟨tw_205, tw_203, tw_204, tw_34, rfl, by decide, by decide, by decide +kernel⟩
theorem ymV_X11_garden : hk_mV yX11_garden cX11_garden 4 (some FieldType.int) RX11 3 := ⟨tw_807, tw_805, tw_806, tw_42, rfl, by decide, by decide, by decide +kernel⟩
set_option maxHeartbeats 4000000 in
theorem law_c0 {p : Program} {e : Env} {s : State} {m : MethodId} {below : List Frame} {meth : Method} {c : Code} (l : Launch) {b L : Nat} {xs : Nat → Int32} (C0 : lw_At p s m meth c b L xs) {D : hk_D} (hK : hk_K D s) (hDz : D.2.1 = s.heap.size) {ax am : Nat} {G : hk_G} {Z : hk_Z} {τ σ : hk_v} {nw w : Nat} {x : Int64} {H : Heap} {locs : List Loc} {cells slots : Nat} {ls : Array Slot} {i : Nat} (hJ0 : lw_J D ax am G Z τ σ nw w x) (hH : hk_H D G (hk_cm τ σ) H) (hS : va_S (hk_A D) s.heap H locs) (hl : lv_has ls 4 [(3, .int (nI i)), (2, .ref am), (1, .ref ax), (0, .ref b)]) (hi : i + 4 ≤ L) (hL : L ≤ 2048) (hcl : cells + 5 ≤ 600000) (hsl : slots + 418 ≤ 7302250)
    (K : ∀ (G : hk_G) (Z : hk_Z) (τ σ : hk_v) (nw w : Nat) (x : Int64) (H : Heap) (locs : List Loc) (ce sl : Nat), lw_J D ax am G Z τ σ nw w x → hk_H D G (hk_cm τ σ) H → va_S (hk_A D) s.heap H locs → ce ≤ cells + 5 → sl ≤ slots + 418 → W p l e room_1 s m #[Value.ref b] below meth c H locs ce sl (lw_Z below #[Value.ref b] s) (F0 m 736 ls [])) : W p l e room_1 s m #[Value.ref b] below meth c H locs cells slots (lw_Z below #[Value.ref b] s) (F0 m 132 ls []) := by
  obtain ⟨hx, hb, hr, hml, hown, hts, hX, hbl, hlocks, hgv⟩ := id C0
  have ht : ∀ w ∈ lw_tg, w.before #[Value.ref b] s = true := fun w h => hts w (List.mem_filter.mp h).1
  have hown : s.vm.findClass RL = some m.cls := hown
  obtain ⟨hW, ⟨hJ, j1, j2⟩, rfl, rfl⟩ := hJ0
  refine lv_aload_n hx hb dL_law_132 rfl (lv_at hl 2 rfl) ?_
  refine lw_rd l C0 hK hDz (lv := []) hS (lv_at hl 3 rfl) (lv_at hl 0 rfl) hL (show i + 1 < L by omega) dL_law_133 dL_law_134 dL_law_135 rfl dL_law_136 dL_law_137 ?_
  refine lw_rd l C0 hK hDz (lv := []) hS (lv_at hl 3 rfl) (lv_at hl 0 rfl) hL (show i + 2 < L by omega) dL_law_138 dL_law_139 dL_law_140 rfl dL_law_141 dL_law_142 ?_
  refine lw_rd l C0 hK hDz (lv := []) hS (lv_at hl 3 rfl) (lv_at hl 0 rfl) hL (show i + 3 < L by omega) dL_law_143 dL_law_144 dL_law_145 rfl dL_law_146 dL_law_147 ?_
  refine hk_cV (G := G) (L := (.inl (0, 0))) (As := [.int (xs (i + 1)), .int (xs (i + 2)), .int (xs (i + 3))]) (rest := []) hx hb hml hl.1 ht hown hK hH hS (c_garden l D G Z τ σ (xs (i + 1)) (xs (i + 2)) (xs (i + 3)) x x hW hJ.sz) ymV_X10_garden kc_11 hW.1.k0 tw_202 ⟨rfl, rfl⟩ ⟨Nat.le_of_ble_eq_true rfl, Nat.le_of_ble_eq_true rfl⟩ rfl rfl (Nat.le_of_ble_eq_true rfl) dL_law_148 ⟨by show cells + 2 ≤ 600000; omega, by show slots + 16 ≤ 7302250; omega⟩ (fun v1 G1 iv1 H locs hP hH hS => ?_)
  obtain ⟨rfl, rfl, hW1, hA1, hA2⟩ := hP
  have hl1 := hl
  rw [← hA1, ← hA2] at hl1
  refine lv_aload_n hx hb dL_law_151 rfl (lv_at hl1 1 rfl) ?_
  refine lw_rd l C0 hK hDz (lv := []) hS (lv_at hl 3 rfl) (lv_at hl 0 rfl) hL (show i + 1 < L by omega) dL_law_152 dL_law_153 dL_law_154 rfl dL_law_155 dL_law_156 ?_
  refine lw_rd l C0 hK hDz (lv := []) hS (lv_at hl 3 rfl) (lv_at hl 0 rfl) hL (show i + 2 < L by omega) dL_law_157 dL_law_158 dL_law_159 rfl dL_law_160 dL_law_161 ?_
  refine lw_rd l C0 hK hDz (lv := []) hS (lv_at hl 3 rfl) (lv_at hl 0 rfl) hL (show i + 3 < L by omega) dL_law_162 dL_law_163 dL_law_164 rfl dL_law_165 dL_law_166 ?_
  refine hk_cV (G := G1) (L := (.inr (0, 0))) (As := [.int (xs (i + 1)), .int (xs (i + 2)), .int (xs (i + 3))]) (rest := [.int (F_garden Z τ (xs (i + 1)) (xs (i + 2)) (xs (i + 3)))]) hx hb hml hl.1 ht hown hK hH hS (c_m_garden l D G1 Z (T_garden Z τ (xs (i + 1)) (xs (i + 2)) (xs (i + 3))) σ (xs (i + 1)) (xs (i + 2)) (xs (i + 3)) hW1.2.1 hJ.mz) ymV_X11_garden kc_12 hW1.2.1.k0 tw_804 ⟨rfl, rfl⟩ ⟨Nat.le_of_ble_eq_true rfl, Nat.le_of_ble_eq_true rfl⟩ rfl rfl (Nat.le_of_ble_eq_true rfl) dL_law_167 ⟨by show cells + 2 + 0 ≤ 600000; omega, by show slots + 16 + 0 ≤ 7302250; omega⟩ (hk_ea (fun H locs hH hS => ?_))
  have hrr := rr_garden hJ (xs (i + 1)) (xs (i + 2)) (xs (i + 3))
  refine lv_icmp_eq (tgt := 736) hx hb dL_law_170 (by decide) (fun _ => K G1 (Z_garden Z τ (xs (i + 1)) (xs (i + 2)) (xs (i + 3))) (T_garden Z τ (xs (i + 1)) (xs (i + 2)) (xs (i + 3))) (T_m_garden σ (xs (i + 1)) (xs (i + 2)) (xs (i + 3))) nw w x _ _ (cells + 2 + 0) (slots + 16 + 0) ⟨hW1, ⟨hrr.2, e8_garden.trans j1, e8_garden.trans j2⟩, hA1, hA2⟩ hH hS (by omega) (by omega)) (fun h => absurd hrr.1 h)
theorem ymV_X10_gang : hk_mV yX10_gang cX10_gang 3 (some FieldType.int) RX10 2 := ⟨tw_303, tw_301, tw_302, tw_34, rfl, by decide, by decide, by decide +kernel⟩
theorem ymV_X11_gang : hk_mV yX11_gang cX11_gang 3 (some FieldType.int) RX11 2 := ⟨tw_814, tw_812, tw_813, tw_42, rfl, by decide, by decide, by decide +kernel⟩
set_option maxHeartbeats 4000000 in
theorem law_c1 {p : Program} {e : Env} {s : State} {m : MethodId} {below : List Frame} {meth : Method} {c : Code} (l : Launch) {b L : Nat} {xs : Nat → Int32} (C0 : lw_At p s m meth c b L xs) {D : hk_D} (hK : hk_K D s) (hDz : D.2.1 = s.heap.size) {ax am : Nat} {G : hk_G} {Z : hk_Z} {τ σ : hk_v} {nw w : Nat} {x : Int64} {H : Heap} {locs : List Loc} {cells slots : Nat} {ls : Array Slot} {i : Nat} (hJ0 : lw_J D ax am G Z τ σ nw w x) (hH : hk_H D G (hk_cm τ σ) H) (hS : va_S (hk_A D) s.heap H locs) (hl : lv_has ls 4 [(3, .int (nI i)), (2, .ref am), (1, .ref ax), (0, .ref b)]) (hi : i + 4 ≤ L) (hL : L ≤ 2048) (hcl : cells + 5 ≤ 600000) (hsl : slots + 418 ≤ 7302250)
    (K : ∀ (G : hk_G) (Z : hk_Z) (τ σ : hk_v) (nw w : Nat) (x : Int64) (H : Heap) (locs : List Loc) (ce sl : Nat), lw_J D ax am G Z τ σ nw w x → hk_H D G (hk_cm τ σ) H → va_S (hk_A D) s.heap H locs → ce ≤ cells + 5 → sl ≤ slots + 418 → W p l e room_1 s m #[Value.ref b] below meth c H locs ce sl (lw_Z below #[Value.ref b] s) (F0 m 736 ls [])) : W p l e room_1 s m #[Value.ref b] below meth c H locs cells slots (lw_Z below #[Value.ref b] s) (F0 m 175 ls []) := by
  obtain ⟨hx, hb, hr, hml, hown, hts, hX, hbl, hlocks, hgv⟩ := id C0
  have ht : ∀ w ∈ lw_tg, w.before #[Value.ref b] s = true := fun w h => hts w (List.mem_filter.mp h).1
  have hown : s.vm.findClass RL = some m.cls := hown
  obtain ⟨hW, ⟨hJ, j1, j2⟩, rfl, rfl⟩ := hJ0
  refine lv_aload_n hx hb dL_law_175 rfl (lv_at hl 2 rfl) ?_
  refine lw_rd l C0 hK hDz (lv := []) hS (lv_at hl 3 rfl) (lv_at hl 0 rfl) hL (show i + 1 < L by omega) dL_law_176 dL_law_177 dL_law_178 rfl dL_law_179 dL_law_180 ?_
  refine lw_rd l C0 hK hDz (lv := []) hS (lv_at hl 3 rfl) (lv_at hl 0 rfl) hL (show i + 2 < L by omega) dL_law_181 dL_law_182 dL_law_183 rfl dL_law_184 dL_law_185 ?_
  refine hk_cV (G := G) (L := (.inl (0, 0))) (As := [.int (xs (i + 1)), .int (xs (i + 2))]) (rest := []) hx hb hml hl.1 ht hown hK hH hS (c_gang l D G Z τ σ (xs (i + 1)) (xs (i + 2)) x x hW hJ.sz) ymV_X10_gang kc_11 hW.1.k0 tw_300 ⟨rfl, rfl⟩ ⟨Nat.le_of_ble_eq_true rfl, Nat.le_of_ble_eq_true rfl⟩ rfl rfl (Nat.le_of_ble_eq_true rfl) dL_law_186 ⟨by show cells + 2 ≤ 600000; omega, by show slots + 16 ≤ 7302250; omega⟩ (fun v1 G1 iv1 H locs hP hH hS => ?_)
  obtain ⟨rfl, rfl, hW1, hA1, hA2⟩ := hP
  have hl1 := hl
  rw [← hA1, ← hA2] at hl1
  refine lv_aload_n hx hb dL_law_189 rfl (lv_at hl1 1 rfl) ?_
  refine lw_rd l C0 hK hDz (lv := []) hS (lv_at hl 3 rfl) (lv_at hl 0 rfl) hL (show i + 1 < L by omega) dL_law_190 dL_law_191 dL_law_192 rfl dL_law_193 dL_law_194 ?_
  refine lw_rd l C0 hK hDz (lv := []) hS (lv_at hl 3 rfl) (lv_at hl 0 rfl) hL (show i + 2 < L by omega) dL_law_195 dL_law_196 dL_law_197 rfl dL_law_198 dL_law_199 ?_
  refine hk_cV (G := G1) (L := (.inr (0, 0))) (As := [.int (xs (i + 1)), .int (xs (i + 2))]) (rest := [.int (F_gang Z τ (xs (i + 1)) (xs (i + 2)))]) hx hb hml hl.1 ht hown hK hH hS (c_m_gang l D G1 Z (T_gang Z τ (xs (i + 1)) (xs (i + 2))) σ (xs (i + 1)) (xs (i + 2)) hW1.2.1 hJ.mz) ymV_X11_gang kc_12 hW1.2.1.k0 tw_811 ⟨rfl, rfl⟩ ⟨Nat.le_of_ble_eq_true rfl, Nat.le_of_ble_eq_true rfl⟩ rfl rfl (Nat.le_of_ble_eq_true rfl) dL_law_200 ⟨by show cells + 2 + 0 ≤ 600000; omega, by show slots + 16 + 0 ≤ 7302250; omega⟩ (hk_ea (fun H locs hH hS => ?_))
  have hrr := rr_gang hJ (xs (i + 1)) (xs (i + 2))
  refine lv_icmp_eq (tgt := 736) hx hb dL_law_203 (by decide) (fun _ => K G1 (Z_gang Z τ (xs (i + 1)) (xs (i + 2))) (T_gang Z τ (xs (i + 1)) (xs (i + 2))) (T_m_gang σ (xs (i + 1)) (xs (i + 2))) nw w x _ _ (cells + 2 + 0) (slots + 16 + 0) ⟨hW1, ⟨hrr.2, e8_gang.trans j1, e8_gang.trans j2⟩, hA1, hA2⟩ hH hS (by omega) (by omega)) (fun h => absurd hrr.1 h)
theorem ymV_X10_sends : hk_mV yX10_sends cX10_sends 5 (some FieldType.int) RX10 2 := ⟨tw_338, tw_336, tw_337, tw_34, rfl, by decide, by decide, by decide +kernel⟩
theorem ymV_X11_sends : hk_mV yX11_sends cX11_sends 4 (some FieldType.int) RX11 2 := ⟨tw_818, tw_816, tw_817, tw_42, rfl, by decide, by decide, by decide +kernel⟩
set_option maxHeartbeats 4000000 in
theorem law_c2 {p : Program} {e : Env} {s : State} {m : MethodId} {below : List Frame} {meth : Method} {c : Code} (l : Launch) {b L : Nat} {xs : Nat → Int32} (C0 : lw_At p s m meth c b L xs) {D : hk_D} (hK : hk_K D s) (hDz : D.2.1 = s.heap.size) {ax am : Nat} {G : hk_G} {Z : hk_Z} {τ σ : hk_v} {nw w : Nat} {x : Int64} {H : Heap} {locs : List Loc} {cells slots : Nat} {ls : Array Slot} {i : Nat} (hJ0 : lw_J D ax am G Z τ σ nw w x) (hH : hk_H D G (hk_cm τ σ) H) (hS : va_S (hk_A D) s.heap H locs) (hl : lv_has ls 4 [(3, .int (nI i)), (2, .ref am), (1, .ref ax), (0, .ref b)]) (hi : i + 4 ≤ L) (hL : L ≤ 2048) (hcl : cells + 5 ≤ 600000) (hsl : slots + 418 ≤ 7302250)
    (K : ∀ (G : hk_G) (Z : hk_Z) (τ σ : hk_v) (nw w : Nat) (x : Int64) (H : Heap) (locs : List Loc) (ce sl : Nat), lw_J D ax am G Z τ σ nw w x → hk_H D G (hk_cm τ σ) H → va_S (hk_A D) s.heap H locs → ce ≤ cells + 5 → sl ≤ slots + 418 → W p l e room_1 s m #[Value.ref b] below meth c H locs ce sl (lw_Z below #[Value.ref b] s) (F0 m 736 ls [])) : W p l e room_1 s m #[Value.ref b] below meth c H locs cells slots (lw_Z below #[Value.ref b] s) (F0 m 208 ls []) := by
  obtain ⟨hx, hb, hr, hml, hown, hts, hX, hbl, hlocks, hgv⟩ := id C0
  have ht : ∀ w ∈ lw_tg, w.before #[Value.ref b] s = true := fun w h => hts w (List.mem_filter.mp h).1
  have hown : s.vm.findClass RL = some m.cls := hown
  obtain ⟨hW, ⟨hJ, j1, j2⟩, rfl, rfl⟩ := hJ0
  refine lv_aload_n hx hb dL_law_208 rfl (lv_at hl 2 rfl) ?_
  refine lw_rd l C0 hK hDz (lv := []) hS (lv_at hl 3 rfl) (lv_at hl 0 rfl) hL (show i + 1 < L by omega) dL_law_209 dL_law_210 dL_law_211 rfl dL_law_212 dL_law_213 ?_
  refine lw_rd l C0 hK hDz (lv := []) hS (lv_at hl 3 rfl) (lv_at hl 0 rfl) hL (show i + 2 < L by omega) dL_law_214 dL_law_215 dL_law_216 rfl dL_law_217 dL_law_218 ?_
  refine hk_cV (G := G) (L := (.inl (0, 0))) (As := [.int (xs (i + 1)), .int (xs (i + 2))]) (rest := []) hx hb hml hl.1 ht hown hK hH hS (c_sends l D G Z τ σ (xs (i + 1)) (xs (i + 2)) hW.1 hJ.sz) ymV_X10_sends kc_11 hW.1.k0 tw_335 ⟨rfl, rfl⟩ ⟨Nat.le_of_ble_eq_true rfl, Nat.le_of_ble_eq_true rfl⟩ rfl rfl (Nat.le_of_ble_eq_true rfl) dL_law_219 ⟨by show cells + 0 ≤ 600000; omega, by show slots + 0 ≤ 7302250; omega⟩ (hk_ea (fun H locs hH hS => ?_))
  refine lv_aload_n hx hb dL_law_222 rfl (lv_at hl 1 rfl) ?_
  refine lw_rd l C0 hK hDz (lv := []) hS (lv_at hl 3 rfl) (lv_at hl 0 rfl) hL (show i + 1 < L by omega) dL_law_223 dL_law_224 dL_law_225 rfl dL_law_226 dL_law_227 ?_
  refine lw_rd l C0 hK hDz (lv := []) hS (lv_at hl 3 rfl) (lv_at hl 0 rfl) hL (show i + 2 < L by omega) dL_law_228 dL_law_229 dL_law_230 rfl dL_law_231 dL_law_232 ?_
  refine hk_cV (G := G) (L := (.inr (0, 0))) (As := [.int (xs (i + 1)), .int (xs (i + 2))]) (rest := [_]) hx hb hml hl.1 ht hown hK hH hS (c_m_sends l D G Z (T_sends τ (xs (i + 1)) (xs (i + 2))) σ (xs (i + 1)) (xs (i + 2)) hW.2.1 hJ.mz) ymV_X11_sends kc_12 hW.2.1.k0 tw_815 ⟨rfl, rfl⟩ ⟨Nat.le_of_ble_eq_true rfl, Nat.le_of_ble_eq_true rfl⟩ rfl rfl (Nat.le_of_ble_eq_true rfl) dL_law_233 ⟨by show cells + 0 + 0 ≤ 600000; omega, by show slots + 0 + 0 ≤ 7302250; omega⟩ (hk_ea (fun H locs hH hS => ?_))
  have hrr := rr_sends hJ (xs (i + 1)) (xs (i + 2))
  refine lv_icmp_eq (tgt := 736) hx hb dL_law_236 (by decide) (fun _ => K G Z (T_sends τ (xs (i + 1)) (xs (i + 2))) (T_m_sends σ (xs (i + 1)) (xs (i + 2))) nw w x _ _ (cells + 0 + 0) (slots + 0 + 0) ⟨hW, ⟨hrr.2, e8_sends.trans j1, e8_sends.trans j2⟩, rfl, rfl⟩ hH hS (by omega) (by omega)) (fun h => absurd hrr.1 h)
theorem ymV_X10_kiln : hk_mV yX10_kiln cX10_kiln 3 (some FieldType.int) RX10 2 := ⟨tw_364, tw_362, tw_363, tw_34, rfl, by decide, by decide, by decide +kernel⟩
theorem ymV_X11_kiln : hk_mV yX11_kiln cX11_kiln 3 (some FieldType.int) RX11 2 := ⟨tw_830, tw_828, tw_829, tw_42, rfl, by decide, by decide, by decide +kernel⟩
set_option maxHeartbeats 4000000 in
theorem law_c3 {p : Program} {e : Env} {s : State} {m : MethodId} {below : List Frame} {meth : Method} {c : Code} (l : Launch) {b L : Nat} {xs : Nat → Int32} (C0 : lw_At p s m meth c b L xs) {D : hk_D} (hK : hk_K D s) (hDz : D.2.1 = s.heap.size) {ax am : Nat} {G : hk_G} {Z : hk_Z} {τ σ : hk_v} {nw w : Nat} {x : Int64} {H : Heap} {locs : List Loc} {cells slots : Nat} {ls : Array Slot} {i : Nat} (hJ0 : lw_J D ax am G Z τ σ nw w x) (hH : hk_H D G (hk_cm τ σ) H) (hS : va_S (hk_A D) s.heap H locs) (hl : lv_has ls 4 [(3, .int (nI i)), (2, .ref am), (1, .ref ax), (0, .ref b)]) (hi : i + 4 ≤ L) (hL : L ≤ 2048) (hcl : cells + 5 ≤ 600000) (hsl : slots + 418 ≤ 7302250)
    (K : ∀ (G : hk_G) (Z : hk_Z) (τ σ : hk_v) (nw w : Nat) (x : Int64) (H : Heap) (locs : List Loc) (ce sl : Nat), lw_J D ax am G Z τ σ nw w x → hk_H D G (hk_cm τ σ) H → va_S (hk_A D) s.heap H locs → ce ≤ cells + 5 → sl ≤ slots + 418 → W p l e room_1 s m #[Value.ref b] below meth c H locs ce sl (lw_Z below #[Value.ref b] s) (F0 m 736 ls [])) : W p l e room_1 s m #[Value.ref b] below meth c H locs cells slots (lw_Z below #[Value.ref b] s) (F0 m 241 ls []) := by
  obtain ⟨hx, hb, hr, hml, hown, hts, hX, hbl, hlocks, hgv⟩ := id C0
  have ht : ∀ w ∈ lw_tg, w.before #[Value.ref b] s = true := fun w h => hts w (List.mem_filter.mp h).1
  have hown : s.vm.findClass RL = some m.cls := hown
  obtain ⟨hW, ⟨hJ, j1, j2⟩, rfl, rfl⟩ := hJ0
  refine lv_aload_n hx hb dL_law_241 rfl (lv_at hl 2 rfl) ?_
  refine lw_rd l C0 hK hDz (lv := []) hS (lv_at hl 3 rfl) (lv_at hl 0 rfl) hL (show i + 1 < L by omega) dL_law_242 dL_law_243 dL_law_244 rfl dL_law_245 dL_law_246 ?_
  refine lw_rd l C0 hK hDz (lv := []) hS (lv_at hl 3 rfl) (lv_at hl 0 rfl) hL (show i + 2 < L by omega) dL_law_247 dL_law_248 dL_law_249 rfl dL_law_250 dL_law_251 ?_
  refine hk_cV (G := G) (L := (.inl (0, 0))) (As := [.int (xs (i + 1)), .int (xs (i + 2))]) (rest := []) hx hb hml hl.1 ht hown hK hH hS (c_kiln l D G Z τ σ (xs (i + 1)) (xs (i + 2)) x x hW hJ.sz) ymV_X10_kiln kc_11 hW.1.k0 tw_361 ⟨rfl, rfl⟩ ⟨Nat.le_of_ble_eq_true rfl, Nat.le_of_ble_eq_true rfl⟩ rfl rfl (Nat.le_of_ble_eq_true rfl) dL_law_252 ⟨by show cells + 5 ≤ 600000; omega, by show slots + 418 ≤ 7302250; omega⟩ (fun v1 G1 iv1 H locs hP hH hS => ?_)
  obtain ⟨rfl, rfl, hW1, hA1, hA2⟩ := hP
  have hl1 := hl
  rw [← hA1, ← hA2] at hl1
  refine lv_aload_n hx hb dL_law_255 rfl (lv_at hl1 1 rfl) ?_
  refine lw_rd l C0 hK hDz (lv := []) hS (lv_at hl 3 rfl) (lv_at hl 0 rfl) hL (show i + 1 < L by omega) dL_law_256 dL_law_257 dL_law_258 rfl dL_law_259 dL_law_260 ?_
  refine lw_rd l C0 hK hDz (lv := []) hS (lv_at hl 3 rfl) (lv_at hl 0 rfl) hL (show i + 2 < L by omega) dL_law_261 dL_law_262 dL_law_263 rfl dL_law_264 dL_law_265 ?_
  refine hk_cV (G := G1) (L := (.inr (0, 0))) (As := [.int (xs (i + 1)), .int (xs (i + 2))]) (rest := [.int (F_kiln Z τ (xs (i + 1)) (xs (i + 2)))]) hx hb hml hl.1 ht hown hK hH hS (c_m_kiln l D G1 Z (T_kiln Z τ (xs (i + 1)) (xs (i + 2))) σ (xs (i + 1)) (xs (i + 2)) hW1.2.1 hJ.mz) ymV_X11_kiln kc_12 hW1.2.1.k0 tw_827 ⟨rfl, rfl⟩ ⟨Nat.le_of_ble_eq_true rfl, Nat.le_of_ble_eq_true rfl⟩ rfl rfl (Nat.le_of_ble_eq_true rfl) dL_law_266 ⟨by show cells + 5 + 0 ≤ 600000; omega, by show slots + 418 + 0 ≤ 7302250; omega⟩ (hk_ea (fun H locs hH hS => ?_))
  have hrr := rr_kiln hJ (xs (i + 1)) (xs (i + 2))
  refine lv_icmp_eq (tgt := 736) hx hb dL_law_269 (by decide) (fun _ => K G1 (Z_kiln Z τ (xs (i + 1)) (xs (i + 2))) (T_kiln Z τ (xs (i + 1)) (xs (i + 2))) (T_m_kiln σ (xs (i + 1)) (xs (i + 2))) nw w x _ _ (cells + 5 + 0) (slots + 418 + 0) ⟨hW1, ⟨hrr.2, e8_kiln.trans j1, e8_kiln.trans j2⟩, hA1, hA2⟩ hH hS (by omega) (by omega)) (fun h => absurd hrr.1 h)
theorem ymV_X10_read : hk_mV yX10_read cX10_read 5 (some FieldType.int) RX10 2 := ⟨tw_430, tw_428, tw_429, tw_34, rfl, by decide, by decide, by decide +kernel⟩
theorem ymV_X11_read : hk_mV yX11_read cX11_read 4 (some FieldType.int) RX11 2 := ⟨tw_834, tw_832, tw_833, tw_42, rfl, by decide, by decide, by decide +kernel⟩
set_option maxHeartbeats 4000000 in
theorem law_c4 {p : Program} {e : Env} {s : State} {m : MethodId} {below : List Frame} {meth : Method} {c : Code} (l : Launch) {b L : Nat} {xs : Nat → Int32} (C0 : lw_At p s m meth c b L xs) {D : hk_D} (hK : hk_K D s) (hDz : D.2.1 = s.heap.size) {ax am : Nat} {G : hk_G} {Z : hk_Z} {τ σ : hk_v} {nw w : Nat} {x : Int64} {H : Heap} {locs : List Loc} {cells slots : Nat} {ls : Array Slot} {i : Nat} (hJ0 : lw_J D ax am G Z τ σ nw w x) (hH : hk_H D G (hk_cm τ σ) H) (hS : va_S (hk_A D) s.heap H locs) (hl : lv_has ls 4 [(3, .int (nI i)), (2, .ref am), (1, .ref ax), (0, .ref b)]) (hi : i + 4 ≤ L) (hL : L ≤ 2048) (hcl : cells + 5 ≤ 600000) (hsl : slots + 418 ≤ 7302250)
    (K : ∀ (G : hk_G) (Z : hk_Z) (τ σ : hk_v) (nw w : Nat) (x : Int64) (H : Heap) (locs : List Loc) (ce sl : Nat), lw_J D ax am G Z τ σ nw w x → hk_H D G (hk_cm τ σ) H → va_S (hk_A D) s.heap H locs → ce ≤ cells + 5 → sl ≤ slots + 418 → W p l e room_1 s m #[Value.ref b] below meth c H locs ce sl (lw_Z below #[Value.ref b] s) (F0 m 736 ls [])) : W p l e room_1 s m #[Value.ref b] below meth c H locs cells slots (lw_Z below #[Value.ref b] s) (F0 m 274 ls []) := by
  obtain ⟨hx, hb, hr, hml, hown, hts, hX, hbl, hlocks, hgv⟩ := id C0
  have ht : ∀ w ∈ lw_tg, w.before #[Value.ref b] s = true := fun w h => hts w (List.mem_filter.mp h).1
  have hown : s.vm.findClass RL = some m.cls := hown
  obtain ⟨hW, ⟨hJ, j1, j2⟩, rfl, rfl⟩ := hJ0
  refine lv_aload_n hx hb dL_law_274 rfl (lv_at hl 2 rfl) ?_
  refine lw_rd l C0 hK hDz (lv := []) hS (lv_at hl 3 rfl) (lv_at hl 0 rfl) hL (show i + 1 < L by omega) dL_law_275 dL_law_276 dL_law_277 rfl dL_law_278 dL_law_279 ?_
  refine lw_rd l C0 hK hDz (lv := []) hS (lv_at hl 3 rfl) (lv_at hl 0 rfl) hL (show i + 2 < L by omega) dL_law_280 dL_law_281 dL_law_282 rfl dL_law_283 dL_law_284 ?_
  refine hk_cV (G := G) (L := (.inl (0, 0))) (As := [.int (xs (i + 1)), .int (xs (i + 2))]) (rest := []) hx hb hml hl.1 ht hown hK hH hS (c_read l D G Z τ σ (xs (i + 1)) (xs (i + 2)) hW.1 hJ.sz) ymV_X10_read kc_11 hW.1.k0 tw_427 ⟨rfl, rfl⟩ ⟨Nat.le_of_ble_eq_true rfl, Nat.le_of_ble_eq_true rfl⟩ rfl rfl (Nat.le_of_ble_eq_true rfl) dL_law_285 ⟨by show cells + 0 ≤ 600000; omega, by show slots + 0 ≤ 7302250; omega⟩ (hk_ea (fun H locs hH hS => ?_))
  refine lv_aload_n hx hb dL_law_288 rfl (lv_at hl 1 rfl) ?_
  refine lw_rd l C0 hK hDz (lv := []) hS (lv_at hl 3 rfl) (lv_at hl 0 rfl) hL (show i + 1 < L by omega) dL_law_289 dL_law_290 dL_law_291 rfl dL_law_292 dL_law_293 ?_
  refine lw_rd l C0 hK hDz (lv := []) hS (lv_at hl 3 rfl) (lv_at hl 0 rfl) hL (show i + 2 < L by omega) dL_law_294 dL_law_295 dL_law_296 rfl dL_law_297 dL_law_298 ?_
  refine hk_cV (G := G) (L := (.inr (0, 0))) (As := [.int (xs (i + 1)), .int (xs (i + 2))]) (rest := [_]) hx hb hml hl.1 ht hown hK hH hS (c_m_read l D G Z (T_read τ (xs (i + 1)) (xs (i + 2))) σ (xs (i + 1)) (xs (i + 2)) hW.2.1 hJ.mz) ymV_X11_read kc_12 hW.2.1.k0 tw_831 ⟨rfl, rfl⟩ ⟨Nat.le_of_ble_eq_true rfl, Nat.le_of_ble_eq_true rfl⟩ rfl rfl (Nat.le_of_ble_eq_true rfl) dL_law_299 ⟨by show cells + 0 + 0 ≤ 600000; omega, by show slots + 0 + 0 ≤ 7302250; omega⟩ (hk_ea (fun H locs hH hS => ?_))
  have hrr := rr_read hJ (xs (i + 1)) (xs (i + 2))
  refine lv_icmp_eq (tgt := 736) hx hb dL_law_302 (by decide) (fun _ => K G Z (T_read τ (xs (i + 1)) (xs (i + 2))) (T_m_read σ (xs (i + 1)) (xs (i + 2))) nw w x _ _ (cells + 0 + 0) (slots + 0 + 0) ⟨hW, ⟨hrr.2, e8_read.trans j1, e8_read.trans j2⟩, rfl, rfl⟩ hH hS (by omega) (by omega)) (fun h => absurd hrr.1 h)
theorem ymV_X10_drying : hk_mV yX10_drying cX10_drying 4 (some FieldType.int) RX10 2 := ⟨tw_438, tw_436, tw_437, tw_34, rfl, by decide, by decide, by decide +kernel⟩
theorem ymV_X11_drying : hk_mV yX11_drying cX11_drying 3 (some FieldType.int) RX11 2 := ⟨tw_842, tw_840, tw_841, tw_42, rfl, by decide, by decide, by decide +kernel⟩
set_option maxHeartbeats 4000000 in
theorem law_c5 {p : Program} {e : Env} {s : State} {m : MethodId} {below : List Frame} {meth : Method} {c : Code} (l : Launch) {b L : Nat} {xs : Nat → Int32} (C0 : lw_At p s m meth c b L xs) {D : hk_D} (hK : hk_K D s) (hDz : D.2.1 = s.heap.size) {ax am : Nat} {G : hk_G} {Z : hk_Z} {τ σ : hk_v} {nw w : Nat} {x : Int64} {H : Heap} {locs : List Loc} {cells slots : Nat} {ls : Array Slot} {i : Nat} (hJ0 : lw_J D ax am G Z τ σ nw w x) (hH : hk_H D G (hk_cm τ σ) H) (hS : va_S (hk_A D) s.heap H locs) (hl : lv_has ls 4 [(3, .int (nI i)), (2, .ref am), (1, .ref ax), (0, .ref b)]) (hi : i + 4 ≤ L) (hL : L ≤ 2048) (hcl : cells + 5 ≤ 600000) (hsl : slots + 418 ≤ 7302250)
    (K : ∀ (G : hk_G) (Z : hk_Z) (τ σ : hk_v) (nw w : Nat) (x : Int64) (H : Heap) (locs : List Loc) (ce sl : Nat), lw_J D ax am G Z τ σ nw w x → hk_H D G (hk_cm τ σ) H → va_S (hk_A D) s.heap H locs → ce ≤ cells + 5 → sl ≤ slots + 418 → W p l e room_1 s m #[Value.ref b] below meth c H locs ce sl (lw_Z below #[Value.ref b] s) (F0 m 736 ls [])) : W p l e room_1 s m #[Value.ref b] below meth c H locs cells slots (lw_Z below #[Value.ref b] s) (F0 m 307 ls []) := by
  obtain ⟨hx, hb, hr, hml, hown, hts, hX, hbl, hlocks, hgv⟩ := id C0
  have ht : ∀ w ∈ lw_tg, w.before #[Value.ref b] s = true := fun w h => hts w (List.mem_filter.mp h).1
  have hown : s.vm.findClass RL = some m.cls := hown
  obtain ⟨hW, ⟨hJ, j1, j2⟩, rfl, rfl⟩ := hJ0
  refine lv_aload_n hx hb dL_law_307 rfl (lv_at hl 2 rfl) ?_
  refine lw_rd l C0 hK hDz (lv := []) hS (lv_at hl 3 rfl) (lv_at hl 0 rfl) hL (show i + 1 < L by omega) dL_law_308 dL_law_309 dL_law_310 rfl dL_law_311 dL_law_312 ?_
  refine lw_rd l C0 hK hDz (lv := []) hS (lv_at hl 3 rfl) (lv_at hl 0 rfl) hL (show i + 2 < L by omega) dL_law_313 dL_law_314 dL_law_315 rfl dL_law_316 dL_law_317 ?_
  refine hk_cV (G := G) (L := (.inl (0, 0))) (As := [.int (xs (i + 1)), .int (xs (i + 2))]) (rest := []) hx hb hml hl.1 ht hown hK hH hS (c_drying l D G Z τ σ (xs (i + 1)) (xs (i + 2)) x x hW hJ.sz) ymV_X10_drying kc_11 hW.1.k0 tw_435 ⟨rfl, rfl⟩ ⟨Nat.le_of_ble_eq_true rfl, Nat.le_of_ble_eq_true rfl⟩ rfl rfl (Nat.le_of_ble_eq_true rfl) dL_law_318 ⟨by show cells + 0 ≤ 600000; omega, by show slots + 0 ≤ 7302250; omega⟩ (fun v1 G1 iv1 H locs hP hH hS => ?_)
  obtain ⟨rfl, rfl, hW1, hA1, hA2⟩ := hP
  have hl1 := hl
  rw [← hA1, ← hA2] at hl1
  refine lv_aload_n hx hb dL_law_321 rfl (lv_at hl1 1 rfl) ?_
  refine lw_rd l C0 hK hDz (lv := []) hS (lv_at hl 3 rfl) (lv_at hl 0 rfl) hL (show i + 1 < L by omega) dL_law_322 dL_law_323 dL_law_324 rfl dL_law_325 dL_law_326 ?_
  refine lw_rd l C0 hK hDz (lv := []) hS (lv_at hl 3 rfl) (lv_at hl 0 rfl) hL (show i + 2 < L by omega) dL_law_327 dL_law_328 dL_law_329 rfl dL_law_330 dL_law_331 ?_
  refine hk_cV (G := G1) (L := (.inr (0, 0))) (As := [.int (xs (i + 1)), .int (xs (i + 2))]) (rest := [.int (F_drying Z τ (xs (i + 1)) (xs (i + 2)))]) hx hb hml hl.1 ht hown hK hH hS (c_m_drying l D G1 Z τ σ (xs (i + 1)) (xs (i + 2)) (X_drying Z τ σ x (xs (i + 1)) (xs (i + 2))) x hW1 hJ.mz) ymV_X11_drying kc_12 hW1.2.1.k0 tw_839 ⟨rfl, rfl⟩ ⟨Nat.le_of_ble_eq_true rfl, Nat.le_of_ble_eq_true rfl⟩ rfl rfl (Nat.le_of_ble_eq_true rfl) dL_law_332 ⟨by show cells + 0 + 0 ≤ 600000; omega, by show slots + 0 + 0 ≤ 7302250; omega⟩ (fun v2 G2 iv2 H locs hP hH hS => ?_)
  obtain ⟨rfl, rfl, hW2, hB1, hB2⟩ := hP
  obtain ⟨hrr, hrr2⟩ := rr_drying hJ x (xs (i + 1)) (xs (i + 2))
  rw [← hrr2] at hW2
  refine lv_icmp_eq (tgt := 736) hx hb dL_law_335 (by decide) (fun _ => K G2 Z τ σ nw w _ _ _ (cells + 0 + 0) (slots + 0 + 0) ⟨hW2, ⟨hJ, j1, j2⟩, hB1.trans hA1, hB2.trans hA2⟩ hH hS (by omega) (by omega)) (fun h => absurd hrr h)
theorem ymV_X10_waits : hk_mV yX10_waits cX10_waits 3 (some FieldType.int) RX10 1 := ⟨tw_469, tw_467, tw_468, tw_34, rfl, by decide, by decide, by decide +kernel⟩
theorem ymV_X11_waits : hk_mV yX11_waits cX11_waits 3 (some FieldType.int) RX11 1 := ⟨tw_851, tw_849, tw_850, tw_42, rfl, by decide, by decide, by decide +kernel⟩
set_option maxHeartbeats 4000000 in
theorem law_c6 {p : Program} {e : Env} {s : State} {m : MethodId} {below : List Frame} {meth : Method} {c : Code} (l : Launch) {b L : Nat} {xs : Nat → Int32} (C0 : lw_At p s m meth c b L xs) {D : hk_D} (hK : hk_K D s) (hDz : D.2.1 = s.heap.size) {ax am : Nat} {G : hk_G} {Z : hk_Z} {τ σ : hk_v} {nw w : Nat} {x : Int64} {H : Heap} {locs : List Loc} {cells slots : Nat} {ls : Array Slot} {i : Nat} (hJ0 : lw_J D ax am G Z τ σ nw w x) (hH : hk_H D G (hk_cm τ σ) H) (hS : va_S (hk_A D) s.heap H locs) (hl : lv_has ls 4 [(3, .int (nI i)), (2, .ref am), (1, .ref ax), (0, .ref b)]) (hi : i + 4 ≤ L) (hL : L ≤ 2048) (hcl : cells + 5 ≤ 600000) (hsl : slots + 418 ≤ 7302250)
    (K : ∀ (G : hk_G) (Z : hk_Z) (τ σ : hk_v) (nw w : Nat) (x : Int64) (H : Heap) (locs : List Loc) (ce sl : Nat), lw_J D ax am G Z τ σ nw w x → hk_H D G (hk_cm τ σ) H → va_S (hk_A D) s.heap H locs → ce ≤ cells + 5 → sl ≤ slots + 418 → W p l e room_1 s m #[Value.ref b] below meth c H locs ce sl (lw_Z below #[Value.ref b] s) (F0 m 736 ls [])) : W p l e room_1 s m #[Value.ref b] below meth c H locs cells slots (lw_Z below #[Value.ref b] s) (F0 m 340 ls []) := by
  obtain ⟨hx, hb, hr, hml, hown, hts, hX, hbl, hlocks, hgv⟩ := id C0
  have ht : ∀ w ∈ lw_tg, w.before #[Value.ref b] s = true := fun w h => hts w (List.mem_filter.mp h).1
  have hown : s.vm.findClass RL = some m.cls := hown
  obtain ⟨hW, ⟨hJ, j1, j2⟩, rfl, rfl⟩ := hJ0
  refine lv_aload_n hx hb dL_law_340 rfl (lv_at hl 2 rfl) ?_
  refine lw_rd l C0 hK hDz (lv := []) hS (lv_at hl 3 rfl) (lv_at hl 0 rfl) hL (show i + 1 < L by omega) dL_law_341 dL_law_342 dL_law_343 rfl dL_law_344 dL_law_345 ?_
  refine hk_cV (G := G) (L := (.inl (0, 0))) (As := [.int (xs (i + 1))]) (rest := []) hx hb hml hl.1 ht hown hK hH hS (c_waits l D G Z τ σ (xs (i + 1)) hW.1) ymV_X10_waits kc_11 hW.1.k0 tw_466 ⟨rfl, rfl⟩ ⟨Nat.le_of_ble_eq_true rfl, Nat.le_of_ble_eq_true rfl⟩ rfl rfl (Nat.le_of_ble_eq_true rfl) dL_law_346 ⟨by show cells + 0 ≤ 600000; omega, by show slots + 0 ≤ 7302250; omega⟩ (hk_ea (fun H locs hH hS => ?_))
  refine lv_aload_n hx hb dL_law_349 rfl (lv_at hl 1 rfl) ?_
  refine lw_rd l C0 hK hDz (lv := []) hS (lv_at hl 3 rfl) (lv_at hl 0 rfl) hL (show i + 1 < L by omega) dL_law_350 dL_law_351 dL_law_352 rfl dL_law_353 dL_law_354 ?_
  refine hk_cV (G := G) (L := (.inr (0, 0))) (As := [.int (xs (i + 1))]) (rest := [_]) hx hb hml hl.1 ht hown hK hH hS (c_m_waits l D G Z (T_waits τ (xs (i + 1))) σ (xs (i + 1)) hW.2.1) ymV_X11_waits kc_12 hW.2.1.k0 tw_848 ⟨rfl, rfl⟩ ⟨Nat.le_of_ble_eq_true rfl, Nat.le_of_ble_eq_true rfl⟩ rfl rfl (Nat.le_of_ble_eq_true rfl) dL_law_355 ⟨by show cells + 0 + 0 ≤ 600000; omega, by show slots + 0 + 0 ≤ 7302250; omega⟩ (hk_ea (fun H locs hH hS => ?_))
  obtain ⟨hrr, w2, hrr2⟩ := rr_waits hJ (xs (i + 1))
  refine lv_icmp_eq (tgt := 736) hx hb dL_law_358 (by decide) (fun _ => K G Z (T_waits τ (xs (i + 1))) (T_m_waits σ (xs (i + 1))) nw w2 x _ _ (cells + 0 + 0) (slots + 0 + 0) ⟨hW, ⟨hrr2, e8_waits.trans j1, e8_waits.trans j2⟩, rfl, rfl⟩ hH hS (by omega) (by omega)) (fun h => absurd hrr h)
theorem ymV_X10_hours : hk_mV yX10_hours cX10_hours 3 (some FieldType.int) RX10 1 := ⟨tw_473, tw_471, tw_472, tw_34, rfl, by decide, by decide, by decide +kernel⟩
theorem ymV_X11_hours : hk_mV yX11_hours cX11_hours 3 (some FieldType.int) RX11 1 := ⟨tw_855, tw_853, tw_854, tw_42, rfl, by decide, by decide, by decide +kernel⟩
set_option maxHeartbeats 4000000 in
theorem law_c7 {p : Program} {e : Env} {s : State} {m : MethodId} {below : List Frame} {meth : Method} {c : Code} (l : Launch) {b L : Nat} {xs : Nat → Int32} (C0 : lw_At p s m meth c b L xs) {D : hk_D} (hK : hk_K D s) (hDz : D.2.1 = s.heap.size) {ax am : Nat} {G : hk_G} {Z : hk_Z} {τ σ : hk_v} {nw w : Nat} {x : Int64} {H : Heap} {locs : List Loc} {cells slots : Nat} {ls : Array Slot} {i : Nat} (hJ0 : lw_J D ax am G Z τ σ nw w x) (hH : hk_H D G (hk_cm τ σ) H) (hS : va_S (hk_A D) s.heap H locs) (hl : lv_has ls 4 [(3, .int (nI i)), (2, .ref am), (1, .ref ax), (0, .ref b)]) (hi : i + 4 ≤ L) (hL : L ≤ 2048) (hcl : cells + 5 ≤ 600000) (hsl : slots + 418 ≤ 7302250)
    (K : ∀ (G : hk_G) (Z : hk_Z) (τ σ : hk_v) (nw w : Nat) (x : Int64) (H : Heap) (locs : List Loc) (ce sl : Nat), lw_J D ax am G Z τ σ nw w x → hk_H D G (hk_cm τ σ) H → va_S (hk_A D) s.heap H locs → ce ≤ cells + 5 → sl ≤ slots + 418 → W p l e room_1 s m #[Value.ref b] below meth c H locs ce sl (lw_Z below #[Value.ref b] s) (F0 m 736 ls [])) : W p l e room_1 s m #[Value.ref b] below meth c H locs cells slots (lw_Z below #[Value.ref b] s) (F0 m 363 ls []) := by
  obtain ⟨hx, hb, hr, hml, hown, hts, hX, hbl, hlocks, hgv⟩ := id C0
  have ht : ∀ w ∈ lw_tg, w.before #[Value.ref b] s = true := fun w h => hts w (List.mem_filter.mp h).1
  have hown : s.vm.findClass RL = some m.cls := hown
  obtain ⟨hW, ⟨hJ, j1, j2⟩, rfl, rfl⟩ := hJ0
  refine lv_aload_n hx hb dL_law_363 rfl (lv_at hl 2 rfl) ?_
  refine lw_rd l C0 hK hDz (lv := []) hS (lv_at hl 3 rfl) (lv_at hl 0 rfl) hL (show i + 1 < L by omega) dL_law_364 dL_law_365 dL_law_366 rfl dL_law_367 dL_law_368 ?_
  refine hk_cV (G := G) (L := (.inl (0, 0))) (As := [.int (xs (i + 1))]) (rest := []) hx hb hml hl.1 ht hown hK hH hS (c_hours l D G Z τ σ w (xs (i + 1)) hW.1 (fun j => 800 * (nw + j)) (rr_hours hJ (xs (i + 1))).1) ymV_X10_hours kc_11 hW.1.k0 tw_470 ⟨rfl, rfl⟩ ⟨Nat.le_of_ble_eq_true rfl, Nat.le_of_ble_eq_true rfl⟩ rfl rfl (Nat.le_of_ble_eq_true rfl) dL_law_369 ⟨by show cells + 0 ≤ 600000; omega, by show slots + 0 ≤ 7302250; omega⟩ (hk_ea (fun H locs hH hS => ?_))
  refine lv_aload_n hx hb dL_law_372 rfl (lv_at hl 1 rfl) ?_
  refine lw_rd l C0 hK hDz (lv := []) hS (lv_at hl 3 rfl) (lv_at hl 0 rfl) hL (show i + 1 < L by omega) dL_law_373 dL_law_374 dL_law_375 rfl dL_law_376 dL_law_377 ?_
  refine hk_cV (G := G) (L := (.inr (0, 0))) (As := [.int (xs (i + 1))]) (rest := [_]) hx hb hml hl.1 ht hown hK hH hS (c_m_hours l D G Z (T_hours Z τ w (xs (i + 1))) σ nw w (xs (i + 1)) hW.2.1 (fun j => rr_Pf Z (hk_it (B_m_hours nw w Z) j 0 σ)) (rr_hours hJ (xs (i + 1))).2.1) ymV_X11_hours kc_12 hW.2.1.k0 tw_852 ⟨rfl, rfl⟩ ⟨Nat.le_of_ble_eq_true rfl, Nat.le_of_ble_eq_true rfl⟩ rfl rfl (Nat.le_of_ble_eq_true rfl) dL_law_378 ⟨by show cells + 0 + 0 ≤ 600000; omega, by show slots + 0 + 0 ≤ 7302250; omega⟩ (hk_ea (fun H locs hH hS => ?_))
  obtain ⟨-, -, hrr, nw2, hrr2⟩ := rr_hours hJ (xs (i + 1))
  refine lv_icmp_eq (tgt := 736) hx hb dL_law_381 (by decide) (fun _ => K G Z (T_hours Z τ w (xs (i + 1))) (T_m_hours Z σ nw w (xs (i + 1))) nw2 w x _ _ (cells + 0 + 0) (slots + 0 + 0) ⟨hW, ⟨hrr2, e8_hours.trans j1, e8_hours.trans j2⟩, rfl, rfl⟩ hH hS (by omega) (by omega)) (fun h => absurd hrr h)
theorem ymV_X10_about : hk_mV yX10_about cX10_about 4 (some FieldType.int) RX10 2 := ⟨tw_563, tw_561, tw_562, tw_34, rfl, by decide, by decide, by decide +kernel⟩
theorem ymV_X11_about : hk_mV yX11_about cX11_about 3 (some FieldType.int) RX11 2 := ⟨tw_891, tw_889, tw_890, tw_42, rfl, by decide, by decide, by decide +kernel⟩
set_option maxHeartbeats 4000000 in
theorem law_c8 {p : Program} {e : Env} {s : State} {m : MethodId} {below : List Frame} {meth : Method} {c : Code} (l : Launch) {b L : Nat} {xs : Nat → Int32} (C0 : lw_At p s m meth c b L xs) {D : hk_D} (hK : hk_K D s) (hDz : D.2.1 = s.heap.size) {ax am : Nat} {G : hk_G} {Z : hk_Z} {τ σ : hk_v} {nw w : Nat} {x : Int64} {H : Heap} {locs : List Loc} {cells slots : Nat} {ls : Array Slot} {i : Nat} (hJ0 : lw_J D ax am G Z τ σ nw w x) (hH : hk_H D G (hk_cm τ σ) H) (hS : va_S (hk_A D) s.heap H locs) (hl : lv_has ls 4 [(3, .int (nI i)), (2, .ref am), (1, .ref ax), (0, .ref b)]) (hi : i + 4 ≤ L) (hL : L ≤ 2048) (hcl : cells + 5 ≤ 600000) (hsl : slots + 418 ≤ 7302250)
    (K : ∀ (G : hk_G) (Z : hk_Z) (τ σ : hk_v) (nw w : Nat) (x : Int64) (H : Heap) (locs : List Loc) (ce sl : Nat), lw_J D ax am G Z τ σ nw w x → hk_H D G (hk_cm τ σ) H → va_S (hk_A D) s.heap H locs → ce ≤ cells + 5 → sl ≤ slots + 418 → W p l e room_1 s m #[Value.ref b] below meth c H locs ce sl (lw_Z below #[Value.ref b] s) (F0 m 736 ls [])) : W p l e room_1 s m #[Value.ref b] below meth c H locs cells slots (lw_Z below #[Value.ref b] s) (F0 m 386 ls []) := by
  obtain ⟨hx, hb, hr, hml, hown, hts, hX, hbl, hlocks, hgv⟩ := id C0
  have ht : ∀ w ∈ lw_tg, w.before #[Value.ref b] s = true := fun w h => hts w (List.mem_filter.mp h).1
  have hown : s.vm.findClass RL = some m.cls := hown
  obtain ⟨hW, ⟨hJ, j1, j2⟩, rfl, rfl⟩ := hJ0
  refine lv_aload_n hx hb dL_law_386 rfl (lv_at hl 2 rfl) ?_
  refine lw_rd l C0 hK hDz (lv := []) hS (lv_at hl 3 rfl) (lv_at hl 0 rfl) hL (show i + 1 < L by omega) dL_law_387 dL_law_388 dL_law_389 rfl dL_law_390 dL_law_391 ?_
  refine lw_rd l C0 hK hDz (lv := []) hS (lv_at hl 3 rfl) (lv_at hl 0 rfl) hL (show i + 2 < L by omega) dL_law_392 dL_law_393 dL_law_394 rfl dL_law_395 dL_law_396 ?_
  refine hk_cV (G := G) (L := (.inl (0, 0))) (As := [.int (xs (i + 1)), .int (xs (i + 2))]) (rest := []) hx hb hml hl.1 ht hown hK hH hS (c_about l D G Z τ σ (xs (i + 1)) (xs (i + 2)) hW.1 hJ.sz hJ.lo) ymV_X10_about kc_11 hW.1.k0 tw_560 ⟨rfl, rfl⟩ ⟨Nat.le_of_ble_eq_true rfl, Nat.le_of_ble_eq_true rfl⟩ rfl rfl (Nat.le_of_ble_eq_true rfl) dL_law_397 ⟨by show cells + 0 ≤ 600000; omega, by show slots + 0 ≤ 7302250; omega⟩ (hk_ea (fun H locs hH hS => ?_))
  refine lv_aload_n hx hb dL_law_400 rfl (lv_at hl 1 rfl) ?_
  refine lw_rd l C0 hK hDz (lv := []) hS (lv_at hl 3 rfl) (lv_at hl 0 rfl) hL (show i + 1 < L by omega) dL_law_401 dL_law_402 dL_law_403 rfl dL_law_404 dL_law_405 ?_
  refine lw_rd l C0 hK hDz (lv := []) hS (lv_at hl 3 rfl) (lv_at hl 0 rfl) hL (show i + 2 < L by omega) dL_law_406 dL_law_407 dL_law_408 rfl dL_law_409 dL_law_410 ?_
  refine hk_cV (G := G) (L := (.inr (0, 0))) (As := [.int (xs (i + 1)), .int (xs (i + 2))]) (rest := [_]) hx hb hml hl.1 ht hown hK hH hS (c_m_about l D G Z τ σ nw (xs (i + 1)) (xs (i + 2)) hW.2.1 hJ.mz hJ.nw2 hJ.nw3 hJ.fi) ymV_X11_about kc_12 hW.2.1.k0 tw_888 ⟨rfl, rfl⟩ ⟨Nat.le_of_ble_eq_true rfl, Nat.le_of_ble_eq_true rfl⟩ rfl rfl (Nat.le_of_ble_eq_true rfl) dL_law_411 ⟨by show cells + 0 + 0 ≤ 600000; omega, by show slots + 0 + 0 ≤ 7302250; omega⟩ (hk_ea (fun H locs hH hS => ?_))
  have hrr := rr_about hJ (xs (i + 1)) (xs (i + 2))
  refine lv_icmp_eq (tgt := 736) hx hb dL_law_414 (by decide) (fun _ => K G Z τ σ nw w x _ _ (cells + 0 + 0) (slots + 0 + 0) ⟨hW, ⟨hJ, j1, j2⟩, rfl, rfl⟩ hH hS (by omega) (by omega)) (fun h => absurd hrr h)
theorem ymV_X10_tally : hk_mV yX10_tally cX10_tally 4 (some FieldType.int) RX10 2 := ⟨tw_579, tw_577, tw_578, tw_34, rfl, by decide, by decide, by decide +kernel⟩
theorem ymV_X11_tally : hk_mV yX11_tally cX11_tally 3 (some FieldType.int) RX11 2 := ⟨tw_903, tw_901, tw_902, tw_42, rfl, by decide, by decide, by decide +kernel⟩
set_option maxHeartbeats 4000000 in
theorem law_c9 {p : Program} {e : Env} {s : State} {m : MethodId} {below : List Frame} {meth : Method} {c : Code} (l : Launch) {b L : Nat} {xs : Nat → Int32} (C0 : lw_At p s m meth c b L xs) {D : hk_D} (hK : hk_K D s) (hDz : D.2.1 = s.heap.size) {ax am : Nat} {G : hk_G} {Z : hk_Z} {τ σ : hk_v} {nw w : Nat} {x : Int64} {H : Heap} {locs : List Loc} {cells slots : Nat} {ls : Array Slot} {i : Nat} (hJ0 : lw_J D ax am G Z τ σ nw w x) (hH : hk_H D G (hk_cm τ σ) H) (hS : va_S (hk_A D) s.heap H locs) (hl : lv_has ls 4 [(3, .int (nI i)), (2, .ref am), (1, .ref ax), (0, .ref b)]) (hi : i + 4 ≤ L) (hL : L ≤ 2048) (hcl : cells + 5 ≤ 600000) (hsl : slots + 418 ≤ 7302250)
    (K : ∀ (G : hk_G) (Z : hk_Z) (τ σ : hk_v) (nw w : Nat) (x : Int64) (H : Heap) (locs : List Loc) (ce sl : Nat), lw_J D ax am G Z τ σ nw w x → hk_H D G (hk_cm τ σ) H → va_S (hk_A D) s.heap H locs → ce ≤ cells + 5 → sl ≤ slots + 418 → W p l e room_1 s m #[Value.ref b] below meth c H locs ce sl (lw_Z below #[Value.ref b] s) (F0 m 736 ls [])) : W p l e room_1 s m #[Value.ref b] below meth c H locs cells slots (lw_Z below #[Value.ref b] s) (F0 m 419 ls []) := by
  obtain ⟨hx, hb, hr, hml, hown, hts, hX, hbl, hlocks, hgv⟩ := id C0
  have ht : ∀ w ∈ lw_tg, w.before #[Value.ref b] s = true := fun w h => hts w (List.mem_filter.mp h).1
  have hown : s.vm.findClass RL = some m.cls := hown
  obtain ⟨hW, ⟨hJ, j1, j2⟩, rfl, rfl⟩ := hJ0
  refine lv_aload_n hx hb dL_law_419 rfl (lv_at hl 2 rfl) ?_
  refine lw_rd l C0 hK hDz (lv := []) hS (lv_at hl 3 rfl) (lv_at hl 0 rfl) hL (show i + 1 < L by omega) dL_law_420 dL_law_421 dL_law_422 rfl dL_law_423 dL_law_424 ?_
  refine lw_rd l C0 hK hDz (lv := []) hS (lv_at hl 3 rfl) (lv_at hl 0 rfl) hL (show i + 2 < L by omega) dL_law_425 dL_law_426 dL_law_427 rfl dL_law_428 dL_law_429 ?_
  refine hk_cV (G := G) (L := (.inl (0, 0))) (As := [.int (xs (i + 1)), .int (xs (i + 2))]) (rest := []) hx hb hml hl.1 ht hown hK hH hS (c_tally l D G Z τ σ (xs (i + 1)) (xs (i + 2)) hW.1 hJ.sz) ymV_X10_tally kc_11 hW.1.k0 tw_576 ⟨rfl, rfl⟩ ⟨Nat.le_of_ble_eq_true rfl, Nat.le_of_ble_eq_true rfl⟩ rfl rfl (Nat.le_of_ble_eq_true rfl) dL_law_430 ⟨by show cells + 0 ≤ 600000; omega, by show slots + 0 ≤ 7302250; omega⟩ (hk_ea (fun H locs hH hS => ?_))
  refine lv_aload_n hx hb dL_law_433 rfl (lv_at hl 1 rfl) ?_
  refine lw_rd l C0 hK hDz (lv := []) hS (lv_at hl 3 rfl) (lv_at hl 0 rfl) hL (show i + 1 < L by omega) dL_law_434 dL_law_435 dL_law_436 rfl dL_law_437 dL_law_438 ?_
  refine lw_rd l C0 hK hDz (lv := []) hS (lv_at hl 3 rfl) (lv_at hl 0 rfl) hL (show i + 2 < L by omega) dL_law_439 dL_law_440 dL_law_441 rfl dL_law_442 dL_law_443 ?_
  refine hk_cV (G := G) (L := (.inr (0, 0))) (As := [.int (xs (i + 1)), .int (xs (i + 2))]) (rest := [_]) hx hb hml hl.1 ht hown hK hH hS (c_m_tally l D G Z τ σ (xs (i + 1)) (xs (i + 2)) hW.2.1 hJ.mz) ymV_X11_tally kc_12 hW.2.1.k0 tw_900 ⟨rfl, rfl⟩ ⟨Nat.le_of_ble_eq_true rfl, Nat.le_of_ble_eq_true rfl⟩ rfl rfl (Nat.le_of_ble_eq_true rfl) dL_law_444 ⟨by show cells + 0 + 0 ≤ 600000; omega, by show slots + 0 + 0 ≤ 7302250; omega⟩ (hk_ea (fun H locs hH hS => ?_))
  have hrr := rr_tally hJ (xs (i + 1)) (xs (i + 2))
  refine lv_icmp_eq (tgt := 736) hx hb dL_law_447 (by decide) (fun _ => K G Z τ σ nw w x _ _ (cells + 0 + 0) (slots + 0 + 0) ⟨hW, ⟨hJ, j1, j2⟩, rfl, rfl⟩ hH hS (by omega) (by omega)) (fun h => absurd hrr h)
theorem ymV_X10_in : hk_mV yX10_in cX10_in 4 (some FieldType.int) RX10 2 := ⟨tw_583, tw_581, tw_582, tw_34, rfl, by decide, by decide, by decide +kernel⟩
theorem ymV_X11_in : hk_mV yX11_in cX11_in 5 (some FieldType.int) RX11 2 := ⟨tw_907, tw_905, tw_906, tw_42, rfl, by decide, by decide, by decide +kernel⟩
set_option maxHeartbeats 4000000 in
theorem law_c10 {p : Program} {e : Env} {s : State} {m : MethodId} {below : List Frame} {meth : Method} {c : Code} (l : Launch) {b L : Nat} {xs : Nat → Int32} (C0 : lw_At p s m meth c b L xs) {D : hk_D} (hK : hk_K D s) (hDz : D.2.1 = s.heap.size) {ax am : Nat} {G : hk_G} {Z : hk_Z} {τ σ : hk_v} {nw w : Nat} {x : Int64} {H : Heap} {locs : List Loc} {cells slots : Nat} {ls : Array Slot} {i : Nat} (hJ0 : lw_J D ax am G Z τ σ nw w x) (hH : hk_H D G (hk_cm τ σ) H) (hS : va_S (hk_A D) s.heap H locs) (hl : lv_has ls 4 [(3, .int (nI i)), (2, .ref am), (1, .ref ax), (0, .ref b)]) (hi : i + 4 ≤ L) (hL : L ≤ 2048) (hcl : cells + 5 ≤ 600000) (hsl : slots + 418 ≤ 7302250)
    (K : ∀ (G : hk_G) (Z : hk_Z) (τ σ : hk_v) (nw w : Nat) (x : Int64) (H : Heap) (locs : List Loc) (ce sl : Nat), lw_J D ax am G Z τ σ nw w x → hk_H D G (hk_cm τ σ) H → va_S (hk_A D) s.heap H locs → ce ≤ cells + 5 → sl ≤ slots + 418 → W p l e room_1 s m #[Value.ref b] below meth c H locs ce sl (lw_Z below #[Value.ref b] s) (F0 m 736 ls [])) : W p l e room_1 s m #[Value.ref b] below meth c H locs cells slots (lw_Z below #[Value.ref b] s) (F0 m 452 ls []) := by
  obtain ⟨hx, hb, hr, hml, hown, hts, hX, hbl, hlocks, hgv⟩ := id C0
  have ht : ∀ w ∈ lw_tg, w.before #[Value.ref b] s = true := fun w h => hts w (List.mem_filter.mp h).1
  have hown : s.vm.findClass RL = some m.cls := hown
  obtain ⟨hW, ⟨hJ, j1, j2⟩, rfl, rfl⟩ := hJ0
  refine lv_aload_n hx hb dL_law_452 rfl (lv_at hl 2 rfl) ?_
  refine lw_rd l C0 hK hDz (lv := []) hS (lv_at hl 3 rfl) (lv_at hl 0 rfl) hL (show i + 1 < L by omega) dL_law_453 dL_law_454 dL_law_455 rfl dL_law_456 dL_law_457 ?_
  refine lw_rd l C0 hK hDz (lv := []) hS (lv_at hl 3 rfl) (lv_at hl 0 rfl) hL (show i + 2 < L by omega) dL_law_458 dL_law_459 dL_law_460 rfl dL_law_461 dL_law_462 ?_
  refine hk_cV (G := G) (L := (.inl (0, 0))) (As := [.int (xs (i + 1)), .int (xs (i + 2))]) (rest := []) hx hb hml hl.1 ht hown hK hH hS (c_inn l D G Z τ σ (xs (i + 1)) (xs (i + 2)) hW.1 hJ.sz hJ.lo) ymV_X10_in kc_11 hW.1.k0 tw_580 ⟨rfl, rfl⟩ ⟨Nat.le_of_ble_eq_true rfl, Nat.le_of_ble_eq_true rfl⟩ rfl rfl (Nat.le_of_ble_eq_true rfl) dL_law_463 ⟨by show cells + 0 ≤ 600000; omega, by show slots + 0 ≤ 7302250; omega⟩ (hk_ea (fun H locs hH hS => ?_))
  refine lv_aload_n hx hb dL_law_466 rfl (lv_at hl 1 rfl) ?_
  refine lw_rd l C0 hK hDz (lv := []) hS (lv_at hl 3 rfl) (lv_at hl 0 rfl) hL (show i + 1 < L by omega) dL_law_467 dL_law_468 dL_law_469 rfl dL_law_470 dL_law_471 ?_
  refine lw_rd l C0 hK hDz (lv := []) hS (lv_at hl 3 rfl) (lv_at hl 0 rfl) hL (show i + 2 < L by omega) dL_law_472 dL_law_473 dL_law_474 rfl dL_law_475 dL_law_476 ?_
  refine hk_cV (G := G) (L := (.inr (0, 0))) (As := [.int (xs (i + 1)), .int (xs (i + 2))]) (rest := [_]) hx hb hml hl.1 ht hown hK hH hS (c_m_inn l D G Z τ σ (xs (i + 1)) (xs (i + 2)) hW.2.1 hJ.mz hJ.fi) ymV_X11_in kc_12 hW.2.1.k0 tw_904 ⟨rfl, rfl⟩ ⟨Nat.le_of_ble_eq_true rfl, Nat.le_of_ble_eq_true rfl⟩ rfl rfl (Nat.le_of_ble_eq_true rfl) dL_law_477 ⟨by show cells + 0 + 0 ≤ 600000; omega, by show slots + 0 + 0 ≤ 7302250; omega⟩ (hk_ea (fun H locs hH hS => ?_))
  have hrr := rr_inq hJ (xs (i + 1)) (xs (i + 2))
  refine lv_icmp_eq (tgt := 736) hx hb dL_law_480 (by decide) (fun _ => K G Z τ σ nw w x _ _ (cells + 0 + 0) (slots + 0 + 0) ⟨hW, ⟨hJ, j1, j2⟩, rfl, rfl⟩ hH hS (by omega) (by omega)) (fun h => absurd hrr h)
theorem ymV_X10_green : hk_mV yX10_green cX10_green 2 (some FieldType.int) RX10 1 := ⟨tw_591, tw_589, tw_590, tw_34, rfl, by decide, by decide, by decide +kernel⟩
theorem ymV_X11_green : hk_mV yX11_green cX11_green 5 (some FieldType.int) RX11 1 := ⟨tw_911, tw_909, tw_910, tw_42, rfl, by decide, by decide, by decide +kernel⟩
set_option maxHeartbeats 4000000 in
theorem law_c11 {p : Program} {e : Env} {s : State} {m : MethodId} {below : List Frame} {meth : Method} {c : Code} (l : Launch) {b L : Nat} {xs : Nat → Int32} (C0 : lw_At p s m meth c b L xs) {D : hk_D} (hK : hk_K D s) (hDz : D.2.1 = s.heap.size) {ax am : Nat} {G : hk_G} {Z : hk_Z} {τ σ : hk_v} {nw w : Nat} {x : Int64} {H : Heap} {locs : List Loc} {cells slots : Nat} {ls : Array Slot} {i : Nat} (hJ0 : lw_J D ax am G Z τ σ nw w x) (hH : hk_H D G (hk_cm τ σ) H) (hS : va_S (hk_A D) s.heap H locs) (hl : lv_has ls 4 [(3, .int (nI i)), (2, .ref am), (1, .ref ax), (0, .ref b)]) (hi : i + 4 ≤ L) (hL : L ≤ 2048) (hcl : cells + 5 ≤ 600000) (hsl : slots + 418 ≤ 7302250)
    (K : ∀ (G : hk_G) (Z : hk_Z) (τ σ : hk_v) (nw w : Nat) (x : Int64) (H : Heap) (locs : List Loc) (ce sl : Nat), lw_J D ax am G Z τ σ nw w x → hk_H D G (hk_cm τ σ) H → va_S (hk_A D) s.heap H locs → ce ≤ cells + 5 → sl ≤ slots + 418 → W p l e room_1 s m #[Value.ref b] below meth c H locs ce sl (lw_Z below #[Value.ref b] s) (F0 m 736 ls [])) : W p l e room_1 s m #[Value.ref b] below meth c H locs cells slots (lw_Z below #[Value.ref b] s) (F0 m 485 ls []) := by
  obtain ⟨hx, hb, hr, hml, hown, hts, hX, hbl, hlocks, hgv⟩ := id C0
  have ht : ∀ w ∈ lw_tg, w.before #[Value.ref b] s = true := fun w h => hts w (List.mem_filter.mp h).1
  have hown : s.vm.findClass RL = some m.cls := hown
  obtain ⟨hW, ⟨hJ, j1, j2⟩, rfl, rfl⟩ := hJ0
  refine lv_aload_n hx hb dL_law_485 rfl (lv_at hl 2 rfl) ?_
  refine lw_rd l C0 hK hDz (lv := []) hS (lv_at hl 3 rfl) (lv_at hl 0 rfl) hL (show i + 1 < L by omega) dL_law_486 dL_law_487 dL_law_488 rfl dL_law_489 dL_law_490 ?_
  refine hk_cV (G := G) (L := (.inl (0, 0))) (As := [.int (xs (i + 1))]) (rest := []) hx hb hml hl.1 ht hown hK hH hS (c_green l D G Z τ σ (xs (i + 1)) hW.1) ymV_X10_green kc_11 hW.1.k0 tw_588 ⟨rfl, rfl⟩ ⟨Nat.le_of_ble_eq_true rfl, Nat.le_of_ble_eq_true rfl⟩ rfl rfl (Nat.le_of_ble_eq_true rfl) dL_law_491 ⟨by show cells + 0 ≤ 600000; omega, by show slots + 0 ≤ 7302250; omega⟩ (hk_ea (fun H locs hH hS => ?_))
  refine lv_aload_n hx hb dL_law_494 rfl (lv_at hl 1 rfl) ?_
  refine lw_rd l C0 hK hDz (lv := []) hS (lv_at hl 3 rfl) (lv_at hl 0 rfl) hL (show i + 1 < L by omega) dL_law_495 dL_law_496 dL_law_497 rfl dL_law_498 dL_law_499 ?_
  refine hk_cV (G := G) (L := (.inr (0, 0))) (As := [.int (xs (i + 1))]) (rest := [_]) hx hb hml hl.1 ht hown hK hH hS (c_m_green l D G Z τ σ nw (xs (i + 1)) hW.2.1 hJ.nw2 hJ.nw3) ymV_X11_green kc_12 hW.2.1.k0 tw_908 ⟨rfl, rfl⟩ ⟨Nat.le_of_ble_eq_true rfl, Nat.le_of_ble_eq_true rfl⟩ rfl rfl (Nat.le_of_ble_eq_true rfl) dL_law_500 ⟨by show cells + 0 + 0 ≤ 600000; omega, by show slots + 0 + 0 ≤ 7302250; omega⟩ (hk_ea (fun H locs hH hS => ?_))
  have hrr := rr_green hJ (xs (i + 1))
  refine lv_icmp_eq (tgt := 736) hx hb dL_law_503 (by decide) (fun _ => K G Z τ σ nw w x _ _ (cells + 0 + 0) (slots + 0 + 0) ⟨hW, ⟨hJ, j1, j2⟩, rfl, rfl⟩ hH hS (by omega) (by omega)) (fun h => absurd hrr h)
theorem ymV_X10_pocket : hk_mV yX10_pocket cX10_pocket 3 (some FieldType.int) RX10 2 := ⟨tw_599, tw_597, tw_598, tw_34, rfl, by decide, by decide, by decide +kernel⟩
theorem ymV_X11_pocket : hk_mV yX11_pocket cX11_pocket 3 (some FieldType.int) RX11 2 := ⟨tw_915, tw_913, tw_914, tw_42, rfl, by decide, by decide, by decide +kernel⟩
set_option maxHeartbeats 4000000 in
theorem law_c12 {p : Program} {e : Env} {s : State} {m : MethodId} {below : List Frame} {meth : Method} {c : Code} (l : Launch) {b L : Nat} {xs : Nat → Int32} (C0 : lw_At p s m meth c b L xs) {D : hk_D} (hK : hk_K D s) (hDz : D.2.1 = s.heap.size) {ax am : Nat} {G : hk_G} {Z : hk_Z} {τ σ : hk_v} {nw w : Nat} {x : Int64} {H : Heap} {locs : List Loc} {cells slots : Nat} {ls : Array Slot} {i : Nat} (hJ0 : lw_J D ax am G Z τ σ nw w x) (hH : hk_H D G (hk_cm τ σ) H) (hS : va_S (hk_A D) s.heap H locs) (hl : lv_has ls 4 [(3, .int (nI i)), (2, .ref am), (1, .ref ax), (0, .ref b)]) (hi : i + 4 ≤ L) (hL : L ≤ 2048) (hcl : cells + 5 ≤ 600000) (hsl : slots + 418 ≤ 7302250)
    (K : ∀ (G : hk_G) (Z : hk_Z) (τ σ : hk_v) (nw w : Nat) (x : Int64) (H : Heap) (locs : List Loc) (ce sl : Nat), lw_J D ax am G Z τ σ nw w x → hk_H D G (hk_cm τ σ) H → va_S (hk_A D) s.heap H locs → ce ≤ cells + 5 → sl ≤ slots + 418 → W p l e room_1 s m #[Value.ref b] below meth c H locs ce sl (lw_Z below #[Value.ref b] s) (F0 m 736 ls [])) : W p l e room_1 s m #[Value.ref b] below meth c H locs cells slots (lw_Z below #[Value.ref b] s) (F0 m 508 ls []) := by
  obtain ⟨hx, hb, hr, hml, hown, hts, hX, hbl, hlocks, hgv⟩ := id C0
  have ht : ∀ w ∈ lw_tg, w.before #[Value.ref b] s = true := fun w h => hts w (List.mem_filter.mp h).1
  have hown : s.vm.findClass RL = some m.cls := hown
  obtain ⟨hW, ⟨hJ, j1, j2⟩, rfl, rfl⟩ := hJ0
  refine lv_aload_n hx hb dL_law_508 rfl (lv_at hl 2 rfl) ?_
  refine lw_rd l C0 hK hDz (lv := []) hS (lv_at hl 3 rfl) (lv_at hl 0 rfl) hL (show i + 1 < L by omega) dL_law_509 dL_law_510 dL_law_511 rfl dL_law_512 dL_law_513 ?_
  refine lw_rd l C0 hK hDz (lv := []) hS (lv_at hl 3 rfl) (lv_at hl 0 rfl) hL (show i + 2 < L by omega) dL_law_514 dL_law_515 dL_law_516 rfl dL_law_517 dL_law_518 ?_
  refine hk_cV (G := G) (L := (.inl (0, 0))) (As := [.int (xs (i + 1)), .int (xs (i + 2))]) (rest := []) hx hb hml hl.1 ht hown hK hH hS (c_pocket l D G Z τ σ (xs (i + 1)) (xs (i + 2)) hW.1 hJ.n1 hJ.pr) ymV_X10_pocket kc_11 hW.1.k0 tw_596 ⟨rfl, rfl⟩ ⟨Nat.le_of_ble_eq_true rfl, Nat.le_of_ble_eq_true rfl⟩ rfl rfl (Nat.le_of_ble_eq_true rfl) dL_law_519 ⟨by show cells + 0 ≤ 600000; omega, by show slots + 0 ≤ 7302250; omega⟩ (hk_ea (fun H locs hH hS => ?_))
  refine lv_aload_n hx hb dL_law_522 rfl (lv_at hl 1 rfl) ?_
  refine lw_rd l C0 hK hDz (lv := []) hS (lv_at hl 3 rfl) (lv_at hl 0 rfl) hL (show i + 1 < L by omega) dL_law_523 dL_law_524 dL_law_525 rfl dL_law_526 dL_law_527 ?_
  refine lw_rd l C0 hK hDz (lv := []) hS (lv_at hl 3 rfl) (lv_at hl 0 rfl) hL (show i + 2 < L by omega) dL_law_528 dL_law_529 dL_law_530 rfl dL_law_531 dL_law_532 ?_
  refine hk_cV (G := G) (L := (.inr (0, 0))) (As := [.int (xs (i + 1)), .int (xs (i + 2))]) (rest := [_]) hx hb hml hl.1 ht hown hK hH hS (c_m_pocket l D G Z τ σ (xs (i + 1)) (xs (i + 2)) hW.2.1 hJ.mp hJ.m32) ymV_X11_pocket kc_12 hW.2.1.k0 tw_912 ⟨rfl, rfl⟩ ⟨Nat.le_of_ble_eq_true rfl, Nat.le_of_ble_eq_true rfl⟩ rfl rfl (Nat.le_of_ble_eq_true rfl) dL_law_533 ⟨by show cells + 0 + 0 ≤ 600000; omega, by show slots + 0 + 0 ≤ 7302250; omega⟩ (hk_ea (fun H locs hH hS => ?_))
  have hrr := rr_pocket hJ (xs (i + 1)) (xs (i + 2))
  refine lv_icmp_eq (tgt := 736) hx hb dL_law_536 (by decide) (fun _ => K G Z τ σ nw w x _ _ (cells + 0 + 0) (slots + 0 + 0) ⟨hW, ⟨hJ, j1, j2⟩, rfl, rfl⟩ hH hS (by omega) (by omega)) (fun h => absurd hrr h)
theorem ymV_X10_count : hk_mV yX10_count cX10_count 2 (some FieldType.int) RX10 1 := ⟨tw_608, tw_606, tw_607, tw_34, rfl, by decide, by decide, by decide +kernel⟩
theorem ymV_X11_count : hk_mV yX11_count cX11_count 4 (some FieldType.int) RX11 1 := ⟨tw_927, tw_925, tw_926, tw_42, rfl, by decide, by decide, by decide +kernel⟩
set_option maxHeartbeats 4000000 in
theorem law_c13 {p : Program} {e : Env} {s : State} {m : MethodId} {below : List Frame} {meth : Method} {c : Code} (l : Launch) {b L : Nat} {xs : Nat → Int32} (C0 : lw_At p s m meth c b L xs) {D : hk_D} (hK : hk_K D s) (hDz : D.2.1 = s.heap.size) {ax am : Nat} {G : hk_G} {Z : hk_Z} {τ σ : hk_v} {nw w : Nat} {x : Int64} {H : Heap} {locs : List Loc} {cells slots : Nat} {ls : Array Slot} {i : Nat} (hJ0 : lw_J D ax am G Z τ σ nw w x) (hH : hk_H D G (hk_cm τ σ) H) (hS : va_S (hk_A D) s.heap H locs) (hl : lv_has ls 4 [(3, .int (nI i)), (2, .ref am), (1, .ref ax), (0, .ref b)]) (hi : i + 4 ≤ L) (hL : L ≤ 2048) (hcl : cells + 5 ≤ 600000) (hsl : slots + 418 ≤ 7302250)
    (K : ∀ (G : hk_G) (Z : hk_Z) (τ σ : hk_v) (nw w : Nat) (x : Int64) (H : Heap) (locs : List Loc) (ce sl : Nat), lw_J D ax am G Z τ σ nw w x → hk_H D G (hk_cm τ σ) H → va_S (hk_A D) s.heap H locs → ce ≤ cells + 5 → sl ≤ slots + 418 → W p l e room_1 s m #[Value.ref b] below meth c H locs ce sl (lw_Z below #[Value.ref b] s) (F0 m 736 ls [])) : W p l e room_1 s m #[Value.ref b] below meth c H locs cells slots (lw_Z below #[Value.ref b] s) (F0 m 541 ls []) := by
  obtain ⟨hx, hb, hr, hml, hown, hts, hX, hbl, hlocks, hgv⟩ := id C0
  have ht : ∀ w ∈ lw_tg, w.before #[Value.ref b] s = true := fun w h => hts w (List.mem_filter.mp h).1
  have hown : s.vm.findClass RL = some m.cls := hown
  obtain ⟨hW, ⟨hJ, j1, j2⟩, rfl, rfl⟩ := hJ0
  refine lv_aload_n hx hb dL_law_541 rfl (lv_at hl 2 rfl) ?_
  refine lw_rd l C0 hK hDz (lv := []) hS (lv_at hl 3 rfl) (lv_at hl 0 rfl) hL (show i + 1 < L by omega) dL_law_542 dL_law_543 dL_law_544 rfl dL_law_545 dL_law_546 ?_
  refine hk_cV (G := G) (L := (.inl (0, 0))) (As := [.int (xs (i + 1))]) (rest := []) hx hb hml hl.1 ht hown hK hH hS (c_count l D G Z τ σ (xs (i + 1)) hW.1 hJ.sz hJ.n1 hJ.pr) ymV_X10_count kc_11 hW.1.k0 tw_605 ⟨rfl, rfl⟩ ⟨Nat.le_of_ble_eq_true rfl, Nat.le_of_ble_eq_true rfl⟩ rfl rfl (Nat.le_of_ble_eq_true rfl) dL_law_547 ⟨by show cells + 0 ≤ 600000; omega, by show slots + 0 ≤ 7302250; omega⟩ (hk_ea (fun H locs hH hS => ?_))
  refine lv_aload_n hx hb dL_law_550 rfl (lv_at hl 1 rfl) ?_
  refine lw_rd l C0 hK hDz (lv := []) hS (lv_at hl 3 rfl) (lv_at hl 0 rfl) hL (show i + 1 < L by omega) dL_law_551 dL_law_552 dL_law_553 rfl dL_law_554 dL_law_555 ?_
  refine hk_cV (G := G) (L := (.inr (0, 0))) (As := [.int (xs (i + 1))]) (rest := [_]) hx hb hml hl.1 ht hown hK hH hS (c_m_count l D G Z τ σ nw (xs (i + 1)) hW.2.1 hJ.mz hJ.nw2 hJ.nw3 hJ.mp hJ.m32) ymV_X11_count kc_12 hW.2.1.k0 tw_924 ⟨rfl, rfl⟩ ⟨Nat.le_of_ble_eq_true rfl, Nat.le_of_ble_eq_true rfl⟩ rfl rfl (Nat.le_of_ble_eq_true rfl) dL_law_556 ⟨by show cells + 0 + 0 ≤ 600000; omega, by show slots + 0 + 0 ≤ 7302250; omega⟩ (hk_ea (fun H locs hH hS => ?_))
  have hrr := rr_count hJ (xs (i + 1))
  refine lv_icmp_eq (tgt := 736) hx hb dL_law_559 (by decide) (fun _ => K G Z τ σ nw w x _ _ (cells + 0 + 0) (slots + 0 + 0) ⟨hW, ⟨hJ, j1, j2⟩, rfl, rfl⟩ hH hS (by omega) (by omega)) (fun h => absurd hrr h)
theorem ymV_X10_price : hk_mV yX10_price cX10_price 3 (some FieldType.int) RX10 2 := ⟨tw_624, tw_622, tw_623, tw_34, rfl, by decide, by decide, by decide +kernel⟩
theorem ymV_X11_price : hk_mV yX11_price cX11_price 3 (some FieldType.int) RX11 2 := ⟨tw_931, tw_929, tw_930, tw_42, rfl, by decide, by decide, by decide +kernel⟩
set_option maxHeartbeats 4000000 in
theorem law_c14 {p : Program} {e : Env} {s : State} {m : MethodId} {below : List Frame} {meth : Method} {c : Code} (l : Launch) {b L : Nat} {xs : Nat → Int32} (C0 : lw_At p s m meth c b L xs) {D : hk_D} (hK : hk_K D s) (hDz : D.2.1 = s.heap.size) {ax am : Nat} {G : hk_G} {Z : hk_Z} {τ σ : hk_v} {nw w : Nat} {x : Int64} {H : Heap} {locs : List Loc} {cells slots : Nat} {ls : Array Slot} {i : Nat} (hJ0 : lw_J D ax am G Z τ σ nw w x) (hH : hk_H D G (hk_cm τ σ) H) (hS : va_S (hk_A D) s.heap H locs) (hl : lv_has ls 4 [(3, .int (nI i)), (2, .ref am), (1, .ref ax), (0, .ref b)]) (hi : i + 4 ≤ L) (hL : L ≤ 2048) (hcl : cells + 5 ≤ 600000) (hsl : slots + 418 ≤ 7302250)
    (K : ∀ (G : hk_G) (Z : hk_Z) (τ σ : hk_v) (nw w : Nat) (x : Int64) (H : Heap) (locs : List Loc) (ce sl : Nat), lw_J D ax am G Z τ σ nw w x → hk_H D G (hk_cm τ σ) H → va_S (hk_A D) s.heap H locs → ce ≤ cells + 5 → sl ≤ slots + 418 → W p l e room_1 s m #[Value.ref b] below meth c H locs ce sl (lw_Z below #[Value.ref b] s) (F0 m 736 ls [])) : W p l e room_1 s m #[Value.ref b] below meth c H locs cells slots (lw_Z below #[Value.ref b] s) (F0 m 564 ls []) := by
  obtain ⟨hx, hb, hr, hml, hown, hts, hX, hbl, hlocks, hgv⟩ := id C0
  have ht : ∀ w ∈ lw_tg, w.before #[Value.ref b] s = true := fun w h => hts w (List.mem_filter.mp h).1
  have hown : s.vm.findClass RL = some m.cls := hown
  obtain ⟨hW, ⟨hJ, j1, j2⟩, rfl, rfl⟩ := hJ0
  refine lv_aload_n hx hb dL_law_564 rfl (lv_at hl 2 rfl) ?_
  refine lw_rd l C0 hK hDz (lv := []) hS (lv_at hl 3 rfl) (lv_at hl 0 rfl) hL (show i + 1 < L by omega) dL_law_565 dL_law_566 dL_law_567 rfl dL_law_568 dL_law_569 ?_
  refine lw_rd l C0 hK hDz (lv := []) hS (lv_at hl 3 rfl) (lv_at hl 0 rfl) hL (show i + 2 < L by omega) dL_law_570 dL_law_571 dL_law_572 rfl dL_law_573 dL_law_574 ?_
  refine hk_cV (G := G) (L := (.inl (0, 0))) (As := [.int (xs (i + 1)), .int (xs (i + 2))]) (rest := []) hx hb hml hl.1 ht hown hK hH hS (c_price l D G Z τ σ (xs (i + 1)) (xs (i + 2)) hW.1 hJ.n0) ymV_X10_price kc_11 hW.1.k0 tw_621 ⟨rfl, rfl⟩ ⟨Nat.le_of_ble_eq_true rfl, Nat.le_of_ble_eq_true rfl⟩ rfl rfl (Nat.le_of_ble_eq_true rfl) dL_law_575 ⟨by show cells + 0 ≤ 600000; omega, by show slots + 0 ≤ 7302250; omega⟩ (hk_ea (fun H locs hH hS => ?_))
  refine lv_aload_n hx hb dL_law_578 rfl (lv_at hl 1 rfl) ?_
  refine lw_rd l C0 hK hDz (lv := []) hS (lv_at hl 3 rfl) (lv_at hl 0 rfl) hL (show i + 1 < L by omega) dL_law_579 dL_law_580 dL_law_581 rfl dL_law_582 dL_law_583 ?_
  refine lw_rd l C0 hK hDz (lv := []) hS (lv_at hl 3 rfl) (lv_at hl 0 rfl) hL (show i + 2 < L by omega) dL_law_584 dL_law_585 dL_law_586 rfl dL_law_587 dL_law_588 ?_
  refine hk_cV (G := G) (L := (.inr (0, 0))) (As := [.int (xs (i + 1)), .int (xs (i + 2))]) (rest := [_]) hx hb hml hl.1 ht hown hK hH hS (c_m_price l D G Z (T_price τ (xs (i + 1)) (xs (i + 2))) σ (xs (i + 1)) (xs (i + 2)) hW.2.1 hJ.m29) ymV_X11_price kc_12 hW.2.1.k0 tw_928 ⟨rfl, rfl⟩ ⟨Nat.le_of_ble_eq_true rfl, Nat.le_of_ble_eq_true rfl⟩ rfl rfl (Nat.le_of_ble_eq_true rfl) dL_law_589 ⟨by show cells + 0 + 0 ≤ 600000; omega, by show slots + 0 + 0 ≤ 7302250; omega⟩ (hk_ea (fun H locs hH hS => ?_))
  have hrr := rr_priceq hJ (xs (i + 1)) (xs (i + 2))
  refine lv_icmp_eq (tgt := 736) hx hb dL_law_592 (by decide) (fun _ => K G Z (T_price τ (xs (i + 1)) (xs (i + 2))) (T_m_price σ (xs (i + 1)) (xs (i + 2))) nw w x _ _ (cells + 0 + 0) (slots + 0 + 0) ⟨hW, ⟨hrr.2, e8_price.trans j1, e8_price.trans j2⟩, rfl, rfl⟩ hH hS (by omega) (by omega)) (fun h => absurd hrr.1 h)
theorem ymV_X10_priced : hk_mV yX10_priced cX10_priced 2 (some FieldType.int) RX10 1 := ⟨tw_632, tw_630, tw_631, tw_34, rfl, by decide, by decide, by decide +kernel⟩
theorem ymV_X11_priced : hk_mV yX11_priced cX11_priced 2 (some FieldType.int) RX11 1 := ⟨tw_935, tw_933, tw_934, tw_42, rfl, by decide, by decide, by decide +kernel⟩
set_option maxHeartbeats 4000000 in
theorem law_c15 {p : Program} {e : Env} {s : State} {m : MethodId} {below : List Frame} {meth : Method} {c : Code} (l : Launch) {b L : Nat} {xs : Nat → Int32} (C0 : lw_At p s m meth c b L xs) {D : hk_D} (hK : hk_K D s) (hDz : D.2.1 = s.heap.size) {ax am : Nat} {G : hk_G} {Z : hk_Z} {τ σ : hk_v} {nw w : Nat} {x : Int64} {H : Heap} {locs : List Loc} {cells slots : Nat} {ls : Array Slot} {i : Nat} (hJ0 : lw_J D ax am G Z τ σ nw w x) (hH : hk_H D G (hk_cm τ σ) H) (hS : va_S (hk_A D) s.heap H locs) (hl : lv_has ls 4 [(3, .int (nI i)), (2, .ref am), (1, .ref ax), (0, .ref b)]) (hi : i + 4 ≤ L) (hL : L ≤ 2048) (hcl : cells + 5 ≤ 600000) (hsl : slots + 418 ≤ 7302250)
    (K : ∀ (G : hk_G) (Z : hk_Z) (τ σ : hk_v) (nw w : Nat) (x : Int64) (H : Heap) (locs : List Loc) (ce sl : Nat), lw_J D ax am G Z τ σ nw w x → hk_H D G (hk_cm τ σ) H → va_S (hk_A D) s.heap H locs → ce ≤ cells + 5 → sl ≤ slots + 418 → W p l e room_1 s m #[Value.ref b] below meth c H locs ce sl (lw_Z below #[Value.ref b] s) (F0 m 736 ls [])) : W p l e room_1 s m #[Value.ref b] below meth c H locs cells slots (lw_Z below #[Value.ref b] s) (F0 m 597 ls []) := by
  obtain ⟨hx, hb, hr, hml, hown, hts, hX, hbl, hlocks, hgv⟩ := id C0
  have ht : ∀ w ∈ lw_tg, w.before #[Value.ref b] s = true := fun w h => hts w (List.mem_filter.mp h).1
  have hown : s.vm.findClass RL = some m.cls := hown
  obtain ⟨hW, ⟨hJ, j1, j2⟩, rfl, rfl⟩ := hJ0
  refine lv_aload_n hx hb dL_law_597 rfl (lv_at hl 2 rfl) ?_
  refine lw_rd l C0 hK hDz (lv := []) hS (lv_at hl 3 rfl) (lv_at hl 0 rfl) hL (show i + 1 < L by omega) dL_law_598 dL_law_599 dL_law_600 rfl dL_law_601 dL_law_602 ?_
  refine hk_cV (G := G) (L := (.inl (0, 0))) (As := [.int (xs (i + 1))]) (rest := []) hx hb hml hl.1 ht hown hK hH hS (c_priced l D G Z τ σ (xs (i + 1)) hW.1 hJ.n0) ymV_X10_priced kc_11 hW.1.k0 tw_629 ⟨rfl, rfl⟩ ⟨Nat.le_of_ble_eq_true rfl, Nat.le_of_ble_eq_true rfl⟩ rfl rfl (Nat.le_of_ble_eq_true rfl) dL_law_603 ⟨by show cells + 0 ≤ 600000; omega, by show slots + 0 ≤ 7302250; omega⟩ (hk_ea (fun H locs hH hS => ?_))
  refine lv_aload_n hx hb dL_law_606 rfl (lv_at hl 1 rfl) ?_
  refine lw_rd l C0 hK hDz (lv := []) hS (lv_at hl 3 rfl) (lv_at hl 0 rfl) hL (show i + 1 < L by omega) dL_law_607 dL_law_608 dL_law_609 rfl dL_law_610 dL_law_611 ?_
  refine hk_cV (G := G) (L := (.inr (0, 0))) (As := [.int (xs (i + 1))]) (rest := [_]) hx hb hml hl.1 ht hown hK hH hS (c_m_priced l D G Z τ σ (xs (i + 1)) hW.2.1 hJ.m29) ymV_X11_priced kc_12 hW.2.1.k0 tw_932 ⟨rfl, rfl⟩ ⟨Nat.le_of_ble_eq_true rfl, Nat.le_of_ble_eq_true rfl⟩ rfl rfl (Nat.le_of_ble_eq_true rfl) dL_law_612 ⟨by show cells + 0 + 0 ≤ 600000; omega, by show slots + 0 + 0 ≤ 7302250; omega⟩ (hk_ea (fun H locs hH hS => ?_))
  have hrr := rr_priced hJ (xs (i + 1))
  refine lv_icmp_eq (tgt := 736) hx hb dL_law_615 (by decide) (fun _ => K G Z τ σ nw w x _ _ (cells + 0 + 0) (slots + 0 + 0) ⟨hW, ⟨hJ, j1, j2⟩, rfl, rfl⟩ hH hS (by omega) (by omega)) (fun h => absurd hrr h)
theorem ymV_X10_act : hk_mV yX10_act cX10_act 3 (some FieldType.int) RX10 2 := ⟨tw_636, tw_634, tw_635, tw_34, rfl, by decide, by decide, by decide +kernel⟩
theorem ymV_X11_act : hk_mV yX11_act cX11_act 3 (some FieldType.int) RX11 2 := ⟨tw_939, tw_937, tw_938, tw_42, rfl, by decide, by decide, by decide +kernel⟩
set_option maxHeartbeats 4000000 in
theorem law_c16 {p : Program} {e : Env} {s : State} {m : MethodId} {below : List Frame} {meth : Method} {c : Code} (l : Launch) {b L : Nat} {xs : Nat → Int32} (C0 : lw_At p s m meth c b L xs) {D : hk_D} (hK : hk_K D s) (hDz : D.2.1 = s.heap.size) {ax am : Nat} {G : hk_G} {Z : hk_Z} {τ σ : hk_v} {nw w : Nat} {x : Int64} {H : Heap} {locs : List Loc} {cells slots : Nat} {ls : Array Slot} {i : Nat} (hJ0 : lw_J D ax am G Z τ σ nw w x) (hH : hk_H D G (hk_cm τ σ) H) (hS : va_S (hk_A D) s.heap H locs) (hl : lv_has ls 4 [(3, .int (nI i)), (2, .ref am), (1, .ref ax), (0, .ref b)]) (hi : i + 4 ≤ L) (hL : L ≤ 2048) (hcl : cells + 5 ≤ 600000) (hsl : slots + 418 ≤ 7302250)
    (K : ∀ (G : hk_G) (Z : hk_Z) (τ σ : hk_v) (nw w : Nat) (x : Int64) (H : Heap) (locs : List Loc) (ce sl : Nat), lw_J D ax am G Z τ σ nw w x → hk_H D G (hk_cm τ σ) H → va_S (hk_A D) s.heap H locs → ce ≤ cells + 5 → sl ≤ slots + 418 → W p l e room_1 s m #[Value.ref b] below meth c H locs ce sl (lw_Z below #[Value.ref b] s) (F0 m 736 ls [])) : W p l e room_1 s m #[Value.ref b] below meth c H locs cells slots (lw_Z below #[Value.ref b] s) (F0 m 620 ls []) := by
  obtain ⟨hx, hb, hr, hml, hown, hts, hX, hbl, hlocks, hgv⟩ := id C0
  have ht : ∀ w ∈ lw_tg, w.before #[Value.ref b] s = true := fun w h => hts w (List.mem_filter.mp h).1
  have hown : s.vm.findClass RL = some m.cls := hown
  obtain ⟨hW, ⟨hJ, j1, j2⟩, rfl, rfl⟩ := hJ0
  refine lv_aload_n hx hb dL_law_620 rfl (lv_at hl 2 rfl) ?_
  refine lw_rd l C0 hK hDz (lv := []) hS (lv_at hl 3 rfl) (lv_at hl 0 rfl) hL (show i + 1 < L by omega) dL_law_621 dL_law_622 dL_law_623 rfl dL_law_624 dL_law_625 ?_
  refine lw_rd l C0 hK hDz (lv := []) hS (lv_at hl 3 rfl) (lv_at hl 0 rfl) hL (show i + 2 < L by omega) dL_law_626 dL_law_627 dL_law_628 rfl dL_law_629 dL_law_630 ?_
  refine hk_cV (G := G) (L := (.inl (0, 0))) (As := [.int (xs (i + 1)), .int (xs (i + 2))]) (rest := []) hx hb hml hl.1 ht hown hK hH hS (c_act l D G Z τ σ (xs (i + 1)) (xs (i + 2)) hW.1 hJ.n1) ymV_X10_act kc_11 hW.1.k0 tw_633 ⟨rfl, rfl⟩ ⟨Nat.le_of_ble_eq_true rfl, Nat.le_of_ble_eq_true rfl⟩ rfl rfl (Nat.le_of_ble_eq_true rfl) dL_law_631 ⟨by show cells + 0 ≤ 600000; omega, by show slots + 0 ≤ 7302250; omega⟩ (hk_ea (fun H locs hH hS => ?_))
  refine lv_aload_n hx hb dL_law_634 rfl (lv_at hl 1 rfl) ?_
  refine lw_rd l C0 hK hDz (lv := []) hS (lv_at hl 3 rfl) (lv_at hl 0 rfl) hL (show i + 1 < L by omega) dL_law_635 dL_law_636 dL_law_637 rfl dL_law_638 dL_law_639 ?_
  refine lw_rd l C0 hK hDz (lv := []) hS (lv_at hl 3 rfl) (lv_at hl 0 rfl) hL (show i + 2 < L by omega) dL_law_640 dL_law_641 dL_law_642 rfl dL_law_643 dL_law_644 ?_
  refine hk_cV (G := G) (L := (.inr (0, 0))) (As := [.int (xs (i + 1)), .int (xs (i + 2))]) (rest := [_]) hx hb hml hl.1 ht hown hK hH hS (c_m_act l D G Z (T_act τ (xs (i + 1)) (xs (i + 2))) σ (xs (i + 1)) (xs (i + 2)) hW.2.1 hJ.m32) ymV_X11_act kc_12 hW.2.1.k0 tw_936 ⟨rfl, rfl⟩ ⟨Nat.le_of_ble_eq_true rfl, Nat.le_of_ble_eq_true rfl⟩ rfl rfl (Nat.le_of_ble_eq_true rfl) dL_law_645 ⟨by show cells + 0 + 0 ≤ 600000; omega, by show slots + 0 + 0 ≤ 7302250; omega⟩ (hk_ea (fun H locs hH hS => ?_))
  have hrr := rr_actq hJ (xs (i + 1)) (xs (i + 2))
  refine lv_icmp_eq (tgt := 736) hx hb dL_law_648 (by decide) (fun _ => K G Z (T_act τ (xs (i + 1)) (xs (i + 2))) (T_m_act σ (xs (i + 1)) (xs (i + 2))) nw w x _ _ (cells + 0 + 0) (slots + 0 + 0) ⟨hW, ⟨hrr.2, e8_act.trans j1, e8_act.trans j2⟩, rfl, rfl⟩ hH hS (by omega) (by omega)) (fun h => absurd hrr.1 h)
theorem ymV_X10_duty : hk_mV yX10_duty cX10_duty 2 (some FieldType.int) RX10 1 := ⟨tw_640, tw_638, tw_639, tw_34, rfl, by decide, by decide, by decide +kernel⟩
theorem ymV_X11_duty : hk_mV yX11_duty cX11_duty 2 (some FieldType.int) RX11 1 := ⟨tw_943, tw_941, tw_942, tw_42, rfl, by decide, by decide, by decide +kernel⟩
set_option maxHeartbeats 4000000 in
theorem law_c17 {p : Program} {e : Env} {s : State} {m : MethodId} {below : List Frame} {meth : Method} {c : Code} (l : Launch) {b L : Nat} {xs : Nat → Int32} (C0 : lw_At p s m meth c b L xs) {D : hk_D} (hK : hk_K D s) (hDz : D.2.1 = s.heap.size) {ax am : Nat} {G : hk_G} {Z : hk_Z} {τ σ : hk_v} {nw w : Nat} {x : Int64} {H : Heap} {locs : List Loc} {cells slots : Nat} {ls : Array Slot} {i : Nat} (hJ0 : lw_J D ax am G Z τ σ nw w x) (hH : hk_H D G (hk_cm τ σ) H) (hS : va_S (hk_A D) s.heap H locs) (hl : lv_has ls 4 [(3, .int (nI i)), (2, .ref am), (1, .ref ax), (0, .ref b)]) (hi : i + 4 ≤ L) (hL : L ≤ 2048) (hcl : cells + 5 ≤ 600000) (hsl : slots + 418 ≤ 7302250)
    (K : ∀ (G : hk_G) (Z : hk_Z) (τ σ : hk_v) (nw w : Nat) (x : Int64) (H : Heap) (locs : List Loc) (ce sl : Nat), lw_J D ax am G Z τ σ nw w x → hk_H D G (hk_cm τ σ) H → va_S (hk_A D) s.heap H locs → ce ≤ cells + 5 → sl ≤ slots + 418 → W p l e room_1 s m #[Value.ref b] below meth c H locs ce sl (lw_Z below #[Value.ref b] s) (F0 m 736 ls [])) : W p l e room_1 s m #[Value.ref b] below meth c H locs cells slots (lw_Z below #[Value.ref b] s) (F0 m 653 ls []) := by
  obtain ⟨hx, hb, hr, hml, hown, hts, hX, hbl, hlocks, hgv⟩ := id C0
  have ht : ∀ w ∈ lw_tg, w.before #[Value.ref b] s = true := fun w h => hts w (List.mem_filter.mp h).1
  have hown : s.vm.findClass RL = some m.cls := hown
  obtain ⟨hW, ⟨hJ, j1, j2⟩, rfl, rfl⟩ := hJ0
  refine lv_aload_n hx hb dL_law_653 rfl (lv_at hl 2 rfl) ?_
  refine lw_rd l C0 hK hDz (lv := []) hS (lv_at hl 3 rfl) (lv_at hl 0 rfl) hL (show i + 1 < L by omega) dL_law_654 dL_law_655 dL_law_656 rfl dL_law_657 dL_law_658 ?_
  refine hk_cV (G := G) (L := (.inl (0, 0))) (As := [.int (xs (i + 1))]) (rest := []) hx hb hml hl.1 ht hown hK hH hS (c_duty l D G Z τ σ (xs (i + 1)) hW.1 hJ.n1) ymV_X10_duty kc_11 hW.1.k0 tw_637 ⟨rfl, rfl⟩ ⟨Nat.le_of_ble_eq_true rfl, Nat.le_of_ble_eq_true rfl⟩ rfl rfl (Nat.le_of_ble_eq_true rfl) dL_law_659 ⟨by show cells + 0 ≤ 600000; omega, by show slots + 0 ≤ 7302250; omega⟩ (hk_ea (fun H locs hH hS => ?_))
  refine lv_aload_n hx hb dL_law_662 rfl (lv_at hl 1 rfl) ?_
  refine lw_rd l C0 hK hDz (lv := []) hS (lv_at hl 3 rfl) (lv_at hl 0 rfl) hL (show i + 1 < L by omega) dL_law_663 dL_law_664 dL_law_665 rfl dL_law_666 dL_law_667 ?_
  refine hk_cV (G := G) (L := (.inr (0, 0))) (As := [.int (xs (i + 1))]) (rest := [_]) hx hb hml hl.1 ht hown hK hH hS (c_m_duty l D G Z τ σ (xs (i + 1)) hW.2.1 hJ.m32) ymV_X11_duty kc_12 hW.2.1.k0 tw_940 ⟨rfl, rfl⟩ ⟨Nat.le_of_ble_eq_true rfl, Nat.le_of_ble_eq_true rfl⟩ rfl rfl (Nat.le_of_ble_eq_true rfl) dL_law_668 ⟨by show cells + 0 + 0 ≤ 600000; omega, by show slots + 0 + 0 ≤ 7302250; omega⟩ (hk_ea (fun H locs hH hS => ?_))
  have hrr := rr_dutyq hJ (xs (i + 1))
  refine lv_icmp_eq (tgt := 736) hx hb dL_law_671 (by decide) (fun _ => K G Z τ σ nw w x _ _ (cells + 0 + 0) (slots + 0 + 0) ⟨hW, ⟨hJ, j1, j2⟩, rfl, rfl⟩ hH hS (by omega) (by omega)) (fun h => absurd hrr h)
theorem ymV_X10_bound : hk_mV yX10_bound cX10_bound 3 (some FieldType.int) RX10 0 := ⟨tw_644, tw_642, tw_643, tw_34, rfl, by decide, by decide, by decide +kernel⟩
theorem ymV_X11_bound : hk_mV yX11_bound cX11_bound 4 (some FieldType.int) RX11 0 := ⟨tw_947, tw_945, tw_946, tw_42, rfl, by decide, by decide, by decide +kernel⟩
set_option maxHeartbeats 4000000 in
theorem law_c18 {p : Program} {e : Env} {s : State} {m : MethodId} {below : List Frame} {meth : Method} {c : Code} (l : Launch) {b L : Nat} {xs : Nat → Int32} (C0 : lw_At p s m meth c b L xs) {D : hk_D} (hK : hk_K D s) (hDz : D.2.1 = s.heap.size) {ax am : Nat} {G : hk_G} {Z : hk_Z} {τ σ : hk_v} {nw w : Nat} {x : Int64} {H : Heap} {locs : List Loc} {cells slots : Nat} {ls : Array Slot} {i : Nat} (hJ0 : lw_J D ax am G Z τ σ nw w x) (hH : hk_H D G (hk_cm τ σ) H) (hS : va_S (hk_A D) s.heap H locs) (hl : lv_has ls 4 [(3, .int (nI i)), (2, .ref am), (1, .ref ax), (0, .ref b)]) (hi : i + 4 ≤ L) (hL : L ≤ 2048) (hcl : cells + 5 ≤ 600000) (hsl : slots + 418 ≤ 7302250)
    (K : ∀ (G : hk_G) (Z : hk_Z) (τ σ : hk_v) (nw w : Nat) (x : Int64) (H : Heap) (locs : List Loc) (ce sl : Nat), lw_J D ax am G Z τ σ nw w x → hk_H D G (hk_cm τ σ) H → va_S (hk_A D) s.heap H locs → ce ≤ cells + 5 → sl ≤ slots + 418 → W p l e room_1 s m #[Value.ref b] below meth c H locs ce sl (lw_Z below #[Value.ref b] s) (F0 m 736 ls [])) : W p l e room_1 s m #[Value.ref b] below meth c H locs cells slots (lw_Z below #[Value.ref b] s) (F0 m 676 ls []) := by
  obtain ⟨hx, hb, hr, hml, hown, hts, hX, hbl, hlocks, hgv⟩ := id C0
  have ht : ∀ w ∈ lw_tg, w.before #[Value.ref b] s = true := fun w h => hts w (List.mem_filter.mp h).1
  have hown : s.vm.findClass RL = some m.cls := hown
  obtain ⟨hW, ⟨hJ, j1, j2⟩, rfl, rfl⟩ := hJ0
  refine lv_aload_n hx hb dL_law_676 rfl (lv_at hl 2 rfl) ?_
  refine hk_cV (G := G) (L := (.inl (0, 0))) (As := []) (rest := []) hx hb hml hl.1 ht hown hK hH hS (c_bound l D G Z τ σ  hW.1 hJ.sz) ymV_X10_bound kc_11 hW.1.k0 tw_641 ⟨rfl, rfl⟩ ⟨Nat.le_of_ble_eq_true rfl, Nat.le_of_ble_eq_true rfl⟩ rfl rfl (Nat.le_of_ble_eq_true rfl) dL_law_677 ⟨by show cells + 0 ≤ 600000; omega, by show slots + 0 ≤ 7302250; omega⟩ (hk_ea (fun H locs hH hS => ?_))
  refine lv_aload_n hx hb dL_law_680 rfl (lv_at hl 1 rfl) ?_
  refine hk_cV (G := G) (L := (.inr (0, 0))) (As := []) (rest := [_]) hx hb hml hl.1 ht hown hK hH hS (c_m_bound l D G Z τ σ  hW.2.1 hJ.mz hJ.dk) ymV_X11_bound kc_12 hW.2.1.k0 tw_944 ⟨rfl, rfl⟩ ⟨Nat.le_of_ble_eq_true rfl, Nat.le_of_ble_eq_true rfl⟩ rfl rfl (Nat.le_of_ble_eq_true rfl) dL_law_681 ⟨by show cells + 0 + 0 ≤ 600000; omega, by show slots + 0 + 0 ≤ 7302250; omega⟩ (hk_ea (fun H locs hH hS => ?_))
  have hrr := rr_boundq hJ
  refine lv_icmp_eq (tgt := 736) hx hb dL_law_684 (by decide) (fun _ => K G Z τ σ nw w x _ _ (cells + 0 + 0) (slots + 0 + 0) ⟨hW, ⟨hJ, j1, j2⟩, rfl, rfl⟩ hH hS (by omega) (by omega)) (fun h => absurd hrr h)
theorem ymV_X10_most : hk_mV yX10_most cX10_most 5 (some FieldType.int) RX10 2 := ⟨tw_654, tw_652, tw_653, tw_34, rfl, by decide, by decide, by decide +kernel⟩
theorem ymV_X11_most : hk_mV yX11_most cX11_most 8 (some FieldType.int) RX11 2 := ⟨tw_951, tw_949, tw_950, tw_42, rfl, by decide, by decide, by decide +kernel⟩
set_option maxHeartbeats 4000000 in
theorem law_c19 {p : Program} {e : Env} {s : State} {m : MethodId} {below : List Frame} {meth : Method} {c : Code} (l : Launch) {b L : Nat} {xs : Nat → Int32} (C0 : lw_At p s m meth c b L xs) {D : hk_D} (hK : hk_K D s) (hDz : D.2.1 = s.heap.size) {ax am : Nat} {G : hk_G} {Z : hk_Z} {τ σ : hk_v} {nw w : Nat} {x : Int64} {H : Heap} {locs : List Loc} {cells slots : Nat} {ls : Array Slot} {i : Nat} (hJ0 : lw_J D ax am G Z τ σ nw w x) (hH : hk_H D G (hk_cm τ σ) H) (hS : va_S (hk_A D) s.heap H locs) (hl : lv_has ls 4 [(3, .int (nI i)), (2, .ref am), (1, .ref ax), (0, .ref b)]) (hi : i + 4 ≤ L) (hL : L ≤ 2048) (hcl : cells + 5 ≤ 600000) (hsl : slots + 418 ≤ 7302250)
    (K : ∀ (G : hk_G) (Z : hk_Z) (τ σ : hk_v) (nw w : Nat) (x : Int64) (H : Heap) (locs : List Loc) (ce sl : Nat), lw_J D ax am G Z τ σ nw w x → hk_H D G (hk_cm τ σ) H → va_S (hk_A D) s.heap H locs → ce ≤ cells + 5 → sl ≤ slots + 418 → W p l e room_1 s m #[Value.ref b] below meth c H locs ce sl (lw_Z below #[Value.ref b] s) (F0 m 736 ls [])) : W p l e room_1 s m #[Value.ref b] below meth c H locs cells slots (lw_Z below #[Value.ref b] s) (F0 m 689 ls []) := by
  obtain ⟨hx, hb, hr, hml, hown, hts, hX, hbl, hlocks, hgv⟩ := id C0
  have ht : ∀ w ∈ lw_tg, w.before #[Value.ref b] s = true := fun w h => hts w (List.mem_filter.mp h).1
  have hown : s.vm.findClass RL = some m.cls := hown
  obtain ⟨hW, ⟨hJ, j1, j2⟩, rfl, rfl⟩ := hJ0
  refine lv_aload_n hx hb dL_law_689 rfl (lv_at hl 2 rfl) ?_
  refine lw_rd l C0 hK hDz (lv := []) hS (lv_at hl 3 rfl) (lv_at hl 0 rfl) hL (show i + 1 < L by omega) dL_law_690 dL_law_691 dL_law_692 rfl dL_law_693 dL_law_694 ?_
  refine lw_rd l C0 hK hDz (lv := []) hS (lv_at hl 3 rfl) (lv_at hl 0 rfl) hL (show i + 2 < L by omega) dL_law_695 dL_law_696 dL_law_697 rfl dL_law_698 dL_law_699 ?_
  refine hk_cV (G := G) (L := (.inl (0, 0))) (As := [.int (xs (i + 1)), .int (xs (i + 2))]) (rest := []) hx hb hml hl.1 ht hown hK hH hS (c_most l D G Z τ σ (xs (i + 1)) (xs (i + 2)) hW.1 hJ.sz hJ.sz.2.2.1) ymV_X10_most kc_11 hW.1.k0 tw_651 ⟨rfl, rfl⟩ ⟨Nat.le_of_ble_eq_true rfl, Nat.le_of_ble_eq_true rfl⟩ rfl rfl (Nat.le_of_ble_eq_true rfl) dL_law_700 ⟨by show cells + 0 ≤ 600000; omega, by show slots + 0 ≤ 7302250; omega⟩ (hk_ea (fun H locs hH hS => ?_))
  refine lv_aload_n hx hb dL_law_703 rfl (lv_at hl 1 rfl) ?_
  refine lw_rd l C0 hK hDz (lv := []) hS (lv_at hl 3 rfl) (lv_at hl 0 rfl) hL (show i + 1 < L by omega) dL_law_704 dL_law_705 dL_law_706 rfl dL_law_707 dL_law_708 ?_
  refine lw_rd l C0 hK hDz (lv := []) hS (lv_at hl 3 rfl) (lv_at hl 0 rfl) hL (show i + 2 < L by omega) dL_law_709 dL_law_710 dL_law_711 rfl dL_law_712 dL_law_713 ?_
  refine hk_cV (G := G) (L := (.inr (0, 0))) (As := [.int (xs (i + 1)), .int (xs (i + 2))]) (rest := [_]) hx hb hml hl.1 ht hown hK hH hS (c_m_most l D G Z (T_most Z τ (xs (i + 1)) (xs (i + 2))) σ (xs (i + 1)) (xs (i + 2)) hW.2.1 hJ.mz) ymV_X11_most kc_12 hW.2.1.k0 tw_948 ⟨rfl, rfl⟩ ⟨Nat.le_of_ble_eq_true rfl, Nat.le_of_ble_eq_true rfl⟩ rfl rfl (Nat.le_of_ble_eq_true rfl) dL_law_714 ⟨by show cells + 0 + 0 ≤ 600000; omega, by show slots + 0 + 0 ≤ 7302250; omega⟩ (hk_ea (fun H locs hH hS => ?_))
  obtain ⟨hrr, hrr2, hrr3, hrr4⟩ := rr_most hJ j1 j2 (xs (i + 1)) (xs (i + 2))
  refine lv_icmp_eq (tgt := 736) hx hb dL_law_717 (by decide) (fun _ => K G Z (T_most Z τ (xs (i + 1)) (xs (i + 2))) (T_m_most Z σ (xs (i + 1)) (xs (i + 2))) nw w x _ _ (cells + 0 + 0) (slots + 0 + 0) ⟨hW, ⟨hrr2, hrr3, hrr4⟩, rfl, rfl⟩ hH hS (by omega) (by omega)) (fun h => absurd hrr h)
theorem ymV_X10_trace : hk_mV yX10_trace cX10_trace 1 (some FieldType.long) RX10 0 := ⟨tw_685, tw_683, tw_684, tw_34, rfl, by decide, by decide, by decide +kernel⟩
theorem ymV_X11_trace : hk_mV yX11_trace cX11_trace 1 (some FieldType.long) RX11 0 := ⟨tw_959, tw_957, tw_958, tw_42, rfl, by decide, by decide, by decide +kernel⟩
set_option maxHeartbeats 4000000 in
theorem law_c20 {p : Program} {e : Env} {s : State} {m : MethodId} {below : List Frame} {meth : Method} {c : Code} (l : Launch) {b L : Nat} {xs : Nat → Int32} (C0 : lw_At p s m meth c b L xs) {D : hk_D} (hK : hk_K D s) (hDz : D.2.1 = s.heap.size) {ax am : Nat} {G : hk_G} {Z : hk_Z} {τ σ : hk_v} {nw w : Nat} {x : Int64} {H : Heap} {locs : List Loc} {cells slots : Nat} {ls : Array Slot} {i : Nat} (hJ0 : lw_J D ax am G Z τ σ nw w x) (hH : hk_H D G (hk_cm τ σ) H) (hS : va_S (hk_A D) s.heap H locs) (hl : lv_has ls 4 [(3, .int (nI i)), (2, .ref am), (1, .ref ax), (0, .ref b)]) (hi : i + 4 ≤ L) (hL : L ≤ 2048) (hcl : cells + 5 ≤ 600000) (hsl : slots + 418 ≤ 7302250)
    (K : ∀ (G : hk_G) (Z : hk_Z) (τ σ : hk_v) (nw w : Nat) (x : Int64) (H : Heap) (locs : List Loc) (ce sl : Nat), lw_J D ax am G Z τ σ nw w x → hk_H D G (hk_cm τ σ) H → va_S (hk_A D) s.heap H locs → ce ≤ cells + 5 → sl ≤ slots + 418 → W p l e room_1 s m #[Value.ref b] below meth c H locs ce sl (lw_Z below #[Value.ref b] s) (F0 m 736 ls [])) : W p l e room_1 s m #[Value.ref b] below meth c H locs cells slots (lw_Z below #[Value.ref b] s) (F0 m 722 ls []) := by
  obtain ⟨hx, hb, hr, hml, hown, hts, hX, hbl, hlocks, hgv⟩ := id C0
  have ht : ∀ w ∈ lw_tg, w.before #[Value.ref b] s = true := fun w h => hts w (List.mem_filter.mp h).1
  have hown : s.vm.findClass RL = some m.cls := hown
  obtain ⟨hW, ⟨hJ, j1, j2⟩, rfl, rfl⟩ := hJ0
  refine lv_aload_n hx hb dL_law_722 rfl (lv_at hl 2 rfl) ?_
  refine hk_cV (G := G) (L := (.inl (0, 0))) (As := []) (rest := []) hx hb hml hl.1 ht hown hK hH hS (c_trace l D G Z τ σ x x hW) ymV_X10_trace kc_11 hW.1.k0 tw_682 ⟨rfl, rfl⟩ ⟨Nat.le_of_ble_eq_true rfl, Nat.le_of_ble_eq_true rfl⟩ rfl rfl (Nat.le_of_ble_eq_true rfl) dL_law_723 ⟨by show cells + 0 ≤ 600000; omega, by show slots + 0 ≤ 7302250; omega⟩ (hk_ea (fun H locs hH hS => ?_))
  refine lv_aload_n hx hb dL_law_726 rfl (lv_at hl 1 rfl) ?_
  refine hk_cV (G := G) (L := (.inr (0, 0))) (As := []) (rest := [.long x]) hx hb hml hl.1 ht hown hK hH hS (c_m_trace l D G Z τ σ x x hW) ymV_X11_trace kc_12 hW.2.1.k0 tw_956 ⟨rfl, rfl⟩ ⟨Nat.le_of_ble_eq_true rfl, Nat.le_of_ble_eq_true rfl⟩ rfl rfl (Nat.le_of_ble_eq_true rfl) dL_law_727 ⟨by show cells + 0 + 0 ≤ 600000; omega, by show slots + 0 + 0 ≤ 7302250; omega⟩ (hk_ea (fun H locs hH hS => ?_))
  refine W.lcmp hx hb dL_law_730 ?_
  refine lv_if_eq (tgt := 736) hx hb dL_law_731 (by decide) (fun _ => K G Z τ σ nw w x _ _ (cells + 0 + 0) (slots + 0 + 0) ⟨hW, ⟨hJ, j1, j2⟩, rfl, rfl⟩ hH hS (by omega) (by omega)) (fun h => absurd (by unfold lg_cmp; simp) h)
