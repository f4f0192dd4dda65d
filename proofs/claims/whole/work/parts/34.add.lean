/-- a list that got one more -/
def hk_gr (G G1 : hk_G) (J n b : Nat) : Prop :=
  G1.2.2 (.inl (1, J)) 1 = .ref (G1.1 (.inl (2, J))) ∧ G1.2.1 (.inl (2, J)) = some (.inr (.inr 10)) ∧ G1.2.2 (.inl (2, J)) n = .ref b ∧ (∀ i, i < n → G1.2.2 (.inl (2, J)) i = G.2.2 (.inl (2, J)) i) ∧
  (∀ L, ¬ L = .inl (2, J) → G1.1 L = G.1 L ∧ G1.2.1 L = G.2.1 L) ∧ (0 < n → G1.1 (.inl (2, J)) = G.1 (.inl (2, J))) ∧ (∀ L j, ¬ L = .inl (2, J) → ¬ (L = .inl (1, J) ∧ j = 1) → G1.2.2 L j = G.2.2 L j)
theorem hk_gr0 {G : hk_G} {J a b : Nat} : hk_gr G (hk_rf (hk_rf (hk_add G (.inl (2, J)) a (.inr (.inr 10)) (fun _ => .null)) (.inl (1, J)) 1 (.ref a)) (.inl (2, J)) 0 (.ref b)) J 0 b := by
  refine ⟨by simp [hk_rf, hk_add], by simp [hk_rf, hk_add], by simp [hk_rf, hk_add], fun i h => by omega, fun L h => by simp [hk_rf, hk_add, h], fun h => by omega, fun L j h1 h2 => ?_⟩
  show (if L = .inl (2, J) ∧ j = 0 then _ else if L = .inl (1, J) ∧ j = 1 then _ else if L = .inl (2, J) then _ else _) = _
  rw [if_neg (fun q => h1 q.1), if_neg h2, if_neg h1]
theorem hk_gr1 {G : hk_G} {J n b : Nat} (h1 : G.2.2 (.inl (1, J)) 1 = .ref (G.1 (.inl (2, J)))) (h2 : G.2.1 (.inl (2, J)) = some (.inr (.inr 10))) : hk_gr G (hk_rf G (.inl (2, J)) n (.ref b)) J n b := by
  refine ⟨by simp [hk_rf, h1], h2, by simp [hk_rf], fun i h => ?_, fun L h => ⟨rfl, rfl⟩, fun h => rfl, fun L j h1 h2 => ?_⟩
  · show (if _ ∧ i = n then _ else _) = _
    rw [if_neg (fun q => by omega)]
  · show (if L = .inl (2, J) ∧ j = n then _ else _) = _
    rw [if_neg (fun q => h1 q.1)]
theorem ymV_Jx4a65c_add_72be8 : hk_mV yJx4a65c_add_72be8 cJx4a65c_add_72be8 4 none RJx4a65c 3 := ⟨tw_247, tw_246, tw_0, tw_37, rfl, by decide, by decide, by decide +kernel⟩
set_option maxHeartbeats 4000000 in
set_option maxRecDepth 100000 in
theorem c_ladd (l : Launch) (D : hk_D) (G : hk_G) (τ σ : hk_v) (J : Nat) (a : Nat) (b : Nat) (Le : hk_L) (ci : Nat) (r : vw_C) (n : Nat) (ha : G.1 (.inl (1, J)) = a) (hk : G.2.1 (.inl (1, J)) = some (.inl 0)) (he : n = 0 → G.2.2 (.inl (1, J)) 1 = .ref D.2.2) (hnn : n = 0 → G.2.1 (.inl (2, J)) = none) (hp : 0 < n → G.2.2 (.inl (1, J)) 1 = .ref (G.1 (.inl (2, J)))) (hkk : 0 < n → G.2.1 (.inl (2, J)) = some (.inr (.inr 10))) (hsz : τ (1, J) 2 = nI n) (hn1 : n < 10) (hb0 : G.1 Le = b) (hke : G.2.1 Le = some (.inl ci)) (hLe : ¬ Le = .inl (2, J)) (hvc : vwCl[ci]? = some r) (hca : Cond.castable r.1 "java/lang/Object" ∈ hk_nw) : Met l yJx4a65c_add_9ea2d (hk_ws yJx4a65c_add_9ea2d cJx4a65c_add_9ea2d 2 (some FieldType.boolean)) ({ frames := 4, cells := 1, slots := 10, locals := 80 }) (hk_P D G (hk_cm τ σ) [.ref a, .ref b]) (hk_Q D (fun v' G' iv' => some (.int 1) = v' ∧ iv' = hk_cm (hk_u (hk_u τ (1, J) 0 (τ (1, J) 0 + 1)) (1, J) 2 (nI (n + 1))) σ ∧ hk_gr G G' J n b)) 1 10 (hk_A D) := by
  refine hk_met (by decide +kernel) (Nat.le_of_ble_eq_true rfl) (fun p e s m below meth c hx hb hr hml hlocks ht hown hin hK hH hS ls hl => ?_)
  have hl : lv_has ls 2 [(0, .ref a), (1, .ref b)] := hl
  rcases Nat.eq_zero_or_pos n with hz | hz
  · subst hz
    have hel := he rfl
    have hn0 := hnn rfl
    refine lv_aload_n hx hb dJx4a65c_add_9ea2d_0 rfl (lv_at hl 0 rfl) ?_
    refine lv_dup hx hb dJx4a65c_add_9ea2d_1 rfl ?_
    refine hk_mget (G := G) (L := (.inl (1, J))) (v := τ (1, J) 0) (by simp [hk_add, hk_rf, ha, hk, hel, hn0, hb0, hke, hLe]) hx hb ht hown hK hH (by simp [hk_add, hk_rf, ha, hk, hel, hn0, hb0, hke, hLe]) tw_80 rfl dJx4a65c_add_9ea2d_2 ?_
    refine lv_iconst (v := 1) hx hb dJx4a65c_add_9ea2d_5 (by decide) ?_
    refine lv_iadd hx hb dJx4a65c_add_9ea2d_6 ?_
    refine hk_mput (G := G) (L := (.inl (1, J))) (by simp [hk_add, hk_rf, ha, hk, hel, hn0, hb0, hke, hLe]) hx hb ht hown hK hH hS (by simp [hk_add, hk_rf, ha, hk, hel, hn0, hb0, hke, hLe]) tw_80 dJx4a65c_add_9ea2d_7 (fun H locs hH hS => ?_)
    rw [hk_up_l] at hH
    refine lv_aload_n hx hb dJx4a65c_add_9ea2d_10 rfl (lv_at hl 0 rfl) ?_
    refine lv_aload_n hx hb dJx4a65c_add_9ea2d_11 rfl (lv_at hl 1 rfl) ?_
    refine lv_aload_n hx hb dJx4a65c_add_9ea2d_12 rfl (lv_at hl 0 rfl) ?_
    refine hk_getr_a (G := G) (L := (.inl (1, J))) (v := .ref D.2.2) (by simp [hk_add, hk_rf, ha, hk, hel, hn0, hb0, hke, hLe]) hx hb ht hown hK hH kc_0 (by simp [hk_add, hk_rf, ha, hk, hel, hn0, hb0, hke, hLe]) 1 (by decide) rfl tw_77 rfl (by simp [hk_add, hk_rf, ha, hk, hel, hn0, hb0, hke, hLe]) dJx4a65c_add_9ea2d_13 ?_
    refine lv_aload_n hx hb dJx4a65c_add_9ea2d_16 rfl (lv_at hl 0 rfl) ?_
    refine hk_geti_a (G := G) (L := (.inl (1, J))) (v := nI 0) (by simp [hk_add, hk_rf, ha, hk, hel, hn0, hb0, hke, hLe]) hx hb ht hown hK hH kc_0 (by simp [hk_add, hk_rf, ha, hk, hel, hn0, hb0, hke, hLe]) 2 (by decide) rfl tw_78 rfl (by simp [hk_cm, hk_u_ap, hsz]) dJx4a65c_add_9ea2d_17 ?_
    refine hk_cV_a (G := G) (L := (.inl (1, J))) (As := [.ref b, .ref D.2.2, .int (nI 0)]) (rest := []) (by simp [hk_add, hk_rf, ha, hk, hel, hn0, hb0, hke, hLe]) hx hb hml hl.1 ht hown hK hH hS (c_add3z l D G (hk_u τ (1, J) 0 ((τ (1, J) 0) + 1)) σ J a b Le ci r (by simp [hk_add, hk_rf, ha, hk, hel, hn0, hb0, hke, hLe]) (by simp [hk_add, hk_rf, ha, hk, hel, hn0, hb0, hke, hLe]) (by simp [hk_add, hk_rf, ha, hk, hel, hn0, hb0, hke, hLe]) (by simp [hk_add, hk_rf, ha, hk, hel, hn0, hb0, hke, hLe]) (by simp [hk_u_ap, hsz]) hb0 hke hLe hvc hca) ymV_Jx4a65c_add_72be8 kc_0 (by simp [hk_add, hk_rf, ha, hk, hel, hn0, hb0, hke, hLe]) tw_244 ⟨rfl, rfl⟩ ⟨Nat.le_of_ble_eq_true rfl, Nat.le_of_ble_eq_true rfl⟩ rfl rfl (Nat.le_of_ble_eq_true rfl) dJx4a65c_add_9ea2d_20 ⟨Nat.le_of_ble_eq_true rfl, Nat.le_of_ble_eq_true rfl⟩ (fun v G1 iv H locs hP hH hS => ?_)
    obtain ⟨rfl, b1_0, hG1, rfl⟩ := hP
    refine lv_iconst (v := 1) hx hb dJx4a65c_add_9ea2d_23 (by decide) ?_
    refine W.widen (k := 1) (n := 10) (by show _ ≤ 1; omega) (by show _ ≤ 10; omega) ?_
    exact hk_zret hx hb hr hlocks (by decide) hH hS ⟨rfl, rfl, (by rw [hG1]; exact hk_gr0)⟩ dJx4a65c_add_9ea2d_24
  · have hel := hp hz
    have hk2 := hkk hz
    refine lv_aload_n hx hb dJx4a65c_add_9ea2d_0 rfl (lv_at hl 0 rfl) ?_
    refine lv_dup hx hb dJx4a65c_add_9ea2d_1 rfl ?_
    refine hk_mget (G := G) (L := (.inl (1, J))) (v := τ (1, J) 0) (by simp [hk_add, hk_rf, ha, hk, hel, hk2, hb0, hke, hLe]) hx hb ht hown hK hH (by simp [hk_add, hk_rf, ha, hk, hel, hk2, hb0, hke, hLe]) tw_80 rfl dJx4a65c_add_9ea2d_2 ?_
    refine lv_iconst (v := 1) hx hb dJx4a65c_add_9ea2d_5 (by decide) ?_
    refine lv_iadd hx hb dJx4a65c_add_9ea2d_6 ?_
    refine hk_mput (G := G) (L := (.inl (1, J))) (by simp [hk_add, hk_rf, ha, hk, hel, hk2, hb0, hke, hLe]) hx hb ht hown hK hH hS (by simp [hk_add, hk_rf, ha, hk, hel, hk2, hb0, hke, hLe]) tw_80 dJx4a65c_add_9ea2d_7 (fun H locs hH hS => ?_)
    rw [hk_up_l] at hH
    refine lv_aload_n hx hb dJx4a65c_add_9ea2d_10 rfl (lv_at hl 0 rfl) ?_
    refine lv_aload_n hx hb dJx4a65c_add_9ea2d_11 rfl (lv_at hl 1 rfl) ?_
    refine lv_aload_n hx hb dJx4a65c_add_9ea2d_12 rfl (lv_at hl 0 rfl) ?_
    refine hk_getr_a (G := G) (L := (.inl (1, J))) (v := .ref (G.1 (.inl (2, J)))) (by simp [hk_add, hk_rf, ha, hk, hel, hk2, hb0, hke, hLe]) hx hb ht hown hK hH kc_0 (by simp [hk_add, hk_rf, ha, hk, hel, hk2, hb0, hke, hLe]) 1 (by decide) rfl tw_77 rfl (by simp [hk_add, hk_rf, ha, hk, hel, hk2, hb0, hke, hLe]) dJx4a65c_add_9ea2d_13 ?_
    refine lv_aload_n hx hb dJx4a65c_add_9ea2d_16 rfl (lv_at hl 0 rfl) ?_
    refine hk_geti_a (G := G) (L := (.inl (1, J))) (v := nI n) (by simp [hk_add, hk_rf, ha, hk, hel, hk2, hb0, hke, hLe]) hx hb ht hown hK hH kc_0 (by simp [hk_add, hk_rf, ha, hk, hel, hk2, hb0, hke, hLe]) 2 (by decide) rfl tw_78 rfl (by simp [hk_cm, hk_u_ap, hsz]) dJx4a65c_add_9ea2d_17 ?_
    refine hk_cV_a (G := G) (L := (.inl (1, J))) (As := [.ref b, .ref (G.1 (.inl (2, J))), .int (nI n)]) (rest := []) (by simp [hk_add, hk_rf, ha, hk, hel, hk2, hb0, hke, hLe]) hx hb hml hl.1 ht hown hK hH hS (c_add3n l D G (hk_u τ (1, J) 0 ((τ (1, J) 0) + 1)) σ J a b Le ci r n (G.1 (.inl (2, J))) (by simp [hk_add, hk_rf, ha, hk, hel, hk2, hb0, hke, hLe]) (by simp [hk_add, hk_rf, ha, hk, hel, hk2, hb0, hke, hLe]) rfl hk2 hn1 hb0 hke hLe hvc hca) ymV_Jx4a65c_add_72be8 kc_0 (by simp [hk_add, hk_rf, ha, hk, hel, hk2, hb0, hke, hLe]) tw_244 ⟨rfl, rfl⟩ ⟨Nat.le_of_ble_eq_true rfl, Nat.le_of_ble_eq_true rfl⟩ rfl rfl (Nat.le_of_ble_eq_true rfl) dJx4a65c_add_9ea2d_20 ⟨Nat.le_of_ble_eq_true rfl, Nat.le_of_ble_eq_true rfl⟩ (fun v G2 iv H locs hP hH hS => ?_)
    obtain ⟨rfl, hG2, rfl⟩ := hP
    refine lv_iconst (v := 1) hx hb dJx4a65c_add_9ea2d_23 (by decide) ?_
    refine W.widen (k := 1) (n := 10) (by show _ ≤ 1; omega) (by show _ ≤ 10; omega) ?_
    exact hk_zret hx hb hr hlocks (by decide) hH hS ⟨rfl, rfl, (by rw [hG2]; exact hk_gr1 hel hk2)⟩ dJx4a65c_add_9ea2d_24
