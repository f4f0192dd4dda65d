/-! the world by logical places: a place is in the system's half (inl) or the reference's (inr); the ints of all cells are one function of place and slot -/
abbrev hk_D : Type := (va_G × (ClassId × ClassId)) × (Nat × Nat)
abbrev hk_L : Type := (Nat × Nat) ⊕ (Nat × Nat)
abbrev hk_k : Type := Nat ⊕ (Nat ⊕ Nat)
abbrev hk_G : Type := (hk_L → Nat) × ((hk_L → Option hk_k) × (hk_L → Nat → Value))
abbrev hk_V : Type := hk_L → Nat → Int32
def hk_mask : List (List Bool) := [[true, false, true], [false, false, false, true], [], [], [true, true, true, true, true, true], [true, true, true, true, true, true], [false, true], [false, true, false, false, true, true, true, true], [false, false, true, true], [], [false, false, true, true, true], [false, false, false, false, false, false, false, false, true, true, false], [true, true, true, false, false, false, false, false, false, true, false, false, false, false, false, false, false, true, false, false, false, false, false, false, true, false, false, true, true, true, false, false, true, false, false, false, false]]
def hk_int (ci k : Nat) : Bool := (hk_mask.getD ci []).getD k false
def hk_ob (G : hk_G) (iv : hk_V) (ci : Nat) (L : hk_L) : Nat → Value := fun j => if hk_int ci j = true then .int (iv L j) else G.2.2 L j
def hk_at (D : hk_D) (G : hk_G) (iv : hk_V) (L : hk_L) (H : Heap) : hk_k → Prop
  | .inl ci => ∃ r : vw_C, vwCl[ci]? = some r ∧ t_OB (G.1 L) (D.1.1.1 ci) r.2.2 (D.1.1.2 ci) H (hk_ob G iv ci L)
  | .inr (.inl n) => H[G.1 L]? = some (arrV D.1.2.1 n (fun j => .int (iv L j)))
  | .inr (.inr n) => H[G.1 L]? = some (arrV D.1.2.2 n (G.2.2 L))
def hk_A (D : hk_D) : Nat → Prop := fun q => D.2.1 ≤ q
def hk_H (D : hk_D) (G : hk_G) (iv : hk_V) (H : Heap) : Prop := D.2.1 ≤ H.size ∧ (∀ L k, G.2.1 L = some k → hk_at D G iv L H k ∧ D.2.1 ≤ G.1 L) ∧ (∀ L L' k k', G.2.1 L = some k → G.2.1 L' = some k' → G.1 L = G.1 L' → L = L')
def hk_isN : Cond → Bool
  | .castable .. => true
  | .methodLinkNest .. => true
  | _ => false
def hk_nw : List Cond := lw_tbl.filter hk_isN
def hk_K (D : hk_D) (U : State) : Prop := va_K D.1.1 vwCl [(D.1.2.1, .int), (D.1.2.2, .object "java/lang/Object")] U ∧ (∀ w ∈ hk_nw, va_Nw w U) ∧ va_AO "java/lang/Object" U ∧ va_Z "java/util/ArrayList" "DEFAULTCAPACITY_EMPTY_ELEMENTDATA" "[Ljava/lang/Object;" (.ref D.2.2) (hk_A D) U U.heap ∧ va_T (.object "java/lang/Object") D.2.2 0 (fun _ => .null) (hk_A D) U U.heap
theorem hk_nw_moved {w : Cond} (hw : hk_isN w = true) {s U : State} (hW : s.WarmedH U.vm) (h : va_Nw w s) : va_Nw w U := by
  cases w <;> first | (simp [hk_isN] at hw; done) | exact va_Nw.warmC hW h | exact va_Nw.warmM hW h
theorem hk_nw_same {w : Cond} (hw : hk_isN w = true) {s U : State} (e : s.vm = U.vm) (h : va_Nw w s) : va_Nw w U := by
  cases w <;> first | (simp [hk_isN] at hw; done) | exact va_Nw.same rfl e h
theorem hk_K.to {D : hk_D} {s U : State} {H : Heap} {locs : List Loc} (h : hk_K D s) (hS : va_S (hk_A D) s.heap H locs) (hU : U.heap = H) (hW : s.WarmedH U.vm) : hk_K D U := by
  obtain ⟨h1, h2, h3, h4, h5⟩ := h
  subst hU
  exact ⟨va_K.moved hW.alike h1, fun w hw => hk_nw_moved (List.mem_filter.mp hw).2 hW (h2 w hw), va_AO.moved hW.alike h3, va_Z.kept (va_Z.moved hW.alike h4) hS.2.1, va_T.kept (va_T.moved hW.alike h5) hS.2.1⟩
theorem hk_K.calling {D : hk_D} {U : State} {g : JFrame} {mk : MethodId} {a : Array Value} (h : hk_K D U) : hk_K D (U.calling g mk a) := by
  obtain ⟨h1, h2, h3, h4, h5⟩ := h
  have hvm : U.vm.Alike (U.calling g mk a).vm := Vm.Alike.refl U.vm
  exact ⟨va_K.moved hvm h1, fun w hw => hk_nw_same (s := U) (List.mem_filter.mp hw).2 rfl (h2 w hw), va_AO.moved hvm h3, va_Z.moved hvm h4, va_T.moved hvm h5⟩
/-- a method's start; its end: what it answers, where the cells are, the ints behind it -/
def hk_P (D : hk_D) (G : hk_G) (iv : hk_V) (as : List Value) : Array Value → State → Prop := va_Pc as (fun U => hk_K D U ∧ hk_H D G iv U.heap)
def hk_Q (D : hk_D) (P : Option Value → hk_G → hk_V → Prop) : Array Value → State → Outcome → State → Prop := fun _ st oc t => (∃ (v : Option Value) (G : hk_G) (iv : hk_V), oc = .returned v ∧ P v G iv ∧ hk_H D G iv t.heap) ∧ va_F (hk_A D) st t
def hk_e (G : hk_G) (v : Option Value) (iv : hk_V) : Option Value → hk_G → hk_V → Prop := fun v' G' iv' => v = v' ∧ G = G' ∧ iv = iv'
theorem hk_P.blind {D : hk_D} {G : hk_G} {iv : hk_V} {as : List Value} : FrameBlind (hk_P D G iv as) := fun _ _ _ _ h => ⟨h.1, h.2.1.calling, h.2.2⟩
theorem hk_P.mk {D : hk_D} {G : hk_G} {iv : hk_V} {as : List Value} {s : State} {H : Heap} {locs : List Loc} (hK : hk_K D s) (hS : va_S (hk_A D) s.heap H locs) (hH : hk_H D G iv H) : ∀ U : State, U.heap = H → s.WarmedH U.vm → hk_P D G iv as as.toArray U := fun U hU hW => ⟨rfl, hK.to hS hU hW, by rw [hU]; exact hH⟩
abbrev hk_ws (y : MethodName) (bytes : ByteArray) (maxL : Nat) (ret : Option FieldType) : List Cond := Cond.code y bytes maxL ret :: lw_tg
theorem hk_good {y : MethodName} {bytes : ByteArray} {maxL : Nat} {ret : Option FieldType} (h : Cond.code y bytes maxL ret ∈ lw_tg) : GoodIn lw_tg (hk_ws y bytes maxL ret) := by
  intro w hw
  rcases List.mem_cons.mp hw with rfl | hw
  · exact ⟨h, good_of_word (tw_good _ h)⟩
  · exact ⟨hw, good_of_word (tw_good _ hw)⟩
def hk_up (iv : hk_V) (L : hk_L) (k : Nat) (x : Int32) : hk_V := fun L' j => if L' = L ∧ j = k then x else iv L' j
abbrev hk_v : Type := Nat × Nat → Nat → Int32
def hk_u (τ : hk_v) (q : Nat × Nat) (k : Nat) (x : Int32) : hk_v := fun q' j => if q' = q ∧ j = k then x else τ q' j
def hk_cm (τ σ : hk_v) : hk_V := fun L => match L with
  | .inl q => τ q
  | .inr q => σ q
theorem hk_up_l (τ σ : hk_v) (q : Nat × Nat) (k : Nat) (x : Int32) : hk_up (hk_cm τ σ) (.inl q) k x = hk_cm (hk_u τ q k x) σ := by
  funext L j
  cases L with
  | inl a => simp [hk_up, hk_cm, hk_u]
  | inr a => simp [hk_up, hk_cm]
theorem hk_up_r (τ σ : hk_v) (q : Nat × Nat) (k : Nat) (x : Int32) : hk_up (hk_cm τ σ) (.inr q) k x = hk_cm τ (hk_u σ q k x) := by
  funext L j
  cases L with
  | inl a => simp [hk_up, hk_cm]
  | inr a => simp [hk_up, hk_cm, hk_u]
def hk_cls (ci : Nat) (C : String) (T : u_T) (N : Nat) (ty : Nat → FieldType) : Prop := vwCl[ci]? = some (C, T, N) ∧ (∀ w ∈ u_ws C T N, w ∈ lw_tg) ∧ (∀ k, k < N → parseFieldDescriptor (T k).2.2.1 = some (ty k)) ∧ (∀ a, a < N → ∀ b, b < N → a ≠ b → (T a).2.1 ≠ (T b).2.1)
theorem kc_0 : hk_cls 0 RJx4a65c TJx4a65c 3 tyJx4a65c := ⟨rfl, tw_cl0, tyJx4a65c_ok, nmJx4a65c⟩
theorem kc_1 : hk_cls 1 RX0 TX0 4 tyX0 := ⟨rfl, tw_cl1, tyX0_ok, nmX0⟩
theorem kc_2 : hk_cls 2 RX1 TX1 0 tyX1 := ⟨rfl, tw_cl2, tyX1_ok, nmX1⟩
theorem kc_3 : hk_cls 3 RX2 TX2 0 tyX2 := ⟨rfl, tw_cl3, tyX2_ok, nmX2⟩
theorem kc_4 : hk_cls 4 RX3 TX3 6 tyX3 := ⟨rfl, tw_cl4, tyX3_ok, nmX3⟩
theorem kc_5 : hk_cls 5 RX4 TX4 6 tyX4 := ⟨rfl, tw_cl5, tyX4_ok, nmX4⟩
theorem kc_6 : hk_cls 6 RX5 TX5 2 tyX5 := ⟨rfl, tw_cl6, tyX5_ok, nmX5⟩
theorem kc_7 : hk_cls 7 RX6 TX6 8 tyX6 := ⟨rfl, tw_cl7, tyX6_ok, nmX6⟩
theorem kc_8 : hk_cls 8 RX7 TX7 4 tyX7 := ⟨rfl, tw_cl8, tyX7_ok, nmX7⟩
theorem kc_9 : hk_cls 9 RX8 TX8 0 tyX8 := ⟨rfl, tw_cl9, tyX8_ok, nmX8⟩
theorem kc_10 : hk_cls 10 RX9 TX9 5 tyX9 := ⟨rfl, tw_cl10, tyX9_ok, nmX9⟩
theorem kc_11 : hk_cls 11 RX10 TX10 11 tyX10 := ⟨rfl, tw_cl11, tyX10_ok, nmX10⟩
theorem kc_12 : hk_cls 12 RX11 TX11 37 tyX11 := ⟨rfl, tw_cl12, tyX11_ok, nmX11⟩
theorem hk_at.kept {D : hk_D} {G : hk_G} {iv iv' : hk_V} {L : hk_L} {H H1 : Heap} {k : hk_k} (h : hk_at D G iv L H k) (hq : H1[G.1 L]? = H[G.1 L]?) (hi : ∀ j, iv' L j = iv L j) : hk_at D G iv' L H1 k := by
  have e : iv' L = iv L := funext hi
  rcases k with ci | n | n
  · obtain ⟨r, h1, h2⟩ := h
    refine ⟨r, h1, (h2.kept hq).to (fun j _ => ?_)⟩
    simp only [hk_ob, e]
  · show H1[_]? = _
    rw [hq, show (fun j => Value.int (iv' L j)) = (fun j => Value.int (iv L j)) by rw [e]]
    exact h
  · exact hq.trans h
theorem hk_H.lt {D : hk_D} {G : hk_G} {iv : hk_V} {H : Heap} (hH : hk_H D G iv H) {L : hk_L} {k : hk_k} (hk : G.2.1 L = some k) : G.1 L < H.size := by
  have h := (hH.2.1 L k hk).1
  rcases k with ci | n | n
  · obtain ⟨r, h1, cell, h2, -⟩ := h
    exact (Array.getElem?_eq_some_iff.mp h2).1
  · exact (Array.getElem?_eq_some_iff.mp h).1
  · exact (Array.getElem?_eq_some_iff.mp h).1
/-- one cell's ints change -/
theorem hk_H.set {D : hk_D} {G : hk_G} {iv : hk_V} {H H1 : Heap} (hH : hk_H D G iv H) {L : hk_L} {k : hk_k} (hk : G.2.1 L = some k) (i : Nat) (x : Int32) (z : H1.size = H.size) (oq : ∀ q : Nat, q ≠ G.1 L → H1[q]? = H[q]?) (hat : hk_at D G (hk_up iv L i x) L H1 k) : hk_H D G (hk_up iv L i x) H1 := by
  refine ⟨by rw [z]; exact hH.1, fun L' k' hk' => ?_, hH.2.2⟩
  by_cases e : L' = L
  · subst e
    cases hk.symm.trans hk'
    exact ⟨hat, (hH.2.1 L' k hk).2⟩
  · obtain ⟨h1, h2⟩ := hH.2.1 L' k' hk'
    exact ⟨h1.kept (oq _ (fun q => e (hH.2.2 L' L k' k hk' hk q))) (fun j => by simp [hk_up, e]), h2⟩
