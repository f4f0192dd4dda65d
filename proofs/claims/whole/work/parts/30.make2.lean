section HKAD
variable {p : Program} {l : Launch} {e : Env} {R : Room} {s : State} {m : MethodId} {args : Array Value} {below : List Frame} {meth : Method} {c : Code} {H : Heap} {locs : List Loc} {cells slots : Nat} {Q : State → Prop}
variable {cc : ByteArray} {pc : Nat} {ls : Array Slot} {rest : List Value} {D : hk_D} {G : hk_G} {iv : hk_V} {L : hk_L}
theorem hk_geti_a {a0 : Nat} (ha0 : G.1 L = a0) (hexec : p.tables.exec = Jvm.exec) (hb : c.code = cc) {own ref C : String} {T : u_T} {N ci index : Nat} {ty : Nat → FieldType} (ht : ∀ w ∈ lw_tg, w.before args s = true) (hown : s.vm.findClass own = some m.cls) (hK : hk_K D s) (hH : hk_H D G iv H) (hc : hk_cls ci C T N ty) (hkd : G.2.1 L = some (.inl ci)) (k : Nat) (hk : k < N) (hi : hk_int ci k = true) (hlink : Cond.fieldLink own index ref (T k).2.1 (T k).2.2.1 ∈ lw_tg) (hsame : (T k).1 = ref) {v : Int32} (hv : iv L k = v) (hdg : decode cc pc = .ok (.getfield index, 3)) (kk : W p l e R s m args below meth c H locs cells slots Q (F0 m (pc + 3) ls (.int v :: rest))) : W p l e R s m args below meth c H locs cells slots Q (F0 m pc ls (.ref a0 :: rest)) := by
  subst ha0
  exact hk_geti hexec hb ht hown hK hH hc hkd k hk hi hlink hsame hv hdg kk
theorem hk_getr_a {a0 : Nat} (ha0 : G.1 L = a0) (hexec : p.tables.exec = Jvm.exec) (hb : c.code = cc) {own ref C : String} {T : u_T} {N ci index : Nat} {ty : Nat → FieldType} (ht : ∀ w ∈ lw_tg, w.before args s = true) (hown : s.vm.findClass own = some m.cls) (hK : hk_K D s) (hH : hk_H D G iv H) (hc : hk_cls ci C T N ty) (hkd : G.2.1 L = some (.inl ci)) (k : Nat) (hk : k < N) (hi : hk_int ci k = false) (hlink : Cond.fieldLink own index ref (T k).2.1 (T k).2.2.1 ∈ lw_tg) (hsame : (T k).1 = ref) {v : Value} (hv : G.2.2 L k = v) (hdg : decode cc pc = .ok (.getfield index, 3)) (kk : W p l e R s m args below meth c H locs cells slots Q (F0 m (pc + 3) ls (v :: rest))) : W p l e R s m args below meth c H locs cells slots Q (F0 m pc ls (.ref a0 :: rest)) := by
  subst ha0
  exact hk_getr hexec hb ht hown hK hH hc hkd k hk hi hlink hsame hv hdg kk
theorem hk_puti_a {a0 : Nat} (ha0 : G.1 L = a0) (hexec : p.tables.exec = Jvm.exec) (hb : c.code = cc) {own ref C : String} {T : u_T} {N ci index : Nat} {ty : Nat → FieldType} (ht : ∀ w ∈ lw_tg, w.before args s = true) (hown : s.vm.findClass own = some m.cls) (hK : hk_K D s) (hH : hk_H D G iv H) (hS : va_S (hk_A D) s.heap H locs) (hc : hk_cls ci C T N ty) (hkd : G.2.1 L = some (.inl ci)) (k : Nat) (hk : k < N) (hi : hk_int ci k = true) (hlink : Cond.fieldLink own index ref (T k).2.1 (T k).2.2.1 ∈ lw_tg) (hsame : (T k).1 = ref) (hfin : (T k).2.2.2 = false ∨ ((T k).2.2.2 = true ∧ meth.name = "<init>" ∧ (T k).1 = own)) (hty : ty k = .int) {v : Int32} (hdg : decode cc pc = .ok (.putfield index, 3)) (kk : ∀ (H1 : Heap) (locs1 : List Loc), hk_H D G (hk_up iv L k v) H1 → va_S (hk_A D) s.heap H1 locs1 → W p l e R s m args below meth c H1 locs1 cells slots Q (F0 m (pc + 3) ls rest)) : W p l e R s m args below meth c H locs cells slots Q (F0 m pc ls (.int v :: .ref a0 :: rest)) := by
  subst ha0
  exact hk_puti hexec hb ht hown hK hH hS hc hkd k hk hi hlink hsame hfin hty hdg kk
theorem hk_putr_a {a0 : Nat} (ha0 : G.1 L = a0) (hexec : p.tables.exec = Jvm.exec) (hb : c.code = cc) {own ref C : String} {T : u_T} {N ci index : Nat} {ty : Nat → FieldType} (ht : ∀ w ∈ lw_tg, w.before args s = true) (hown : s.vm.findClass own = some m.cls) (hK : hk_K D s) (hH : hk_H D G iv H) (hS : va_S (hk_A D) s.heap H locs) (hc : hk_cls ci C T N ty) (hkd : G.2.1 L = some (.inl ci)) (k : Nat) (hk : k < N) (hi : hk_int ci k = false) (hlink : Cond.fieldLink own index ref (T k).2.1 (T k).2.2.1 ∈ lw_tg) (hsame : (T k).1 = ref) (hfin : (T k).2.2.2 = false ∨ ((T k).2.2.2 = true ∧ meth.name = "<init>" ∧ (T k).1 = own)) {v : Value} (hn : narrow (ty k) v = v) (hfit : fits (ty k) v = true) (hdg : decode cc pc = .ok (.putfield index, 3)) (kk : ∀ (H1 : Heap) (locs1 : List Loc), hk_H D (hk_rf G L k v) iv H1 → va_S (hk_A D) s.heap H1 locs1 → W p l e R s m args below meth c H1 locs1 cells slots Q (F0 m (pc + 3) ls rest)) : W p l e R s m args below meth c H locs cells slots Q (F0 m pc ls (v :: .ref a0 :: rest)) := by
  subst ha0
  exact hk_putr hexec hb ht hown hK hH hS hc hkd k hk hi hlink hsame hfin hn hfit hdg kk
theorem hk_qlen_a {a0 : Nat} (ha0 : G.1 L = a0) (hexec : p.tables.exec = Jvm.exec) (hb : c.code = cc) (hK : hk_K D s) (hH : hk_H D G iv H) {n : Nat} (hkd : G.2.1 L = some (.inr (.inr n))) {v : Int32} (hv : Int32.ofNat n = v) (hdg : decode cc pc = .ok (.arraylength, 1)) (kk : W p l e R s m args below meth c H locs cells slots Q (F0 m (pc + 1) ls (.int v :: rest))) : W p l e R s m args below meth c H locs cells slots Q (F0 m pc ls (.ref a0 :: rest)) := by
  subst ha0
  exact hk_qlen hexec hb hK hH hkd hv hdg kk
theorem hk_ist_a {a0 : Nat} (ha0 : G.1 L = a0) (hexec : p.tables.exec = Jvm.exec) (hb : c.code = cc) (hK : hk_K D s) (hH : hk_H D G iv H) (hS : va_S (hk_A D) s.heap H locs) {n : Nat} (hkd : G.2.1 L = some (.inr (.inl n))) {i x : Int32} (hin : vp_in i n) (hdg : decode cc pc = .ok (.iastore, 1)) (kk : ∀ (H1 : Heap) (locs1 : List Loc), hk_H D G (hk_up iv L i.toNatClampNeg x) H1 → va_S (hk_A D) s.heap H1 locs1 → W p l e R s m args below meth c H1 locs1 cells slots Q (F0 m (pc + 1) ls rest)) : W p l e R s m args below meth c H locs cells slots Q (F0 m pc ls (.int x :: .int i :: .ref a0 :: rest)) := by
  subst ha0
  exact hk_ist hexec hb hK hH hS hkd hin hdg kk
variable {y : MethodName} {bytes : ByteArray} {maxL nL mc ms n index : Nat} {ret : Option FieldType} {rm : Room} {own C : String} {As st0 : List Value} {P : Option Value → hk_G → hk_V → Prop}
theorem hk_cV_a {a0 : Nat} (ha0 : G.1 L = a0) (hexec : p.tables.exec = Jvm.exec) (hb : c.code = cc) (hml : c.maxLocals = nL) (hlz : ls.size = nL) (ht : ∀ w ∈ lw_tg, w.before args s = true) (hown : s.vm.findClass own = some m.cls) (hK : hk_K D s) (hH : hk_H D G iv H) (hS : va_S (hk_A D) s.heap H locs) (hM : Met l y (hk_ws y bytes maxL ret) rm (hk_P D G iv (.ref a0 :: As)) (hk_Q D P) mc ms (hk_A D)) (hm : hk_mV y bytes maxL ret C n) {T : u_T} {N ci : Nat} {ty : Nat → FieldType} (hc : hk_cls ci C T N ty) (hkd : G.2.1 L = some (.inl ci)) (hl : Cond.methodLink own index y ∈ lw_tg) (hrc : rm.cells = mc ∧ rm.slots = ms) (hR : rm.frames + 1 ≤ R.frames ∧ 8 + (maxL + 11) + rm.locals ≤ R.locals) (hn : As.length = n) (hst : st0 = As.reverse ++ .ref a0 :: rest) (hr : (rest.map fun v => v.category).sum ≤ 8) (hdg : decode cc pc = .ok (.invokevirtual index, 3)) (hf : cells + mc ≤ R.cells ∧ slots + ms ≤ R.slots) (kk : ∀ (v : Option Value) (G1 : hk_G) (iv1 : hk_V) (H1 : Heap) (locs1 : List Loc), P v G1 iv1 → hk_H D G1 iv1 H1 → va_S (hk_A D) s.heap H1 locs1 → W p l e R s m args below meth c H1 locs1 (cells + mc) (slots + ms) Q (F0 m (pc + 3) ls (v.toList ++ rest))) : W p l e R s m args below meth c H locs cells slots Q (F0 m pc ls st0) := by
  subst ha0
  exact hk_cV hexec hb hml hlz ht hown hK hH hS hM hm hc hkd hl hrc hR hn hst hr hdg hf kk
/-- modCount, named through ArrayList -/
theorem hk_mget {a0 : Nat} (ha0 : G.1 L = a0) (hexec : p.tables.exec = Jvm.exec) (hb : c.code = cc) {own : String} {index : Nat} (ht : ∀ w ∈ lw_tg, w.before args s = true) (hown : s.vm.findClass own = some m.cls) (hK : hk_K D s) (hH : hk_H D G iv H) (hkd : G.2.1 L = some (.inl 0)) (hlink : Cond.fieldLink own index "java/util/ArrayList" "modCount" "I" ∈ lw_tg) {v : Int32} (hv : iv L 0 = v) (hdg : decode cc pc = .ok (.getfield index, 3))
    (kk : W p l e R s m args below meth c H locs cells slots Q (F0 m (pc + 3) ls (.int v :: rest))) : W p l e R s m args below meth c H locs cells slots Q (F0 m pc ls (.ref a0 :: rest)) := by
  subst ha0
  exact hk_get (ref := "java/util/ArrayList") (v := .int v) hexec hb ht hown hK hH kc_0 hkd 0 (by decide) hlink (fun x h => u_same (ht _ tw_81) x h) (by simp [hk_ob, show hk_int 0 0 = true from rfl, hv]) hdg kk
theorem hk_mput {a0 : Nat} (ha0 : G.1 L = a0) (hexec : p.tables.exec = Jvm.exec) (hb : c.code = cc) {own : String} {index : Nat} (ht : ∀ w ∈ lw_tg, w.before args s = true) (hown : s.vm.findClass own = some m.cls) (hK : hk_K D s) (hH : hk_H D G iv H) (hS : va_S (hk_A D) s.heap H locs) (hkd : G.2.1 L = some (.inl 0)) (hlink : Cond.fieldLink own index "java/util/ArrayList" "modCount" "I" ∈ lw_tg) {v : Int32} (hdg : decode cc pc = .ok (.putfield index, 3))
    (kk : ∀ (H1 : Heap) (locs1 : List Loc), hk_H D G (hk_up iv L 0 v) H1 → va_S (hk_A D) s.heap H1 locs1 → W p l e R s m args below meth c H1 locs1 cells slots Q (F0 m (pc + 3) ls rest)) : W p l e R s m args below meth c H locs cells slots Q (F0 m pc ls (.int v :: .ref a0 :: rest)) := by
  subst ha0
  refine hk_putw (ref := "java/util/ArrayList") (v := .int v) hexec hb ht hown hK hH kc_0 hkd 0 (by decide) hlink (fun x h => u_same (ht _ tw_81) x h) (Or.inl rfl) rfl rfl hdg (fun H1 i z oq h => ?_)
  refine kk H1 _ (hH.set hkd 0 v z oq ⟨_, kc_0.1, h.to (fun j _ => ?_)⟩) (hS.put z oq (hH.2.1 L _ hkd).2)
  by_cases hj : j = 0
  · subst hj; simp [updV, hk_ob, show hk_int 0 0 = true from rfl, hk_up]
  · simp [updV, hk_ob, hk_up, hj]
/-- a[i] = x, of an array of objects -/
theorem hk_qst {a0 b0 : Nat} {Le : hk_L} (ha0 : G.1 L = a0) (hb0 : G.1 Le = b0) (hexec : p.tables.exec = Jvm.exec) (hb : c.code = cc) (hK : hk_K D s) (hH : hk_H D G iv H) (hS : va_S (hk_A D) s.heap H locs) {n ci : Nat} {r : vw_C} (hkd : G.2.1 L = some (.inr (.inr n))) (hke : G.2.1 Le = some (.inl ci)) (hc : vwCl[ci]? = some r) (hca : Cond.castable r.1 "java/lang/Object" ∈ hk_nw) {i : Int32} (hin : vp_in i n) (hdg : decode cc pc = .ok (.aastore, 1))
    (kk : ∀ (H1 : Heap) (locs1 : List Loc), hk_H D (hk_rf G L i.toNatClampNeg (.ref b0)) iv H1 → va_S (hk_A D) s.heap H1 locs1 → W p l e R s m args below meth c H1 locs1 cells slots Q (F0 m (pc + 1) ls rest)) : W p l e R s m args below meth c H locs cells slots Q (F0 m pc ls (.ref b0 :: .int i :: .ref a0 :: rest)) := by
  subst ha0
  subst hb0
  have hlt : i.toNatClampNeg < n := Nat.not_le.mp fun q => hin (Or.inr q)
  have h0 : ¬ i < 0 := fun q => hin (Or.inl q)
  obtain ⟨r', hr', cellV, g1, g2, g3, -⟩ := (hH.2.1 Le _ hke).1
  have hcls := (hK.1.1 ci r hc).2
  obtain ⟨kA, comp, k1, k2, k3, -⟩ := (hK.1.2 1 _ rfl).2
  obtain ⟨kE, hkE, -⟩ := Vm.findClass_spec k3
  obtain ⟨c0, t1, f1, f2, f3⟩ := Cond.castable_spec (va_Nw.use (A := args) rfl (hK.2.1 _ hca))
  cases hcls.1.symm.trans f1
  cases k3.symm.trans f2
  obtain ⟨kC, hkC, -⟩ := hcls.2
  refine W.aast hexec hb (hH.2.1 L _ hkd).1 (fun q h => by cases h) (fun h => by cases h) k1 k2 rfl hkE ⟨h0, by show _ < (arrV _ _ _).slots.size; rw [arrV_size]; exact hlt⟩ g1 (fun q h => by rw [g3] at h; cases h) (by rw [g2]; exact hkC) (by rw [g2]; exact f3) rfl rfl hdg fun H1 e z oq => ?_
  refine kk H1 _ ⟨by rw [z]; exact hH.1, fun L' k' hk' => ?_, hH.2.2⟩ (hS.put z oq (hH.2.1 L _ hkd).2)
  have hk'' : G.2.1 L' = some k' := hk'
  by_cases e2 : L' = L
  · subst e2
    cases hkd.symm.trans hk''
    refine ⟨?_, (hH.2.1 L' _ hkd).2⟩
    show H1[G.1 L']? = some (arrV _ _ _)
    rw [e, arrV_store]
    congr 2
    funext q
    by_cases hq : q = i.toNatClampNeg
    · subst hq; simp [updV, hk_rf]
    · simp [updV, hk_rf, hq]
  · obtain ⟨h1, h2⟩ := hH.2.1 L' k' hk''
    exact ⟨h1.to rfl (by funext j; simp [hk_rf, e2]) (oq _ (fun q => e2 (hH.2.2 L' L k' _ hk'' hkd q))) rfl, h2⟩
end HKAD
