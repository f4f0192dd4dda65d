def hk_mV (y : MethodName) (bytes : ByteArray) (maxL : Nat) (ret : Option FieldType) (C : String) (n : Nat) : Prop := Cond.code y bytes maxL ret ∈ lw_tg ∧ Cond.instanceMethod y ∈ lw_tg ∧ Cond.selects C y y ∈ lw_tg ∧ Cond.initialized C ∈ lw_tg ∧ (y.cls = C ∧ y.cls ≠ "java/lang/invoke/MethodHandle" ∧ y.cls ≠ "java/lang/invoke/VarHandle" ∧ (parseMethodDescriptor y.desc).map (fun d => d.parameters.length) = some n)
def hk_mS (y : MethodName) (bytes : ByteArray) (maxL : Nat) (ret : Option FieldType) (n : Nat) : Prop := Cond.code y bytes maxL ret ∈ lw_tg ∧ Cond.static y ∈ lw_tg ∧ Cond.initialized y.cls ∈ lw_tg ∧ (y.cls ≠ "java/lang/invoke/MethodHandle" ∧ y.cls ≠ "java/lang/invoke/VarHandle" ∧ (parseMethodDescriptor y.desc).map (fun d => d.parameters.length) = some n)
def hk_mI (y : MethodName) (bytes : ByteArray) (maxL : Nat) (n : Nat) : Prop := Cond.code y bytes maxL none ∈ lw_tg ∧ Cond.instanceMethod y ∈ lw_tg ∧ Cond.initialized y.cls ∈ lw_tg ∧ y.name = "<init>" ∧ (y.cls ≠ "java/lang/invoke/MethodHandle" ∧ y.cls ≠ "java/lang/invoke/VarHandle" ∧ (parseMethodDescriptor y.desc).map (fun d => d.parameters.length) = some n)
section HKC
variable {p : Program} {l : Launch} {e : Env} {R : Room} {s : State} {m : MethodId} {args : Array Value} {below : List Frame} {meth : Method} {c : Code} {H : Heap} {locs : List Loc} {cells slots : Nat} {Q : State → Prop}
variable {cc : ByteArray} {pc : Nat} {ls : Array Slot} {rest : List Value} {D : hk_D} {G : hk_G} {iv : hk_V} {L : hk_L}
variable {y : MethodName} {bytes : ByteArray} {maxL nL mc ms n index : Nat} {ret : Option FieldType} {rm : Room} {own C : String} {As st0 : List Value} {P : Option Value → hk_G → hk_V → Prop}
theorem hk_goodV (hm : hk_mV y bytes maxL ret C n) (hl : Cond.methodLink own index y ∈ lw_tg) : GoodIn lw_tg (wsV own index C y (hk_ws y bytes maxL ret)) := by
  obtain ⟨h1, h2, h3, h4, -⟩ := hm
  intro w hw
  rcases List.mem_append.mp hw with hw | hw
  · simp only [List.mem_cons, List.not_mem_nil, or_false] at hw
    rcases hw with rfl | rfl | rfl | rfl
    · exact ⟨hl, good_of_word (tw_good _ hl)⟩
    · exact ⟨h2, good_of_word (tw_good _ h2)⟩
    · exact ⟨h3, good_of_word (tw_good _ h3)⟩
    · exact ⟨h4, good_of_word (tw_good _ h4)⟩
  · exact hk_good h1 w hw
theorem hk_cV (hexec : p.tables.exec = Jvm.exec) (hb : c.code = cc) (hml : c.maxLocals = nL) (hlz : ls.size = nL) (ht : ∀ w ∈ lw_tg, w.before args s = true) (hown : s.vm.findClass own = some m.cls) (hK : hk_K D s) (hH : hk_H D G iv H) (hS : va_S (hk_A D) s.heap H locs)
    (hM : Met l y (hk_ws y bytes maxL ret) rm (hk_P D G iv (.ref (G.1 L) :: As)) (hk_Q D P) mc ms (hk_A D)) (hm : hk_mV y bytes maxL ret C n) {T : u_T} {N ci : Nat} {ty : Nat → FieldType} (hc : hk_cls ci C T N ty) (hkd : G.2.1 L = some (.inl ci)) (hl : Cond.methodLink own index y ∈ lw_tg) (hrc : rm.cells = mc ∧ rm.slots = ms) (hR : rm.frames + 1 ≤ R.frames ∧ 8 + (maxL + 11) + rm.locals ≤ R.locals) (hn : As.length = n) (hst : st0 = As.reverse ++ .ref (G.1 L) :: rest) (hr : (rest.map fun v => v.category).sum ≤ 8) (hdg : decode cc pc = .ok (.invokevirtual index, 3)) (hf : cells + mc ≤ R.cells ∧ slots + ms ≤ R.slots)
    (kk : ∀ (v : Option Value) (G1 : hk_G) (iv1 : hk_V) (H1 : Heap) (locs1 : List Loc), P v G1 iv1 → hk_H D G1 iv1 H1 → va_S (hk_A D) s.heap H1 locs1 → W p l e R s m args below meth c H1 locs1 (cells + mc) (slots + ms) Q (F0 m (pc + 3) ls (v.toList ++ rest))) : W p l e R s m args below meth c H locs cells slots Q (F0 m pc ls st0) :=
  hk_run (v0 := ()) (va_runV (C := C) (b := G.1 L) (As := As) (rest := rest) ⟨hexec, hb, hml, hown, ht⟩ hM (cwV n ht (hk_goodV hm hl) rfl hrc.1 hrc.2 hm.2.2.2.2 hR) ⟨hk_P.blind, hk_recv hK hH hc.1 hkd, hk_P.mk hK hS hH⟩ rfl hn hlz hst (lv_room hr) hdg hf) hS kk
theorem hk_cS (hexec : p.tables.exec = Jvm.exec) (hb : c.code = cc) (hml : c.maxLocals = nL) (hlz : ls.size = nL) (ht : ∀ w ∈ lw_tg, w.before args s = true) (hown : s.vm.findClass own = some m.cls) (hK : hk_K D s) (hH : hk_H D G iv H) (hS : va_S (hk_A D) s.heap H locs)
    (hM : Met l y (hk_ws y bytes maxL ret) rm (hk_P D G iv As) (hk_Q D P) mc ms (hk_A D)) (hm : hk_mS y bytes maxL ret n) (hl : Cond.methodLink own index y ∈ lw_tg) (hrc : rm.cells = mc ∧ rm.slots = ms) (hR : rm.frames + 1 ≤ R.frames ∧ 8 + (maxL + 11) + rm.locals ≤ R.locals) (hn : As.length = n) (hst : st0 = As.reverse ++ rest) (hr : (rest.map fun v => v.category).sum ≤ 8) (hdg : decode cc pc = .ok (.invokestatic index, 3)) (hf : cells + mc ≤ R.cells ∧ slots + ms ≤ R.slots)
    (kk : ∀ (v : Option Value) (G1 : hk_G) (iv1 : hk_V) (H1 : Heap) (locs1 : List Loc), P v G1 iv1 → hk_H D G1 iv1 H1 → va_S (hk_A D) s.heap H1 locs1 → W p l e R s m args below meth c H1 locs1 (cells + mc) (slots + ms) Q (F0 m (pc + 3) ls (v.toList ++ rest))) : W p l e R s m args below meth c H locs cells slots Q (F0 m pc ls st0) :=
  hk_run (v0 := ()) (va_runS (As := As) (rest := rest) ⟨hexec, hb, hml, hown, ht⟩ hM ⟨callB_of n ht (hk_good hm.1) rfl hrc.1 hrc.2 (ht _ hm.2.2.1) (ht _ hl) hm.2.2.2 hR, ht _ hm.2.1⟩ ⟨hk_P.blind, hk_P.mk hK hS hH⟩ rfl hn hlz hst (lv_room hr) hdg hf) hS kk
/-- a nest mate's static method -/
theorem hk_cSN {host : String} (hexec : p.tables.exec = Jvm.exec) (hb : c.code = cc) (hml : c.maxLocals = nL) (hlz : ls.size = nL) (ht : ∀ w ∈ lw_tg, w.before args s = true) (hown : s.vm.findClass own = some m.cls) (hK : hk_K D s) (hH : hk_H D G iv H) (hS : va_S (hk_A D) s.heap H locs)
    (hM : Met l y (hk_ws y bytes maxL ret) rm (hk_P D G iv As) (hk_Q D P) mc ms (hk_A D)) (hm : hk_mS y bytes maxL ret n) (hl : Cond.methodLinkNest own index y host ∈ hk_nw) (hrc : rm.cells = mc ∧ rm.slots = ms) (hR : rm.frames + 1 ≤ R.frames ∧ 8 + (maxL + 11) + rm.locals ≤ R.locals) (hn : As.length = n) (hst : st0 = As.reverse ++ rest) (hr : (rest.map fun v => v.category).sum ≤ 8) (hdg : decode cc pc = .ok (.invokestatic index, 3)) (hf : cells + mc ≤ R.cells ∧ slots + ms ≤ R.slots)
    (kk : ∀ (v : Option Value) (G1 : hk_G) (iv1 : hk_V) (H1 : Heap) (locs1 : List Loc), P v G1 iv1 → hk_H D G1 iv1 H1 → va_S (hk_A D) s.heap H1 locs1 → W p l e R s m args below meth c H1 locs1 (cells + mc) (slots + ms) Q (F0 m (pc + 3) ls (v.toList ++ rest))) : W p l e R s m args below meth c H locs cells slots Q (F0 m pc ls st0) :=
  hk_run (v0 := ()) (va_runSN (As := As) (rest := rest) ⟨hexec, hb, hml, hown, ht⟩ hM ⟨va_cnB n ht (hk_good hm.1) rfl hrc.1 hrc.2 (hK.2.1 _ hl) (ht _ hm.2.2.1) hm.2.2.2 hR, ht _ hm.2.1, trivial⟩ ⟨hk_P.blind, hk_P.mk hK hS hH⟩ rfl hn hlz hst (lv_room hr) hdg hf) hS kk
theorem hk_cI {b : Addr} (hexec : p.tables.exec = Jvm.exec) (hb : c.code = cc) (hml : c.maxLocals = nL) (hlz : ls.size = nL) (ht : ∀ w ∈ lw_tg, w.before args s = true) (hown : s.vm.findClass own = some m.cls) (hK : hk_K D s) (hH : hk_H D G iv H) (hS : va_S (hk_A D) s.heap H locs)
    (hM : Met l y (hk_ws y bytes maxL none) rm (hk_P D G iv (.ref b :: As)) (hk_Q D P) mc ms (hk_A D)) (hm : hk_mI y bytes maxL n) (hl : Cond.methodLink own index y ∈ lw_tg) (hrc : rm.cells = mc ∧ rm.slots = ms) (hR : rm.frames + 1 ≤ R.frames ∧ 8 + (maxL + 11) + rm.locals ≤ R.locals) (hn : As.length = n) (hst : st0 = As.reverse ++ .ref b :: rest) (hr : (rest.map fun v => v.category).sum ≤ 8) (hdg : decode cc pc = .ok (.invokespecial index, 3)) (hf : cells + mc ≤ R.cells ∧ slots + ms ≤ R.slots)
    (kk : ∀ (v : Option Value) (G1 : hk_G) (iv1 : hk_V) (H1 : Heap) (locs1 : List Loc), P v G1 iv1 → hk_H D G1 iv1 H1 → va_S (hk_A D) s.heap H1 locs1 → W p l e R s m args below meth c H1 locs1 (cells + mc) (slots + ms) Q (F0 m (pc + 3) ls (v.toList ++ rest))) : W p l e R s m args below meth c H locs cells slots Q (F0 m pc ls st0) :=
  hk_run (v0 := ()) (va_runI (b := b) (As := As) (rest := rest) ⟨hexec, hb, hml, hown, ht⟩ hM (cwI n ht (hk_good hm.1) rfl hrc.1 hrc.2 (ht _ hm.2.2.1) (ht _ hl) (ht _ hm.2.1) hm.2.2.2.1 hm.2.2.2.2 hR) ⟨hk_P.blind, hk_P.mk hK hS hH⟩ rfl hn hlz hst (lv_room hr) hdg hf) hS kk
theorem hk_cIN {b : Addr} {host : String} (hexec : p.tables.exec = Jvm.exec) (hb : c.code = cc) (hml : c.maxLocals = nL) (hlz : ls.size = nL) (ht : ∀ w ∈ lw_tg, w.before args s = true) (hown : s.vm.findClass own = some m.cls) (hK : hk_K D s) (hH : hk_H D G iv H) (hS : va_S (hk_A D) s.heap H locs)
    (hM : Met l y (hk_ws y bytes maxL none) rm (hk_P D G iv (.ref b :: As)) (hk_Q D P) mc ms (hk_A D)) (hm : hk_mI y bytes maxL n) (hl : Cond.methodLinkNest own index y host ∈ hk_nw) (hrc : rm.cells = mc ∧ rm.slots = ms) (hR : rm.frames + 1 ≤ R.frames ∧ 8 + (maxL + 11) + rm.locals ≤ R.locals) (hn : As.length = n) (hst : st0 = As.reverse ++ .ref b :: rest) (hr : (rest.map fun v => v.category).sum ≤ 8) (hdg : decode cc pc = .ok (.invokespecial index, 3)) (hf : cells + mc ≤ R.cells ∧ slots + ms ≤ R.slots)
    (kk : ∀ (v : Option Value) (G1 : hk_G) (iv1 : hk_V) (H1 : Heap) (locs1 : List Loc), P v G1 iv1 → hk_H D G1 iv1 H1 → va_S (hk_A D) s.heap H1 locs1 → W p l e R s m args below meth c H1 locs1 (cells + mc) (slots + ms) Q (F0 m (pc + 3) ls (v.toList ++ rest))) : W p l e R s m args below meth c H locs cells slots Q (F0 m pc ls st0) :=
  hk_run (v0 := ()) (va_runIN (b := b) (As := As) (rest := rest) ⟨hexec, hb, hml, hown, ht⟩ hM ⟨va_cnB n ht (hk_good hm.1) rfl hrc.1 hrc.2 (hK.2.1 _ hl) (ht _ hm.2.2.1) hm.2.2.2.2 hR, hm.2.2.2.1, ht _ hm.2.1⟩ ⟨hk_P.blind, hk_P.mk hK hS hH⟩ rfl hn hlz hst (lv_room hr) hdg hf) hS kk
/-- super.m(..) -/
theorem hk_cSU (hexec : p.tables.exec = Jvm.exec) (hb : c.code = cc) (hml : c.maxLocals = nL) (hlz : ls.size = nL) (ht : ∀ w ∈ lw_tg, w.before args s = true) (hown : s.vm.findClass own = some m.cls) (hK : hk_K D s) (hH : hk_H D G iv H) (hS : va_S (hk_A D) s.heap H locs)
    (hM : Met l y (hk_ws y bytes maxL ret) rm (hk_P D G iv (.ref (G.1 L) :: As)) (hk_Q D P) mc ms (hk_A D)) (w1 : Cond.code y bytes maxL ret ∈ lw_tg) (w2 : Cond.methodLink own index y ∈ lw_tg) (w3 : Cond.sameMethod y.cls y.cls y.name y.desc ∈ lw_tg) (w4 : Cond.superclass own y.cls ∈ lw_tg) (w5 : Cond.instanceMethod y ∈ lw_tg) (w6 : Cond.initialized y.cls ∈ lw_tg) (hd : y.name ≠ "<init>" ∧ (parseMethodDescriptor y.desc).map (fun d => d.parameters.length) = some n) {T : u_T} {N ci : Nat} {ty : Nat → FieldType} (hc : hk_cls ci C T N ty) (hkd : G.2.1 L = some (.inl ci)) (hrc : rm.cells = mc ∧ rm.slots = ms) (hR : rm.frames + 1 ≤ R.frames ∧ 8 + (maxL + 11) + rm.locals ≤ R.locals) (hn : As.length = n) (hst : st0 = As.reverse ++ .ref (G.1 L) :: rest) (hr : (rest.map fun v => v.category).sum ≤ 8) (hdg : decode cc pc = .ok (.invokespecial index, 3)) (hf : cells + mc ≤ R.cells ∧ slots + ms ≤ R.slots)
    (kk : ∀ (v : Option Value) (G1 : hk_G) (iv1 : hk_V) (H1 : Heap) (locs1 : List Loc), P v G1 iv1 → hk_H D G1 iv1 H1 → va_S (hk_A D) s.heap H1 locs1 → W p l e R s m args below meth c H1 locs1 (cells + mc) (slots + ms) Q (F0 m (pc + 3) ls (v.toList ++ rest))) : W p l e R s m args below meth c H locs cells slots Q (F0 m pc ls st0) := by
  have hg : GoodIn lw_tg (va_wsSU own index y (hk_ws y bytes maxL ret)) := by
    intro w hw
    rcases List.mem_append.mp hw with hw | hw
    · simp only [List.mem_cons, List.not_mem_nil, or_false] at hw
      rcases hw with rfl | rfl | rfl | rfl | rfl
      · exact ⟨w2, good_of_word (tw_good _ w2)⟩
      · exact ⟨w3, good_of_word (tw_good _ w3)⟩
      · exact ⟨w4, good_of_word (tw_good _ w4)⟩
      · exact ⟨w5, good_of_word (tw_good _ w5)⟩
      · exact ⟨w6, good_of_word (tw_good _ w6)⟩
    · exact hk_good w1 w hw
  exact hk_run (v0 := ()) (va_runSU (C := C) (b := G.1 L) (As := As) (rest := rest) (hK.1.1 ci _ hc.1).2 ⟨hexec, hb, hml, hown, ht⟩ hM (va_cwSU n ht hg rfl hrc.1 hrc.2 hd hR) ⟨hk_P.blind, hk_recv hK hH hc.1 hkd, hk_P.mk hK hS hH⟩ rfl hn hlz hst (lv_room hr) hdg hf) hS kk
/-- an overriding method: x is named, y is run -/
theorem hk_cO {x : MethodName} {b0 : ByteArray} {m0 : Nat} {r0 : Option FieldType} (hexec : p.tables.exec = Jvm.exec) (hb : c.code = cc) (hml : c.maxLocals = nL) (hlz : ls.size = nL) (ht : ∀ w ∈ lw_tg, w.before args s = true) (hown : s.vm.findClass own = some m.cls) (hK : hk_K D s) (hH : hk_H D G iv H) (hS : va_S (hk_A D) s.heap H locs)
    (hM : Met l y (hk_ws y bytes maxL ret) rm (hk_P D G iv (.ref (G.1 L) :: As)) (hk_Q D P) mc ms (hk_A D)) (w1 : Cond.code y bytes maxL ret ∈ lw_tg) (w2 : Cond.methodLink own index x ∈ lw_tg) (w3 : Cond.sameMethod x.cls x.cls x.name x.desc ∈ lw_tg) (w4 : Cond.instanceMethod x ∈ lw_tg) (w5 : Cond.selects C x y ∈ lw_tg) (w6 : Cond.instanceMethod y ∈ lw_tg) (w7 : Cond.initialized y.cls ∈ lw_tg) (w8 : Cond.code x b0 m0 r0 ∈ lw_tg) (hd : x.cls ≠ "java/lang/invoke/MethodHandle" ∧ x.cls ≠ "java/lang/invoke/VarHandle" ∧ (parseMethodDescriptor x.desc).map (fun d => d.parameters.length) = some n) {T : u_T} {N ci : Nat} {ty : Nat → FieldType} (hc : hk_cls ci C T N ty) (hkd : G.2.1 L = some (.inl ci)) (hrc : rm.cells = mc ∧ rm.slots = ms) (hR : rm.frames + 1 ≤ R.frames ∧ 8 + (maxL + 11) + rm.locals ≤ R.locals) (hn : As.length = n) (hst : st0 = As.reverse ++ .ref (G.1 L) :: rest) (hr : (rest.map fun v => v.category).sum ≤ 8) (hdg : decode cc pc = .ok (.invokevirtual index, 3)) (hf : cells + mc ≤ R.cells ∧ slots + ms ≤ R.slots)
    (kk : ∀ (v : Option Value) (G1 : hk_G) (iv1 : hk_V) (H1 : Heap) (locs1 : List Loc), P v G1 iv1 → hk_H D G1 iv1 H1 → va_S (hk_A D) s.heap H1 locs1 → W p l e R s m args below meth c H1 locs1 (cells + mc) (slots + ms) Q (F0 m (pc + 3) ls (v.toList ++ rest))) : W p l e R s m args below meth c H locs cells slots Q (F0 m pc ls st0) := by
  have hg : GoodIn lw_tg (va_wsO own index C x.cls x y (hk_ws y bytes maxL ret)) := by
    intro w hw
    rcases List.mem_append.mp hw with hw | hw
    · simp only [List.mem_cons, List.not_mem_nil, or_false] at hw
      rcases hw with rfl | rfl | rfl | rfl | rfl | rfl
      · exact ⟨w2, good_of_word (tw_good _ w2)⟩
      · exact ⟨w3, good_of_word (tw_good _ w3)⟩
      · exact ⟨w4, good_of_word (tw_good _ w4)⟩
      · exact ⟨w5, good_of_word (tw_good _ w5)⟩
      · exact ⟨w6, good_of_word (tw_good _ w6)⟩
      · exact ⟨w7, good_of_word (tw_good _ w7)⟩
    · exact hk_good w1 w hw
  exact hk_run (v0 := ()) (va_runU (C := C) (owner := x.cls) (b := G.1 L) (As := As) (rest := rest) ⟨hexec, hb, hml, hown, ht⟩ hM (va_cwO n ht hg rfl hrc.1 hrc.2 w8 hd hR) ⟨hk_P.blind, hk_recv hK hH hc.1 hkd, hk_P.mk hK hS hH⟩ rfl hn hlz hst (lv_room hr) hdg hf) hS kk
theorem hk_ofW {ws' : List Cond} {Pc : Array Value → State → Prop} {Qc : Array Value → State → Outcome → State → Prop} {free : Addr → Prop} (hy : plainFor y = true) {ws : List Cond} (hw : ws = Cond.code y cc maxL ret :: ws')
    (body : ∀ p e s m args below meth c s₁, BodyLoose p l y (headSpec ws rm) cc maxL ret e s m args below meth c s₁ → c.maxLocals = maxL → Pc args s →
      W p l e (headSpec ws rm).room s m args below meth c s.heap [] 0 0 (MQ below Qc args s mc ms free) (entryFrame m args maxL)) : Met l y ws rm Pc Qc mc ms free := by
  refine MetFree.of_bodySF (code := cc) (maxLocals := maxL) (ret := ret) hy ?_ ?_
  · intro args s m h hn
    obtain ⟨meth, c, h1, h2, h3, h4, h5, h6, -, -⟩ := Cond.code_spec hn (atoms_spec (ws := ws) h _ (by rw [hw]; exact List.mem_cons_self))
    exact ⟨meth, c, h1, h2, h3, h4, h5, h6⟩
  · intro p e s m args below meth c s₁ B hml hP _
    have hh0 : s₁.heap = s.heap := by rw [B.state]; rfl
    obtain ⟨t, a1, o, b1, b2, b3⟩ := body p e s m args below meth c s₁ B hml hP s₁ hh0 (Stand.of_body B)
    exact ⟨t, o, a1, b1, b2, ⟨b3.1, b3.2⟩⟩
theorem hk_met (hpn : plainFor y = true) {as : List Value} (has : (lg_sl as).length ≤ maxL) (body : ∀ (p : Program) (e : Env) (s : State) (m : MethodId) (below : List Frame) (meth : Method) (c : Code), p.tables.exec = Jvm.exec → c.code = bytes → meth.sig.returnType = ret → c.maxLocals = maxL → meth.locks = false → (∀ w ∈ lw_tg, w.before as.toArray s = true) → s.vm.findClass y.cls = some m.cls → meth.name = y.name → hk_K D s → hk_H D G iv s.heap → va_S (hk_A D) s.heap s.heap [] → ∀ ls : Array Slot, lv_has ls maxL (lv_args 0 as) →
      W p l e rm s m as.toArray below meth c s.heap [] 0 0 (MQ below (hk_Q D P) as.toArray s mc ms (hk_A D)) (F0 m 0 ls [])) : Met l y (hk_ws y bytes maxL ret) rm (hk_P D G iv as) (hk_Q D P) mc ms (hk_A D) := by
  refine hk_ofW (cc := bytes) (maxL := maxL) (ret := ret) hpn rfl ?_
  intro p e s m args below meth c s₁ B hml hv
  obtain ⟨rfl, hK, hH⟩ := hv
  rw [lg_entry_eq]
  exact body p e s m below meth c B.exec B.bytes B.returns hml B.notSynchronized (fun w hw => atoms_spec (ws := hk_ws y bytes maxL ret) B.pre w (List.mem_cons_of_mem _ hw)) (findClass_of_methodNamed B.named) (name_of_methodNamed B.named B.method).1 hK hH va_S.rf _ (lv_entry as has)
theorem hk_iret (hexec : p.tables.exec = Jvm.exec) (hb : c.code = cc) (hr : meth.sig.returnType = some .int) (hlocks : meth.locks = false) {v : Int32} (hH : hk_H D G iv H) (hS : va_S (hk_A D) s.heap H locs) (hP : P (some (.int v)) G iv) (hdg : decode cc pc = .ok (.ireturn, 1)) : W p l e R s m args below meth c H locs cells slots (MQ below (hk_Q D P) args s cells slots (hk_A D)) (F0 m pc ls [.int v]) :=
  W.iret hexec hb hr (fun t h2 _ => ⟨⟨_, G, iv, rfl, hP, by rw [h2]; exact hH⟩, hS.F h2⟩) hS.2.2 hdg hlocks
theorem hk_zret (hexec : p.tables.exec = Jvm.exec) (hb : c.code = cc) (hr : meth.sig.returnType = some .boolean) (hlocks : meth.locks = false) {v : Int32} (hv : v = 0 ∨ v = 1) (hH : hk_H D G iv H) (hS : va_S (hk_A D) s.heap H locs) (hP : P (some (.int v)) G iv) (hdg : decode cc pc = .ok (.ireturn, 1)) : W p l e R s m args below meth c H locs cells slots (MQ below (hk_Q D P) args s cells slots (hk_A D)) (F0 m pc ls [.int v]) :=
  W.zret hexec hb hr (by rcases hv with rfl | rfl <;> rfl) (fun t h2 _ => ⟨⟨_, G, iv, rfl, hP, by rw [h2]; exact hH⟩, hS.F h2⟩) hS.2.2 hdg hlocks
theorem hk_lret (hexec : p.tables.exec = Jvm.exec) (hb : c.code = cc) (hr : meth.sig.returnType = some .long) (hlocks : meth.locks = false) {v : Int64} (hH : hk_H D G iv H) (hS : va_S (hk_A D) s.heap H locs) (hP : P (some (.long v)) G iv) (hdg : decode cc pc = .ok (.lreturn, 1)) : W p l e R s m args below meth c H locs cells slots (MQ below (hk_Q D P) args s cells slots (hk_A D)) (F0 m pc ls [.long v]) :=
  W.lret hexec hb hr (fun t h2 _ => ⟨⟨_, G, iv, rfl, hP, by rw [h2]; exact hH⟩, hS.F h2⟩) hS.2.2 hdg hlocks
theorem hk_vret (hexec : p.tables.exec = Jvm.exec) (hb : c.code = cc) (hr : meth.sig.returnType = none) (hlocks : meth.locks = false) (hH : hk_H D G iv H) (hS : va_S (hk_A D) s.heap H locs) (hP : P none G iv) (hdg : decode cc pc = .ok (.return_, 1)) : W p l e R s m args below meth c H locs cells slots (MQ below (hk_Q D P) args s cells slots (hk_A D)) (F0 m pc ls []) :=
  W.vret hexec hb hr (fun t h2 _ => ⟨⟨_, G, iv, rfl, hP, by rw [h2]; exact hH⟩, hS.F h2⟩) hS.2.2 hdg hlocks
theorem hk_aret {rt : FieldType} (hexec : p.tables.exec = Jvm.exec) (hb : c.code = cc) (hr : meth.sig.returnType = some rt) (hlocks : meth.locks = false) (hrt : (∃ n, rt = .object n) ∨ ∃ t, rt = .array t) {v : Value} (hv : v = .null ∨ ∃ a, v = .ref a) (hH : hk_H D G iv H) (hS : va_S (hk_A D) s.heap H locs) (hP : P (some v) G iv) (hdg : decode cc pc = .ok (.areturn, 1)) : W p l e R s m args below meth c H locs cells slots (MQ below (hk_Q D P) args s cells slots (hk_A D)) (F0 m pc ls [v]) :=
  W.aret hexec hb hr hrt hv (fun t h2 _ => ⟨⟨_, G, iv, rfl, hP, by rw [h2]; exact hH⟩, hS.F h2⟩) hS.2.2 hdg hlocks
end HKC
section HKE
variable {p : Program} {l : Launch} {e : Env} {R : Room} {s : State} {m : MethodId} {args : Array Value} {below : List Frame} {meth : Method} {c : Code} {cells slots : Nat} {Q : State → Prop}
variable {pc : Nat} {ls : Array Slot} {rest : List Value} {D : hk_D} {G : hk_G} {iv : hk_V}
/-- behind a call whose end is told exactly: with an answer, with none -/
theorem hk_ea {x : Value} (k : ∀ (H1 : Heap) (locs1 : List Loc), hk_H D G iv H1 → va_S (hk_A D) s.heap H1 locs1 → W p l e R s m args below meth c H1 locs1 cells slots Q (F0 m pc ls (x :: rest))) : ∀ (v : Option Value) (G1 : hk_G) (iv1 : hk_V) (H1 : Heap) (locs1 : List Loc), hk_e G (some x) iv v G1 iv1 → hk_H D G1 iv1 H1 → va_S (hk_A D) s.heap H1 locs1 → W p l e R s m args below meth c H1 locs1 cells slots Q (F0 m pc ls (v.toList ++ rest)) := by
  intro v G1 iv1 H1 locs1 h
  obtain ⟨rfl, rfl, rfl⟩ := h
  exact k H1 locs1
theorem hk_ev (k : ∀ (H1 : Heap) (locs1 : List Loc), hk_H D G iv H1 → va_S (hk_A D) s.heap H1 locs1 → W p l e R s m args below meth c H1 locs1 cells slots Q (F0 m pc ls rest)) : ∀ (v : Option Value) (G1 : hk_G) (iv1 : hk_V) (H1 : Heap) (locs1 : List Loc), hk_e G none iv v G1 iv1 → hk_H D G1 iv1 H1 → va_S (hk_A D) s.heap H1 locs1 → W p l e R s m args below meth c H1 locs1 cells slots Q (F0 m pc ls (v.toList ++ rest)) := by
  intro v G1 iv1 H1 locs1 h
  obtain ⟨rfl, rfl, rfl⟩ := h
  exact k H1 locs1
end HKE
theorem hk_u_ap (τ : hk_v) (q : Nat × Nat) (k : Nat) (x : Int32) (q' : Nat × Nat) (j : Nat) : hk_u τ q k x q' j = if q' = q ∧ j = k then x else τ q' j := rfl
/-- a loop that counts up -/
def hk_it {α : Type} (f : Nat → α → α) : Nat → Nat → α → α
  | 0, _, s => s
  | n + 1, i, s => hk_it f n (i + 1) (f i s)
theorem hk_it_0 {α : Type} (f : Nat → α → α) (i : Nat) (s : α) : hk_it f 0 i s = s := rfl
theorem hk_it_s {α : Type} (f : Nat → α → α) (n i : Nat) (s : α) : hk_it f (n + 1) i s = hk_it f n (i + 1) (f i s) := rfl
theorem hk_it_last {α : Type} (f : Nat → α → α) : ∀ (n i : Nat) (s : α), hk_it f (n + 1) i s = f (i + n) (hk_it f n i s)
  | 0, i, s => rfl
  | n + 1, i, s => by rw [hk_it_s, hk_it_last f n (i + 1) (f i s), hk_it_s, show i + 1 + n = i + (n + 1) by omega]
/-- what each step keeps, the loop keeps -/
theorem hk_it_inv {α : Type} {f : Nat → α → α} (I : Nat → α → Prop) : ∀ (n i : Nat) (s : α), I i s → (∀ j t, i ≤ j → j < i + n → I j t → I (j + 1) (f j t)) → I (i + n) (hk_it f n i s)
  | 0, _, _, h, _ => h
  | n + 1, i, s, h, hs => by
    rw [hk_it_s, show i + (n + 1) = i + 1 + n by omega]
    exact hk_it_inv I n (i + 1) (f i s) (hs i s (Nat.le_refl i) (by omega) h) (fun j t h1 h2 => hs j t (by omega) (by omega))
