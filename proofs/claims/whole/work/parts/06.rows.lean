section HKR
variable {p : Program} {l : Launch} {e : Env} {R : Room} {s : State} {m : MethodId} {args : Array Value} {below : List Frame} {meth : Method} {c : Code} {H : Heap} {locs : List Loc} {cells slots : Nat} {Q : State → Prop}
variable {cc : ByteArray} {pc : Nat} {ls : Array Slot} {rest : List Value} {D : hk_D} {G : hk_G} {iv : hk_V} {L : hk_L}
theorem hk_get (hexec : p.tables.exec = Jvm.exec) (hb : c.code = cc) {own ref C : String} {T : u_T} {N ci index : Nat} {ty : Nat → FieldType} (ht : ∀ w ∈ lw_tg, w.before args s = true) (hown : s.vm.findClass own = some m.cls) (hK : hk_K D s) (hH : hk_H D G iv H) (hc : hk_cls ci C T N ty) (hkd : G.2.1 L = some (.inl ci)) (k : Nat) (hk : k < N) (hlink : Cond.fieldLink own index ref (T k).2.1 (T k).2.2.1 ∈ lw_tg) (hsame : ∀ x, s.fieldFound? (T k).1 (T k).2.1 (T k).2.2.1 = some x → s.fieldFound? ref (T k).2.1 (T k).2.2.1 = some x) {v : Value} (hv : hk_ob G iv ci L k = v) (hdg : decode cc pc = .ok (.getfield index, 3))
    (kk : W p l e R s m args below meth c H locs cells slots Q (F0 m (pc + 3) ls (v :: rest))) : W p l e R s m args below meth c H locs cells slots Q (F0 m pc ls (.ref (G.1 L) :: rest)) := by
  obtain ⟨r, h1, cell, q1, q2, q3, q4⟩ := (hH.2.1 L _ hkd).1
  have hr : r = (C, T, N) := Option.some.inj (h1.symm.trans hc.1)
  subst hr
  obtain ⟨hS, hfc, kC, hkC, hkind⟩ := hK.1.1 ci _ hc.1
  obtain ⟨cf, kf, fi, f, hi, hsl⟩ := hS k hk
  refine W.getf hexec hb hown (ht _ hlink) (hsame _ hi) (u_facts hfc hkC (u_lays ht hc.2.1 hk) hi).1 q1 (by rw [q3]; exact fun h => by cases h) (v := v) ?_ rfl rfl hdg kk
  rw [hsl, q4 k hk, hv]
/-- an int field -/
theorem hk_geti (hexec : p.tables.exec = Jvm.exec) (hb : c.code = cc) {own ref C : String} {T : u_T} {N ci index : Nat} {ty : Nat → FieldType} (ht : ∀ w ∈ lw_tg, w.before args s = true) (hown : s.vm.findClass own = some m.cls) (hK : hk_K D s) (hH : hk_H D G iv H) (hc : hk_cls ci C T N ty) (hkd : G.2.1 L = some (.inl ci)) (k : Nat) (hk : k < N) (hi : hk_int ci k = true) (hlink : Cond.fieldLink own index ref (T k).2.1 (T k).2.2.1 ∈ lw_tg) (hsame : (T k).1 = ref) {v : Int32} (hv : iv L k = v) (hdg : decode cc pc = .ok (.getfield index, 3))
    (kk : W p l e R s m args below meth c H locs cells slots Q (F0 m (pc + 3) ls (.int v :: rest))) : W p l e R s m args below meth c H locs cells slots Q (F0 m pc ls (.ref (G.1 L) :: rest)) :=
  hk_get (v := .int v) hexec hb ht hown hK hH hc hkd k hk hlink (fun x h => by rw [← hsame]; exact h) (by simp [hk_ob, hi, hv]) hdg kk
/-- a field of another kind -/
theorem hk_getr (hexec : p.tables.exec = Jvm.exec) (hb : c.code = cc) {own ref C : String} {T : u_T} {N ci index : Nat} {ty : Nat → FieldType} (ht : ∀ w ∈ lw_tg, w.before args s = true) (hown : s.vm.findClass own = some m.cls) (hK : hk_K D s) (hH : hk_H D G iv H) (hc : hk_cls ci C T N ty) (hkd : G.2.1 L = some (.inl ci)) (k : Nat) (hk : k < N) (hi : hk_int ci k = false) (hlink : Cond.fieldLink own index ref (T k).2.1 (T k).2.2.1 ∈ lw_tg) (hsame : (T k).1 = ref) {v : Value} (hv : G.2.2 L k = v) (hdg : decode cc pc = .ok (.getfield index, 3))
    (kk : W p l e R s m args below meth c H locs cells slots Q (F0 m (pc + 3) ls (v :: rest))) : W p l e R s m args below meth c H locs cells slots Q (F0 m pc ls (.ref (G.1 L) :: rest)) :=
  hk_get (v := v) hexec hb ht hown hK hH hc hkd k hk hlink (fun x h => by rw [← hsame]; exact h) (by simp [hk_ob, hi, hv]) hdg kk
theorem hk_slots {own C : String} {T : u_T} {N ci : Nat} {ty : Nat → FieldType} (ht : ∀ w ∈ lw_tg, w.before args s = true) (hK : hk_K D s) (hc : hk_cls ci C T N ty) : ∀ x y, x < N → y < N → x ≠ y → (D.1.1.2 ci) x ≠ (D.1.1.2 ci) y := va_apart (own := own) ht hc.2.1 ty hc.2.2.1 hc.2.2.2 hK.1 hc.1
/-- any field is written: the cell's new values -/
theorem hk_putw (hexec : p.tables.exec = Jvm.exec) (hb : c.code = cc) {own ref C : String} {T : u_T} {N ci index : Nat} {ty : Nat → FieldType} (ht : ∀ w ∈ lw_tg, w.before args s = true) (hown : s.vm.findClass own = some m.cls) (hK : hk_K D s) (hH : hk_H D G iv H) (hc : hk_cls ci C T N ty) (hkd : G.2.1 L = some (.inl ci)) (k : Nat) (hk : k < N) (hlink : Cond.fieldLink own index ref (T k).2.1 (T k).2.2.1 ∈ lw_tg) (hsame : ∀ x, s.fieldFound? (T k).1 (T k).2.1 (T k).2.2.1 = some x → s.fieldFound? ref (T k).2.1 (T k).2.2.1 = some x) (hfin : (T k).2.2.2 = false ∨ ((T k).2.2.2 = true ∧ meth.name = "<init>" ∧ (T k).1 = own)) {v : Value} (hn : narrow (ty k) v = v) (hfit : fits (ty k) v = true)
    (hdg : decode cc pc = .ok (.putfield index, 3)) (kk : ∀ (H1 : Heap) (i : Nat), H1.size = H.size → (∀ q : Nat, q ≠ G.1 L → H1[q]? = H[q]?) → t_OB (G.1 L) (D.1.1.1 ci) N (D.1.1.2 ci) H1 (updV (hk_ob G iv ci L) k v) → W p l e R s m args below meth c H1 (locs ++ [⟨G.1 L, i⟩]) cells slots Q (F0 m (pc + 3) ls rest)) : W p l e R s m args below meth c H locs cells slots Q (F0 m pc ls (v :: .ref (G.1 L) :: rest)) := by
  have hap := hk_slots (own := own) ht hK hc
  obtain ⟨r, h1, cell, q1, q2, q3, q4⟩ := (hH.2.1 L _ hkd).1
  have hr : r = (C, T, N) := Option.some.inj (h1.symm.trans hc.1)
  subst hr
  obtain ⟨hS, hfc, kC, hkC, hkind⟩ := hK.1.1 ci _ hc.1
  obtain ⟨cf, kf, fi, f, hi, hsl⟩ := hS k hk
  have hlay := ht _ (hc.2.1 _ (u_in_lay hk))
  unfold u_lay at hlay
  have hst := (u_facts hfc hkC (u_lays ht hc.2.1 hk) hi).1
  rcases hfin with hfin | ⟨hfin, hin2, hdecl⟩
  · rw [if_neg (by rw [hfin]; decide)] at hlay
    have h6 := u_store hfc hkC hkind hlay hi (hc.2.2.1 k hk) hn hfit
    refine W.putK hexec hb (f := f) ⟨hown, ht _ hlink, ⟨_, _, _, hsame _ hi⟩, hst⟩ (by rw [q2]; exact h6) q1 q3 (by rw [hsl]; exact k2_hasslot (q4 k hk)) rfl rfl hdg fun H' e1 e2 e3 => ?_
    rw [hsl] at e1
    exact kk H' _ e2 e3 ⟨_, e1, q2, q3, t_set q4 hap hk v⟩
  · rw [if_pos hfin] at hlay
    have hcf : m.cls = cf := by
      obtain ⟨_, _, c', _, _, _, -, -, hf', -, -, -, hown2, -⟩ := Cond.laysFinal_spec hlay
      have e1 : c' = cf := by have := hi.symm.trans hf'; simp at this; exact this.1.symm
      rw [hdecl] at hown2
      rw [← e1]; exact Option.some.inj (hown.symm.trans hown2)
    have h6 := u_fits hfc hkC hkind (Or.inr hlay) hi (hc.2.2.1 k hk) hn hfit
    refine W.putFinK hexec hb hown (ht _ hlink) (hsame _ hi) hst hcf hin2 (by rw [q2]; exact h6) q1 q3 (by rw [hsl]; exact k2_hasslot (q4 k hk)) rfl rfl hdg fun H' e1 e2 e3 => ?_
    rw [hsl] at e1
    exact kk H' _ e2 e3 ⟨_, e1, q2, q3, t_set q4 hap hk v⟩
theorem hk_puti (hexec : p.tables.exec = Jvm.exec) (hb : c.code = cc) {own ref C : String} {T : u_T} {N ci index : Nat} {ty : Nat → FieldType} (ht : ∀ w ∈ lw_tg, w.before args s = true) (hown : s.vm.findClass own = some m.cls) (hK : hk_K D s) (hH : hk_H D G iv H) (hS : va_S (hk_A D) s.heap H locs) (hc : hk_cls ci C T N ty) (hkd : G.2.1 L = some (.inl ci)) (k : Nat) (hk : k < N) (hi : hk_int ci k = true) (hlink : Cond.fieldLink own index ref (T k).2.1 (T k).2.2.1 ∈ lw_tg) (hsame : (T k).1 = ref) (hfin : (T k).2.2.2 = false ∨ ((T k).2.2.2 = true ∧ meth.name = "<init>" ∧ (T k).1 = own)) (hty : ty k = .int) {v : Int32}
    (hdg : decode cc pc = .ok (.putfield index, 3)) (kk : ∀ (H1 : Heap) (locs1 : List Loc), hk_H D G (hk_up iv L k v) H1 → va_S (hk_A D) s.heap H1 locs1 → W p l e R s m args below meth c H1 locs1 cells slots Q (F0 m (pc + 3) ls rest)) : W p l e R s m args below meth c H locs cells slots Q (F0 m pc ls (.int v :: .ref (G.1 L) :: rest)) := by
  refine hk_putw hexec hb ht hown hK hH hc hkd k hk hlink (fun x h => by rw [← hsame]; exact h) hfin (by rw [hty]; rfl) (by rw [hty]; rfl) hdg (fun H1 i z oq h => ?_)
  refine kk H1 _ (hH.set hkd k v z oq ⟨_, hc.1, h.to (fun j _ => ?_)⟩) (hS.put z oq (hH.2.1 L _ hkd).2)
  by_cases hj : j = k
  · subst hj; simp [updV, hk_ob, hi, hk_up]
  · simp [updV, hk_ob, hk_up, hj]
def hk_rf (G : hk_G) (L : hk_L) (k : Nat) (v : Value) : hk_G := (G.1, (G.2.1, fun L' j => if L' = L ∧ j = k then v else G.2.2 L' j))
theorem hk_putr (hexec : p.tables.exec = Jvm.exec) (hb : c.code = cc) {own ref C : String} {T : u_T} {N ci index : Nat} {ty : Nat → FieldType} (ht : ∀ w ∈ lw_tg, w.before args s = true) (hown : s.vm.findClass own = some m.cls) (hK : hk_K D s) (hH : hk_H D G iv H) (hS : va_S (hk_A D) s.heap H locs) (hc : hk_cls ci C T N ty) (hkd : G.2.1 L = some (.inl ci)) (k : Nat) (hk : k < N) (hi : hk_int ci k = false) (hlink : Cond.fieldLink own index ref (T k).2.1 (T k).2.2.1 ∈ lw_tg) (hsame : (T k).1 = ref) (hfin : (T k).2.2.2 = false ∨ ((T k).2.2.2 = true ∧ meth.name = "<init>" ∧ (T k).1 = own)) {v : Value} (hn : narrow (ty k) v = v) (hfit : fits (ty k) v = true)
    (hdg : decode cc pc = .ok (.putfield index, 3)) (kk : ∀ (H1 : Heap) (locs1 : List Loc), hk_H D (hk_rf G L k v) iv H1 → va_S (hk_A D) s.heap H1 locs1 → W p l e R s m args below meth c H1 locs1 cells slots Q (F0 m (pc + 3) ls rest)) : W p l e R s m args below meth c H locs cells slots Q (F0 m pc ls (v :: .ref (G.1 L) :: rest)) := by
  refine hk_putw hexec hb ht hown hK hH hc hkd k hk hlink (fun x h => by rw [← hsame]; exact h) hfin hn hfit hdg (fun H1 i z oq h => ?_)
  refine kk H1 _ ⟨by rw [z]; exact hH.1, fun L' k' hk' => ?_, hH.2.2⟩ (hS.put z oq (hH.2.1 L _ hkd).2)
  have hk'' : G.2.1 L' = some k' := hk'
  by_cases e : L' = L
  · subst e
    cases hkd.symm.trans hk''
    refine ⟨⟨_, hc.1, h.to (fun j _ => ?_)⟩, (hH.2.1 L' _ hkd).2⟩
    by_cases hj : j = k
    · subst hj; simp [updV, hk_ob, hi, hk_rf]
    · simp [updV, hk_ob, hk_rf, hj]
  · obtain ⟨h1, h2⟩ := hH.2.1 L' k' hk''
    have hq := oq _ (fun q => e (hH.2.2 L' L k' _ hk'' hkd q))
    refine ⟨?_, h2⟩
    have er : (hk_rf G L k v).2.2 L' = G.2.2 L' := by funext j; simp [hk_rf, e]
    rcases k' with cj | n | n
    · obtain ⟨r, g1, g2⟩ := h1
      exact ⟨r, g1, (g2.kept hq).to (fun j _ => by simp only [hk_ob, er])⟩
    · exact hq.trans h1
    · show H1[_]? = some (arrV _ _ ((hk_rf G L k v).2.2 L'))
      rw [er]
      exact hq.trans h1
theorem hk_ild (hexec : p.tables.exec = Jvm.exec) (hb : c.code = cc) (hK : hk_K D s) (hH : hk_H D G iv H) {n : Nat} (hkd : G.2.1 L = some (.inr (.inl n))) {i : Int32} (hin : vp_in i n) {v : Int32} (hv : iv L i.toNatClampNeg = v) (hdg : decode cc pc = .ok (.iaload, 1))
    (kk : W p l e R s m args below meth c H locs cells slots Q (F0 m (pc + 1) ls (.int v :: rest))) : W p l e R s m args below meth c H locs cells slots Q (F0 m pc ls (.int i :: .ref (G.1 L) :: rest)) := by
  have hlt : i.toNatClampNeg < n := Nat.not_le.mp fun q => hin (Or.inr q)
  subst hv
  exact W.iald (v := .int (iv L i.toNatClampNeg)) hexec hb (hH.2.1 L _ hkd).1 ((hK.1.2 0 _ rfl).1 n (fun j => .int (iv L j))) (fun q => by cases q) (by show ¬ (i < 0 ∨ (arrV _ _ _).slots.size ≤ _); rw [arrV_size]; exact hin) (by show (arrV _ _ _).slots[_]? = _; rw [arrV_read _ _ hlt]) rfl rfl hdg kk
theorem hk_ist (hexec : p.tables.exec = Jvm.exec) (hb : c.code = cc) (hK : hk_K D s) (hH : hk_H D G iv H) (hS : va_S (hk_A D) s.heap H locs) {n : Nat} (hkd : G.2.1 L = some (.inr (.inl n))) {i x : Int32} (hin : vp_in i n) (hdg : decode cc pc = .ok (.iastore, 1))
    (kk : ∀ (H1 : Heap) (locs1 : List Loc), hk_H D G (hk_up iv L i.toNatClampNeg x) H1 → va_S (hk_A D) s.heap H1 locs1 → W p l e R s m args below meth c H1 locs1 cells slots Q (F0 m (pc + 1) ls rest)) : W p l e R s m args below meth c H locs cells slots Q (F0 m pc ls (.int x :: .int i :: .ref (G.1 L) :: rest)) := by
  refine W.iast hexec hb (hH.2.1 L _ hkd).1 ((hK.1.2 0 _ rfl).1 n (fun j => .int (iv L j))) (fun q => by cases q) (by show ¬ (i < 0 ∨ (arrV _ _ _).slots.size ≤ _); rw [arrV_size]; exact hin) rfl rfl hdg fun H1 e z oq => ?_
  refine kk H1 _ (hH.set hkd _ x z oq ?_) (hS.put z oq (hH.2.1 L _ hkd).2)
  show H1[_]? = some (arrV _ _ _)
  rw [e, arrV_store]
  congr 2
  funext q
  by_cases hq : q = i.toNatClampNeg
  · subst hq; simp [updV, hk_up]
  · simp [updV, hk_up, hq]
theorem hk_ilen (hexec : p.tables.exec = Jvm.exec) (hb : c.code = cc) (hK : hk_K D s) (hH : hk_H D G iv H) {n : Nat} (hkd : G.2.1 L = some (.inr (.inl n))) {v : Int32} (hv : Int32.ofNat n = v) (hdg : decode cc pc = .ok (.arraylength, 1))
    (kk : W p l e R s m args below meth c H locs cells slots Q (F0 m (pc + 1) ls (.int v :: rest))) : W p l e R s m args below meth c H locs cells slots Q (F0 m pc ls (.ref (G.1 L) :: rest)) := by
  subst hv
  exact W.alen (n := Int32.ofNat n) hexec hb (hH.2.1 L _ hkd).1 ((hK.1.2 0 _ rfl).1 n (fun j => .int (iv L j))) (by rw [arrV_size] <;> rfl) rfl rfl hdg kk
theorem hk_qlen (hexec : p.tables.exec = Jvm.exec) (hb : c.code = cc) (hK : hk_K D s) (hH : hk_H D G iv H) {n : Nat} (hkd : G.2.1 L = some (.inr (.inr n))) {v : Int32} (hv : Int32.ofNat n = v) (hdg : decode cc pc = .ok (.arraylength, 1))
    (kk : W p l e R s m args below meth c H locs cells slots Q (F0 m (pc + 1) ls (.int v :: rest))) : W p l e R s m args below meth c H locs cells slots Q (F0 m pc ls (.ref (G.1 L) :: rest)) := by
  subst hv
  exact W.alen (n := Int32.ofNat n) hexec hb (hH.2.1 L _ hkd).1 ((hK.1.2 1 _ rfl).1 n (G.2.2 L)) (by rw [arrV_size] <;> rfl) rfl rfl hdg kk
theorem hk_qld (hexec : p.tables.exec = Jvm.exec) (hb : c.code = cc) (hK : hk_K D s) (hH : hk_H D G iv H) {n : Nat} (hkd : G.2.1 L = some (.inr (.inr n))) {i : Int32} (hin : vp_in i n) {v : Value} (hv : G.2.2 L i.toNatClampNeg = v) (hdg : decode cc pc = .ok (.aaload, 1))
    (kk : W p l e R s m args below meth c H locs cells slots Q (F0 m (pc + 1) ls (v :: rest))) : W p l e R s m args below meth c H locs cells slots Q (F0 m pc ls (.int i :: .ref (G.1 L) :: rest)) := by
  have hlt : i.toNatClampNeg < n := Nat.not_le.mp fun q => hin (Or.inr q)
  subst hv
  exact W.aald (v := G.2.2 L i.toNatClampNeg) (ty := .object "java/lang/Object") hexec hb (hH.2.1 L _ hkd).1 ((hK.1.2 1 _ rfl).1 n (G.2.2 L)) rfl (fun q => by cases q) (by show ¬ (i < 0 ∨ (arrV _ _ _).slots.size ≤ _); rw [arrV_size]; exact hin) (by show (arrV _ _ _).slots[_]? = _; rw [arrV_read _ _ hlt]) rfl rfl hdg kk
/-- a cell of the world as a call's receiver -/
theorem hk_recv {ci : Nat} {q : vw_C} (hK : hk_K D s) (hH : hk_H D G iv H) (hc : vwCl[ci]? = some q) (hkd : G.2.1 L = some (.inl ci)) : ∃ cell : Cell, H[G.1 L]? = some cell ∧ cell.vm.isStatics = false ∧ s.vm.findClass q.1 = some cell.cls := by
  obtain ⟨r, h1, cell, q1, q2, q3, -⟩ := (hH.2.1 L _ hkd).1
  have hr : r = q := Option.some.inj (h1.symm.trans hc)
  subst hr
  exact ⟨cell, q1, by rw [q3]; rfl, by rw [q2]; exact (hK.1.1 ci _ hc).2.1⟩
theorem hk_run {v0 : Unit} {mc ms : Nat} {st0 : List Value} {a : Array Value} {P : Option Value → hk_G → hk_V → Prop} (hr : va_Run p l e R s m args below meth c H locs cells slots mc ms (F0 m pc ls st0) rest (hk_Q D P a) (hk_A D)) (hS : va_S (hk_A D) s.heap H locs)
    (kk : ∀ (v : Option Value) (G1 : hk_G) (iv1 : hk_V) (H1 : Heap) (locs1 : List Loc), P v G1 iv1 → hk_H D G1 iv1 H1 → va_S (hk_A D) s.heap H1 locs1 → W p l e R s m args below meth c H1 locs1 (cells + mc) (slots + ms) Q (F0 m (pc + 3) ls (v.toList ++ rest))) : W p l e R s m args below meth c H locs cells slots Q (F0 m pc ls st0) := by
  intro T hT X
  obtain ⟨v, st₀, t, T', L, h0, X', hL, e1, e2, ⟨⟨v', G1, iv1, hv, hp, hb⟩, hz, hk⟩, st⟩ := hr T hT X
  cases hv
  rw [h0] at hz hk
  obtain ⟨t2, a1, b1⟩ := kk v G1 iv1 T'.heap (locs ++ L) hp (by rw [e1]; exact hb)
    ⟨Nat.le_trans hS.1 (by rw [e1]; exact hz), fun q h1 h2 => by rw [e1, hk q (Nat.lt_of_lt_of_le h1 hS.1) h2]; exact hS.2.1 q h1 h2, fun q hq => by
      rcases List.mem_append.mp hq with h | h
      · exact hS.2.2 q h
      · exact hL q h⟩ T' rfl X'
  exact ⟨t2, st t2 a1, b1⟩
end HKR
