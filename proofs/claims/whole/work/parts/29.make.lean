/-! making cells: a place that was not used gets an address, a kind and what it holds -/
def hk_add (G : hk_G) (L : hk_L) (a : Nat) (k : hk_k) (r : Nat → Value) : hk_G := (fun L' => if L' = L then a else G.1 L', (fun L' => if L' = L then some k else G.2.1 L', fun L' j => if L' = L then r j else G.2.2 L' j))
def hk_zr (iv : hk_V) (L : hk_L) : hk_V := fun L' j => if L' = L then 0 else iv L' j
def hk_zo (τ : hk_v) (q : Nat × Nat) : hk_v := fun q' j => if q' = q then 0 else τ q' j
theorem hk_zo_ap (τ : hk_v) (q q' : Nat × Nat) (j : Nat) : hk_zo τ q q' j = if q' = q then 0 else τ q' j := rfl
theorem hk_zr_l (τ σ : hk_v) (q : Nat × Nat) : hk_zr (hk_cm τ σ) (.inl q) = hk_cm (hk_zo τ q) σ := by
  funext L j
  cases L with
  | inl a => simp [hk_zr, hk_cm, hk_zo]
  | inr a => simp [hk_zr, hk_cm]
theorem hk_zr_r (τ σ : hk_v) (q : Nat × Nat) : hk_zr (hk_cm τ σ) (.inr q) = hk_cm τ (hk_zo σ q) := by
  funext L j
  cases L with
  | inl a => simp [hk_zr, hk_cm]
  | inr a => simp [hk_zr, hk_cm, hk_zo]
theorem hk_at.to {D : hk_D} {G G1 : hk_G} {iv iv' : hk_V} {L : hk_L} {H H1 : Heap} {k : hk_k} (h : hk_at D G iv L H k) (ha : G1.1 L = G.1 L) (hr : G1.2.2 L = G.2.2 L) (hq : H1[G.1 L]? = H[G.1 L]?) (hi : iv' L = iv L) : hk_at D G1 iv' L H1 k := by
  rcases k with ci | n | n
  · obtain ⟨r, h1, h2⟩ := h
    refine ⟨r, h1, ?_⟩
    rw [ha]
    refine (h2.kept hq).to (fun j _ => ?_)
    simp only [hk_ob, hi, hr]
  · show H1[G1.1 L]? = _
    rw [ha, hq, hi]
    exact h
  · show H1[G1.1 L]? = _
    rw [ha, hq, hr]
    exact h
theorem hk_H.add {D : hk_D} {G : hk_G} {iv iv' : hk_V} {H H1 : Heap} {L : hk_L} {k : hk_k} {r : Nat → Value} (hH : hk_H D G iv H) (hn : G.2.1 L = none) (z : H1.size = H.size + 1) (o : ∀ q : Nat, q < H.size → H1[q]? = H[q]?) (hi : ∀ L', L' ≠ L → iv' L' = iv L') (hat : hk_at D (hk_add G L H.size k r) iv' L H1 k) : hk_H D (hk_add G L H.size k r) iv' H1 := by
  refine ⟨by have := hH.1; omega, fun L' k' hk' => ?_, fun L1 L2 k1 k2 h1 h2 he => ?_⟩
  · by_cases e : L' = L
    · subst e
      have hk2 : some k = some k' := by simpa [hk_add] using hk'
      cases hk2
      exact ⟨hat, by simpa [hk_add] using hH.1⟩
    · have hk2 : G.2.1 L' = some k' := by simpa [hk_add, e] using hk'
      obtain ⟨q1, q2⟩ := hH.2.1 L' k' hk2
      exact ⟨q1.to (by simp [hk_add, e]) (by funext j; simp [hk_add, e]) (o _ (hH.lt hk2)) (hi L' e), by simpa [hk_add, e] using q2⟩
  · by_cases e1 : L1 = L
    · by_cases e2 : L2 = L
      · rw [e1, e2]
      · exfalso
        have h2' : G.2.1 L2 = some k2 := by simpa [hk_add, e2] using h2
        have hlt := hH.lt h2'
        have he' : H.size = G.1 L2 := by simpa [hk_add, e1, e2] using he
        omega
    · have h1' : G.2.1 L1 = some k1 := by simpa [hk_add, e1] using h1
      by_cases e2 : L2 = L
      · exfalso
        have hlt := hH.lt h1'
        have he' : G.1 L1 = H.size := by simpa [hk_add, e1, e2] using he
        omega
      · have h2' : G.2.1 L2 = some k2 := by simpa [hk_add, e2] using h2
        exact hH.2.2 L1 L2 k1 k2 h1' h2' (by simpa [hk_add, e1, e2] using he)
theorem va_S.grow {A : Nat → Prop} {H0 H H1 : Heap} {locs : List Loc} (h : va_S A H0 H locs) (z : H1.size = H.size + 1) (o : ∀ q : Nat, q < H.size → H1[q]? = H[q]?) : va_S A H0 H1 locs :=
  ⟨by have := h.1; omega, fun q h1 h2 => (o q (Nat.lt_of_lt_of_le h1 h.1)).trans (h.2.1 q h1 h2), h.2.2⟩
section HKMK
variable {p : Program} {l : Launch} {e : Env} {R : Room} {s : State} {m : MethodId} {args : Array Value} {below : List Frame} {meth : Method} {c : Code} {H : Heap} {locs : List Loc} {cells slots : Nat} {Q : State → Prop}
variable {cc : ByteArray} {pc : Nat} {ls : Array Slot} {rest : List Value} {D : hk_D} {G : hk_G} {iv : hk_V} {L : hk_L}
/-- new -/
theorem hk_new (hexec : p.tables.exec = Jvm.exec) (hb : c.code = cc) {own C : String} {T : u_T} {N ci index : Nat} {ty : Nat → FieldType} (ht : ∀ w ∈ lw_tg, w.before args s = true) (hown : s.vm.findClass own = some m.cls) (hK : hk_K D s) (hH : hk_H D G iv H) (hS : va_S (hk_A D) s.heap H locs) (hc : hk_cls ci C T N ty) (hn : G.2.1 L = none) (hz : ∀ j, j < N → hk_int ci j = true → ty j = .int) (w1 : Cond.classLink own index C ∈ lw_tg) (w2 : Cond.instantiable C N ∈ lw_tg) (w3 : Cond.initialized C ∈ lw_tg) (hf : cells + 1 ≤ R.cells ∧ slots + N ≤ R.slots) (hdg : decode cc pc = .ok (.new index, 3))
    (kk : ∀ (H1 : Heap) (a : Nat), hk_H D (hk_add G L a (.inl ci) (fun j => defaultValue (ty j))) (hk_zr iv L) H1 → va_S (hk_A D) s.heap H1 locs → W p l e R s m args below meth c H1 locs (cells + 1) (slots + N) Q (F0 m (pc + 3) ls (.ref a :: rest))) : W p l e R s m args below meth c H locs cells slots Q (F0 m pc ls rest) := by
  have hKn := hK.1.1 ci _ hc.1
  refine W.newcK hexec hb hown (ht _ w1) (ht _ w2) (ht _ w3) rfl hdg hf.1 hf.2 hKn.2.1 rfl fun H1 kC hkC e1 z1 o1 => ?_
  refine kk H1 H.size (hH.add hn z1 o1 (fun L' h => by funext j; simp [hk_zr, h]) ⟨_, hc.1, ?_⟩) (hS.grow z1 o1)
  rw [show (hk_add G L H.size (.inl ci) (fun j => defaultValue (ty j))).1 L = H.size by simp [hk_add]]
  refine (u_born ty ht hc.2.1 hKn hkC e1 hc.2.2.1).to (fun j hj => ?_)
  by_cases h : hk_int ci j = true
  · rw [hz j hj h]
    simp [hk_ob, h, hk_zr]
    rfl
  · simp [hk_ob, h, hk_add]
/-- new int[n] -/
theorem hk_newi (hexec : p.tables.exec = Jvm.exec) (hb : c.code = cc) (ht : ∀ w ∈ lw_tg, w.before args s = true) (hK : hk_K D s) (hH : hk_H D G iv H) (hS : va_S (hk_A D) s.heap H locs) (hn : G.2.1 L = none) (w1 : Cond.arrayClass .int ∈ lw_tg) {x : Int32} {n : Nat} (hx : x = nI n) (hn2 : n ≤ 10000) (hf : cells + 1 ≤ R.cells ∧ slots + n ≤ R.slots) (hdg : decode cc pc = .ok (.newarray .int, 2))
    (kk : ∀ (H1 : Heap) (a : Nat), hk_H D (hk_add G L a (.inr (.inl n)) (fun _ => .null)) (hk_zr iv L) H1 → va_S (hk_A D) s.heap H1 locs → W p l e R s m args below meth c H1 locs (cells + 1) (slots + n) Q (F0 m (pc + 2) ls (.ref a :: rest))) : W p l e R s m args below meth c H locs cells slots Q (F0 m pc ls (.int x :: rest)) := by
  subst hx
  refine va_newaK (atype := .int) (N := n) hexec hb (ht _ w1) rfl hdg rfl (nI_pos (by omega)) (nI_clamp (by omega)) (by show n * 4 ≤ _; omega) hf.1 hf.2 rfl fun H1 cA e1 z1 o1 hAr hNm => ?_
  have hcA : D.1.2.1 = cA := Option.some.inj ((hK.1.2 0 _ rfl).2.symm.trans hNm)
  subst hcA
  refine kk H1 H.size (hH.add hn z1 o1 (fun L' h => by funext j; simp [hk_zr, h]) ?_) (hS.grow z1 o1)
  show H1[(hk_add G L H.size (.inr (.inl n)) (fun _ => .null)).1 L]? = _
  rw [show (hk_add G L H.size (.inr (.inl n)) (fun _ => .null)).1 L = H.size by simp [hk_add], e1]
  congr 2
  funext j
  simp [hk_zr]
  rfl
/-- new Object[n] -/
theorem hk_newq (hexec : p.tables.exec = Jvm.exec) (hb : c.code = cc) {own : String} {index : Nat} (ht : ∀ w ∈ lw_tg, w.before args s = true) (hown : s.vm.findClass own = some m.cls) (hK : hk_K D s) (hH : hk_H D G iv H) (hS : va_S (hk_A D) s.heap H locs) (hn : G.2.1 L = none) (w1 : Cond.classLink own index "java/lang/Object" ∈ lw_tg) {x : Int32} {n : Nat} (hx : x = nI n) (hn2 : n ≤ 10000) (hf : cells + 1 ≤ R.cells ∧ slots + n ≤ R.slots) (hdg : decode cc pc = .ok (.anewarray index, 3))
    (kk : ∀ (H1 : Heap) (a : Nat), hk_H D (hk_add G L a (.inr (.inr n)) (fun _ => .null)) iv H1 → va_S (hk_A D) s.heap H1 locs → W p l e R s m args below meth c H1 locs (cells + 1) (slots + n) Q (F0 m (pc + 3) ls (.ref a :: rest))) : W p l e R s m args below meth c H locs cells slots Q (F0 m pc ls (.int x :: rest)) := by
  subst hx
  have hcl : (nI n).toNatClampNeg = n := nI_clamp (by omega)
  refine W.anew hexec hb hown (ht _ w1) (va_AO.use hK.2.2.1) rfl hdg rfl (nI_pos (by omega)) (by rw [hcl]; omega) hf.1 (by rw [hcl]; exact hf.2) fun cA kA comp f1 f2 f3 f4 => ?_
  rw [hcl]
  generalize hH1 : H.push ({ cls := cA, slots := Array.replicate n .null, vm := .none } : Cell) = H1
  have z1 : H1.size = H.size + 1 := by rw [← hH1, Array.size_push]
  have e1 : H1[H.size]? = some (arrV cA n (fun _ => .null)) := by rw [← hH1, Array.getElem?_push_size, ← arrV_new]
  have o1 : ∀ q : Nat, q < H.size → H1[q]? = H[q]? := fun q hq => by rw [← hH1, Array.getElem?_push, if_neg (Nat.ne_of_lt hq)]
  obtain ⟨-, kA2, comp2, -, -, -, g4⟩ := hK.1.2 1 _ rfl
  have hcA : D.1.2.2 = cA := Option.some.inj (g4.symm.trans f1)
  subst hcA
  refine kk H1 H.size (hH.add hn z1 o1 (fun L' h => rfl) ?_) (hS.grow z1 o1)
  show H1[(hk_add G L H.size (.inr (.inr n)) (fun _ => .null)).1 L]? = _
  rw [show (hk_add G L H.size (.inr (.inr n)) (fun _ => .null)).1 L = H.size by simp [hk_add], e1]
  congr 2
  funext j
  simp [hk_add]
end HKMK
