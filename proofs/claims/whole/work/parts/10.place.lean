theorem hk_sgn (x : Int32) : (0 ≤ x ^^^ 25) ↔ 0 ≤ x.toInt := by
  rw [Int32.le_iff_toInt_le]
  have h1 : (x ^^^ 25).toBitVec.msb = x.toBitVec.msb := by
    show (x.toBitVec ^^^ (25 : Int32).toBitVec).msb = _
    rw [BitVec.msb_xor, show (25 : Int32).toBitVec.msb = false from by decide]
    simp
  have h2 : (x ^^^ 25).toBitVec.msb = decide ((x ^^^ 25).toInt < 0) := BitVec.msb_eq_toInt
  have h3 : x.toBitVec.msb = decide (x.toInt < 0) := BitVec.msb_eq_toInt
  have h4 : decide ((x ^^^ 25).toInt < 0) = decide (x.toInt < 0) := by rw [← h2, ← h3, h1]
  have h5 : ((x ^^^ 25).toInt < 0) ↔ (x.toInt < 0) := by simpa using h4
  have h6 : (0 : Int32).toInt = 0 := by decide
  rw [h6]
  omega
theorem hk_rng (x : Int32) : -2147483648 ≤ x.toInt ∧ x.toInt < 2147483648 := ⟨Int32.le_toInt x, Int32.toInt_lt x⟩
theorem hk_bmod {z : Int} (h1 : -2147483648 ≤ z) (h2 : z < 2147483648) : z.bmod (2 ^ 32) = z := by
  rw [Int.bmod_eq_of_le] <;> omega
theorem hk_addI {x y : Int32} (h1 : -2147483648 ≤ x.toInt + y.toInt) (h2 : x.toInt + y.toInt < 2147483648) : (x + y).toInt = x.toInt + y.toInt := by
  rw [Int32.toInt_add]; exact hk_bmod h1 h2
theorem hk_subI {x y : Int32} (h1 : -2147483648 ≤ x.toInt - y.toInt) (h2 : x.toInt - y.toInt < 2147483648) : (x - y).toInt = x.toInt - y.toInt := by
  rw [Int32.toInt_sub]; exact hk_bmod h1 h2
theorem hk_mulI {x y : Int32} (h1 : -2147483648 ≤ x.toInt * y.toInt) (h2 : x.toInt * y.toInt < 2147483648) : (x * y).toInt = x.toInt * y.toInt := by
  rw [Int32.toInt_mul]; exact hk_bmod h1 h2
theorem hk_eqI {x : Int32} {n : Nat} (h : x.toInt = (n : Int)) : x = nI n := by
  have h2 := hk_rng x
  exact Int32.toInt_inj.mp (by rw [nI_toInt (by omega)]; exact h)
theorem hk_fm (x : Int32) : (F_floorMod x 25).toInt = x.toInt % 25 := by
  have e25 : (25 : Int32).toInt = 25 := by decide
  have hr : (x - x / 25 * 25).toInt = x.toInt.tmod 25 := by rw [rem_toInt, e25]
  unfold F_floorMod
  by_cases h : 0 ≤ x ^^^ 25
  · rw [if_pos h, hr]
    exact Int.tmod_eq_emod_of_nonneg ((hk_sgn x).mp h)
  · rw [if_neg h]
    have hneg : x.toInt < 0 := by
      have := mt (hk_sgn x).mpr h
      omega
    have hb := tmod_bounds (a := x.toInt) (M := 25) (by decide)
    have ht : x.toInt.tmod 25 = -((-x.toInt) % 25) := by
      have h1 : x.toInt = -(-x.toInt) := by omega
      rw [h1, Int.neg_tmod, Int.tmod_eq_emod_of_nonneg (by omega)]
      omega
    by_cases h0 : (x - x / 25 * 25) = 0
    · rw [if_pos h0, hr, ht]
      have : (x - x / 25 * 25).toInt = 0 := by rw [h0]; decide
      rw [hr, ht] at this
      omega
    · rw [if_neg h0]
      have hz : (x - x / 25 * 25).toInt ≠ 0 := fun q => h0 (Int32.toInt_inj.mp (by rw [q]; decide))
      rw [hk_addI (by rw [hr, e25]; omega) (by rw [hr, e25]; omega), hr, e25]
      rw [hr] at hz
      rw [ht] at hz ⊢
      omega
/-- the ring's place of an hour -/
def hk_rg (h : Int32) : Nat := (h.toInt % 25).toNat
theorem hk_rg_lt (h : Int32) : hk_rg h < 25 := by unfold hk_rg; omega
theorem hk_fm_n (h : Int32) : F_floorMod h 25 = nI (hk_rg h) := hk_eqI (by rw [hk_fm]; unfold hk_rg; omega)
theorem hk_place_n (h : Int32) (k : Nat) : F_place h (nI k) = nI (hk_rg h * 6 + k) := by
  unfold F_place
  rw [hk_fm_n, show (6 : Int32) = nI 6 from rfl, pk_mul, nI_add]
theorem hk_place_j (h : Int32) {k : Nat} (hk : k < 6) : vp_in (F_place h (nI k)) 150 := by
  have := hk_rg_lt h
  rw [hk_place_n]
  exact vp_in_nI (by omega) (by omega)
theorem hk_place_in {h g : Int32} (hg : ¬ hk_in g 0 5 = 0) : vp_in (F_place h g) 150 := by
  obtain ⟨h1, h2⟩ := hk_in_ix (n := 5) rfl (by decide) hg
  rw [h2]
  exact hk_place_j h (by omega)
