set_option maxRecDepth 100000 in
theorem bt_sh : ∀ j : Nat, j < 64 → (nI j).toInt64.toUInt64 &&& Int64.toUInt64 63 = UInt64.ofNat j := by decide
theorem bt_one (x : Int64) : x &&& 1 = 0 ↔ x.toBitVec.getLsbD 0 = false := by
  rw [← Int64.toBitVec_inj]
  constructor
  · intro h
    have h2 := congrArg (fun v => v.getLsbD 0) h
    simpa using h2
  · intro h
    apply BitVec.eq_of_getLsbD_eq
    intro i hi
    by_cases e : i = 0
    · subst e; simp at h; simp [h]
    · simp [BitVec.getLsbD_one, e]
theorem bt_iff (s : Int64) {j : Nat} (hj : j < 64) : mo_bt s (nI j) ↔ s.toBitVec.getLsbD j = true := by
  unfold mo_bt
  rw [bt_sh j hj, bt_one]
  have e : (s.toUInt64 >>> UInt64.ofNat j).toInt64.toBitVec.getLsbD 0 = s.toBitVec.getLsbD j := by
    simp [UInt64.toBitVec_shiftRight, BitVec.getLsbD_ushiftRight, Nat.mod_eq_of_lt hj]
  rw [e]
  simp
theorem bt_or (a b : Int64) {j : Nat} (hj : j < 64) : mo_bt (a ||| b) (nI j) ↔ mo_bt a (nI j) ∨ mo_bt b (nI j) := by
  rw [bt_iff _ hj, bt_iff _ hj, bt_iff _ hj]; simp
theorem bt_and (a b : Int64) {j : Nat} (hj : j < 64) : mo_bt (a &&& b) (nI j) ↔ mo_bt a (nI j) ∧ mo_bt b (nI j) := by
  rw [bt_iff _ hj, bt_iff _ hj, bt_iff _ hj]; simp
theorem bt_not (a b : Int64) {j : Nat} (hj : j < 64) : mo_bt (a &&& (b ^^^ (-1 : Int64))) (nI j) ↔ mo_bt a (nI j) ∧ ¬ mo_bt b (nI j) := by
  rw [bt_and _ _ hj, bt_iff _ hj, bt_iff _ hj, bt_iff _ hj]
  simp [hj]
theorem bt_zero (a : Int64) : a = 0 ↔ ∀ j, j < 64 → ¬ mo_bt a (nI j) := by
  constructor
  · rintro rfl j hj
    rw [bt_iff _ hj]; simp
  · intro h
    apply Int64.toBitVec_inj.mp
    apply BitVec.eq_of_getLsbD_eq
    intro i hi
    have := h i hi
    rw [bt_iff _ hi] at this
    simpa using this
theorem bt_0 {j : Nat} (hj : j < 64) : ¬ mo_bt 0 (nI j) := (bt_zero 0).mp rfl j hj
set_option maxRecDepth 100000 in
theorem bt_shl1 : ∀ i : Nat, i < 64 → ((1 : Int64) <<< ((nI i).toInt64 &&& 63)).toBitVec = BitVec.twoPow 64 i := by decide
theorem bt_bit {i j : Nat} (hi : i < 64) (hj : j < 64) : mo_bt ((1 : Int64) <<< ((nI i).toInt64 &&& 63)) (nI j) ↔ i = j := by
  rw [bt_iff _ hj, bt_shl1 i hi, BitVec.getLsbD_twoPow]
  simp [hi]
/-! sets of parts: ints -/
theorem bt_i (x : Int32) {j : Nat} (hj : j < 32) : mo_bt x.toInt64 (nI j) ↔ x.toBitVec.getLsbD j = true := by
  rw [bt_iff _ (by omega)]
  have e : x.toInt64.toBitVec = x.toBitVec.signExtend 64 := rfl
  rw [e, BitVec.getLsbD_signExtend]
  simp [hj]
  omega
theorem bt_ior (x y : Int32) {j : Nat} (hj : j < 64) : mo_bt (x ||| y).toInt64 (nI j) ↔ mo_bt x.toInt64 (nI j) ∨ mo_bt y.toInt64 (nI j) := by
  rw [bt_iff _ hj, bt_iff _ hj, bt_iff _ hj]
  have e : ∀ z : Int32, z.toInt64.toBitVec = z.toBitVec.signExtend 64 := fun z => rfl
  rw [e, e, e, BitVec.getLsbD_signExtend, BitVec.getLsbD_signExtend, BitVec.getLsbD_signExtend]
  by_cases h : j < 32
  · simp [h, hj]
  · simp [h, hj, BitVec.msb_or]
set_option maxRecDepth 100000 in
theorem bt_shl1i : ∀ i : Nat, i < 30 → ((1 : Int32) <<< (nI i &&& 31)).toInt64.toBitVec = BitVec.twoPow 64 i := by decide
theorem bt_ibit {i j : Nat} (hi : i < 30) (hj : j < 64) : mo_bt ((1 : Int32) <<< (nI i &&& 31)).toInt64 (nI j) ↔ i = j := by
  rw [bt_iff _ hj, bt_shl1i i hi, BitVec.getLsbD_twoPow]
  simp; omega
