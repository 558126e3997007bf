/-! how many bits a number has: Integer.bitCount -/
def pq_c (N : Nat) : Nat → Nat
  | 0 => 0
  | n + 1 => pq_c N n + (if N.testBit n then 1 else 0)
theorem pq_cc {N N' : Nat} : ∀ {n : Nat}, (∀ j, j < n → N.testBit j = N'.testBit j) → pq_c N n = pq_c N' n
  | 0, _ => rfl
  | n + 1, h => by
    show pq_c N n + (if N.testBit n then 1 else 0) = pq_c N' n + (if N'.testBit n then 1 else 0)
    rw [pq_cc (fun j hj => h j (by omega)), h n (by omega)]
theorem pq_tb (q : Nat) {r : Nat} (hr : r < 256) (j : Nat) : (256 * q + r).testBit j = if j < 8 then r.testBit j else q.testBit (j - 8) :=
  Nat.testBit_two_pow_mul_add q (show r < 2 ^ 8 from hr) j
theorem pq_and (q m : Nat) {r s : Nat} (hr : r < 256) (hs : s < 256) : (256 * q + r) &&& (256 * m + s) = 256 * (q &&& m) + (r &&& s) := by
  apply Nat.eq_of_testBit_eq
  intro i
  have hrs : r &&& s < 256 := Nat.lt_of_le_of_lt Nat.and_le_left hr
  rw [Nat.testBit_and, pq_tb q hr, pq_tb m hs, pq_tb (q &&& m) hrs]
  by_cases h : i < 8
  · rw [if_pos h, if_pos h, if_pos h, Nat.testBit_and]
  · rw [if_neg h, if_neg h, if_neg h, Nat.testBit_and]
theorem pq_split (q : Nat) {r : Nat} (hr : r < 256) : ∀ n, pq_c (256 * q + r) (n + 8) = pq_c r 8 + pq_c q n
  | 0 => by
    show pq_c (256 * q + r) 8 = pq_c r 8 + 0
    rw [Nat.add_zero]
    exact pq_cc (fun j hj => by rw [pq_tb q hr, if_pos hj])
  | n + 1 => by
    have e : n + 1 + 8 = (n + 8) + 1 := by omega
    rw [e]
    show pq_c (256 * q + r) (n + 8) + (if (256 * q + r).testBit (n + 8) then 1 else 0) = pq_c r 8 + (pq_c q n + (if q.testBit n then 1 else 0))
    rw [pq_split q hr n, pq_tb q hr, if_neg (show ¬ (n + 8 < 8) by omega), Nat.add_sub_cancel]
    omega
set_option maxRecDepth 100000 in
theorem pq_d1 : ∀ r, r < 256 → ((r / 2) &&& 85 ≤ r) ∧ ((128 + r / 2) &&& 85 = (r / 2) &&& 85) := by decide +kernel
theorem pq_s1 (q m : Nat) {r : Nat} (hr : r < 256) : (256 * q + r) - (((256 * q + r) / 2) &&& (256 * m + 85)) = 256 * (q - ((q / 2) &&& m)) + (r - ((r / 2) &&& 85)) := by
  have h1 := pq_d1 r hr
  have e : (256 * q + r) / 2 = 256 * (q / 2) + (128 * (q % 2) + r / 2) := by omega
  have l : 128 * (q % 2) + r / 2 < 256 := by omega
  have e2 : (128 * (q % 2) + r / 2) &&& 85 = (r / 2) &&& 85 := by
    rcases Nat.mod_two_eq_zero_or_one q with z | z
    · rw [z, Nat.mul_zero, Nat.zero_add]
    · rw [z, Nat.mul_one]; exact h1.2
  have h2 : (q / 2) &&& m ≤ q := Nat.le_trans Nat.and_le_left (Nat.div_le_self q 2)
  have h3 := h1.1
  rw [e, pq_and _ _ l (by decide), e2]
  generalize (q / 2) &&& m = x at *
  generalize (r / 2) &&& 85 = y at *
  omega
set_option maxRecDepth 100000 in
theorem pq_d2 : ∀ r, r < 256 → ∀ t, t < 4 → (64 * t + r / 4) &&& 51 = (r / 4) &&& 51 := by decide +kernel
theorem pq_s2 (q m : Nat) {r : Nat} (hr : r < 256) : ((256 * q + r) &&& (256 * m + 51)) + (((256 * q + r) / 4) &&& (256 * m + 51)) = 256 * ((q &&& m) + ((q / 4) &&& m)) + ((r &&& 51) + ((r / 4) &&& 51)) := by
  have e : (256 * q + r) / 4 = 256 * (q / 4) + (64 * (q % 4) + r / 4) := by omega
  have e1 := pq_and q m hr (show 51 < 256 by decide)
  have e2 := pq_and (q / 4) m (show 64 * (q % 4) + r / 4 < 256 by omega) (show 51 < 256 by decide)
  rw [e, e1, e2, pq_d2 r hr (q % 4) (by omega)]
  generalize (q / 4) &&& m = x
  generalize (r / 4) &&& 51 = y
  generalize q &&& m = z
  generalize r &&& 51 = w
  omega
theorem pq_m15 (x : Nat) : x &&& 15 = x % 16 := Nat.and_two_pow_sub_one_eq_mod x 4
theorem pq_m63 (x : Nat) : x &&& 63 = x % 64 := Nat.and_two_pow_sub_one_eq_mod x 6
theorem pq_s3 (q m : Nat) {r : Nat} (hr : r ≤ 68) (hq : q % 16 ≤ 4) : ((256 * q + r) + (256 * q + r) / 16) &&& (256 * m + 15) = 256 * ((q + q / 16) &&& m) + (r + r / 16) % 16 := by
  have e : (256 * q + r) + (256 * q + r) / 16 = 256 * (q + q / 16) + (r + r / 16 + 16 * (q % 16)) := by omega
  have e2 : (r + r / 16 + 16 * (q % 16)) &&& 15 = (r + r / 16) % 16 := by rw [pq_m15]; omega
  rw [e, pq_and _ _ (by omega) (by decide), e2]
def pq_b1 (r : Nat) : Nat := r - ((r / 2) &&& 85)
def pq_b2 (x : Nat) : Nat := (x &&& 51) + ((x / 4) &&& 51)
set_option maxRecDepth 100000 in
theorem pq_d3 : ∀ r, r < 256 → pq_b1 r < 256 ∧ pq_b2 (pq_b1 r) ≤ 68 ∧ pq_b2 (pq_b1 r) % 16 ≤ 4 ∧ (pq_b2 (pq_b1 r) + pq_b2 (pq_b1 r) / 16) % 16 = pq_c r 8 ∧ pq_c r 8 ≤ 8 := by decide +kernel
/-- the five steps, on numbers -/
theorem pq_f1 {r0 r1 r2 r3 : Nat} (h0 : r0 < 256) (h1 : r1 < 256) (h2 : r2 < 256) : (256 * (256 * (256 * r3 + r2) + r1) + r0) - (((256 * (256 * (256 * r3 + r2) + r1) + r0) / 2) &&& 1431655765) = 256 * (256 * (256 * pq_b1 r3 + pq_b1 r2) + pq_b1 r1) + pq_b1 r0 := by
  rw [show (1431655765 : Nat) = 256 * (256 * (256 * 85 + 85) + 85) + 85 from rfl, pq_s1 _ _ h0, pq_s1 _ _ h1, pq_s1 _ _ h2]
  rfl
theorem pq_f2 {r0 r1 r2 r3 : Nat} (h0 : r0 < 256) (h1 : r1 < 256) (h2 : r2 < 256) : ((256 * (256 * (256 * r3 + r2) + r1) + r0) &&& 858993459) + (((256 * (256 * (256 * r3 + r2) + r1) + r0) / 4) &&& 858993459) = 256 * (256 * (256 * pq_b2 r3 + pq_b2 r2) + pq_b2 r1) + pq_b2 r0 := by
  rw [show (858993459 : Nat) = 256 * (256 * (256 * 51 + 51) + 51) + 51 from rfl, pq_s2 _ _ h0, pq_s2 _ _ h1, pq_s2 _ _ h2]
  rfl
theorem pq_f3 {r0 r1 r2 r3 : Nat} (h0 : r0 ≤ 68) (h1 : r1 ≤ 68) (h2 : r2 ≤ 68) (m1 : r1 % 16 ≤ 4) (m2 : r2 % 16 ≤ 4) (m3 : r3 % 16 ≤ 4) : ((256 * (256 * (256 * r3 + r2) + r1) + r0) + (256 * (256 * (256 * r3 + r2) + r1) + r0) / 16) &&& 252645135 = 256 * (256 * (256 * ((r3 + r3 / 16) % 16) + (r2 + r2 / 16) % 16) + (r1 + r1 / 16) % 16) + (r0 + r0 / 16) % 16 := by
  rw [show (252645135 : Nat) = 256 * (256 * (256 * 15 + 15) + 15) + 15 from rfl, pq_s3 _ _ h0 (by omega), pq_s3 _ _ h1 (by omega), pq_s3 _ _ h2 (by omega), pq_m15]
def pq_1 (n : Int32) : Int32 := n - ((n.toUInt32 >>> ((1 : Int32).toUInt32 &&& Int32.toUInt32 31)).toInt32 &&& (1431655765 : Int32))
def pq_2 (n : Int32) : Int32 := (n &&& (858993459 : Int32)) + ((n.toUInt32 >>> ((2 : Int32).toUInt32 &&& Int32.toUInt32 31)).toInt32 &&& (858993459 : Int32))
def pq_3 (n : Int32) : Int32 := (n + (n.toUInt32 >>> ((4 : Int32).toUInt32 &&& Int32.toUInt32 31)).toInt32) &&& (252645135 : Int32)
def pq_4 (n : Int32) : Int32 := n + (n.toUInt32 >>> ((8 : Int32).toUInt32 &&& Int32.toUInt32 31)).toInt32
def pq_5 (n : Int32) : Int32 := (n + (n.toUInt32 >>> ((16 : Int32).toUInt32 &&& Int32.toUInt32 31)).toInt32) &&& (63 : Int32)
theorem pq_eq (n : Int32) : mo_pc n = pq_5 (pq_4 (pq_3 (pq_2 (pq_1 n)))) := rfl
theorem pq_sh (x : Int32) (k : Nat) (hk : k < 32) : ((x.toUInt32 >>> (UInt32.ofNat k)).toInt32).toBitVec.toNat = x.toBitVec.toNat / 2 ^ k := by
  show (x.toUInt32 >>> UInt32.ofNat k).toNat = _
  rw [UInt32.toNat_shiftRight, Nat.shiftRight_eq_div_pow]
  have e : (UInt32.ofNat k).toNat % 32 = k := by
    rw [UInt32.toNat_ofNat']
    omega
  rw [e]
  rfl
theorem pq_k1 : ((1 : Int32).toUInt32 &&& Int32.toUInt32 31) = UInt32.ofNat 1 := by decide
theorem pq_k2 : ((2 : Int32).toUInt32 &&& Int32.toUInt32 31) = UInt32.ofNat 2 := by decide
theorem pq_k4 : ((4 : Int32).toUInt32 &&& Int32.toUInt32 31) = UInt32.ofNat 4 := by decide
theorem pq_k8 : ((8 : Int32).toUInt32 &&& Int32.toUInt32 31) = UInt32.ofNat 8 := by decide
theorem pq_k16 : ((16 : Int32).toUInt32 &&& Int32.toUInt32 31) = UInt32.ofNat 16 := by decide
theorem pq_add (x y : Int32) (h : x.toBitVec.toNat + y.toBitVec.toNat < 2 ^ 32) : (x + y).toBitVec.toNat = x.toBitVec.toNat + y.toBitVec.toNat := by
  rw [Int32.toBitVec_add, BitVec.toNat_add, Nat.mod_eq_of_lt h]
theorem pq_an (x y : Int32) : (x &&& y).toBitVec.toNat = x.toBitVec.toNat &&& y.toBitVec.toNat := by
  rw [Int32.toBitVec_and, BitVec.toNat_and]
theorem pq_sub (x y : Int32) (h : y.toBitVec.toNat ≤ x.toBitVec.toNat) : (x - y).toBitVec.toNat = x.toBitVec.toNat - y.toBitVec.toNat := by
  rw [Int32.toBitVec_sub, BitVec.toNat_sub_of_le (BitVec.le_def.mpr h)]
theorem pq_i1 (n : Int32) : (pq_1 n).toBitVec.toNat = n.toBitVec.toNat - ((n.toBitVec.toNat / 2) &&& 1431655765) := by
  unfold pq_1
  have e : ((n.toUInt32 >>> ((1 : Int32).toUInt32 &&& Int32.toUInt32 31)).toInt32 &&& (1431655765 : Int32)).toBitVec.toNat = (n.toBitVec.toNat / 2) &&& 1431655765 := by
    rw [pq_an, pq_k1, pq_sh n 1 (by decide)]
    rfl
  rw [pq_sub _ _ (by rw [e]; exact Nat.le_trans Nat.and_le_left (Nat.div_le_self _ 2)), e]
theorem pq_i2 (n : Int32) : (pq_2 n).toBitVec.toNat = (n.toBitVec.toNat &&& 858993459) + ((n.toBitVec.toNat / 4) &&& 858993459) := by
  unfold pq_2
  have e : ((n.toUInt32 >>> ((2 : Int32).toUInt32 &&& Int32.toUInt32 31)).toInt32 &&& (858993459 : Int32)).toBitVec.toNat = (n.toBitVec.toNat / 4) &&& 858993459 := by
    rw [pq_an, pq_k2, pq_sh n 2 (by decide)]
    rfl
  have e2 : (n &&& (858993459 : Int32)).toBitVec.toNat = n.toBitVec.toNat &&& 858993459 := by rw [pq_an]; rfl
  have l1 : n.toBitVec.toNat &&& 858993459 ≤ 858993459 := Nat.and_le_right
  have l2 : (n.toBitVec.toNat / 4) &&& 858993459 ≤ 858993459 := Nat.and_le_right
  rw [pq_add _ _ (by rw [e, e2]; omega), e, e2]
theorem pq_i3 (n : Int32) (h : n.toBitVec.toNat + n.toBitVec.toNat / 16 < 2 ^ 32) : (pq_3 n).toBitVec.toNat = (n.toBitVec.toNat + n.toBitVec.toNat / 16) &&& 252645135 := by
  unfold pq_3
  have e := pq_sh n 4 (by decide)
  rw [pq_an, pq_k4, pq_add _ _ (by rw [e]; exact h), e]
  rfl
theorem pq_i4 (n : Int32) (h : n.toBitVec.toNat + n.toBitVec.toNat / 256 < 2 ^ 32) : (pq_4 n).toBitVec.toNat = n.toBitVec.toNat + n.toBitVec.toNat / 256 := by
  unfold pq_4
  have e := pq_sh n 8 (by decide)
  rw [pq_k8, pq_add _ _ (by rw [e]; exact h), e]
theorem pq_i5 (n : Int32) (h : n.toBitVec.toNat + n.toBitVec.toNat / 65536 < 2 ^ 32) : (pq_5 n).toBitVec.toNat = (n.toBitVec.toNat + n.toBitVec.toNat / 65536) % 64 := by
  unfold pq_5
  have e := pq_sh n 16 (by decide)
  rw [pq_an, pq_k16, pq_add _ _ (by rw [e]; exact h), e]
  exact pq_m63 _
theorem pq_nI {k : Nat} (h : k < 2 ^ 32) : (nI k).toBitVec.toNat = k := by
  show (BitVec.ofNat 32 k).toNat = k
  rw [BitVec.toNat_ofNat, Nat.mod_eq_of_lt h]
theorem pq_le (N : Nat) : ∀ n, pq_c N n ≤ n
  | 0 => Nat.le_refl _
  | n + 1 => by
    have h := pq_le N n
    show pq_c N n + (if N.testBit n then 1 else 0) ≤ n + 1
    split <;> omega
theorem pq_main (x : Int32) : mo_pc x = nI (pq_c x.toBitVec.toNat 32) := by
  have hN : x.toBitVec.toNat < 2 ^ 32 := x.toBitVec.isLt
  have key : (mo_pc x).toBitVec.toNat = pq_c x.toBitVec.toNat 32 := by
    rw [pq_eq]
    have e1 := pq_i1 x
    generalize pq_1 x = x1 at *
    generalize x.toBitVec.toNat = N at *
    obtain ⟨r0, r1, r2, r3, h0, h1, h2, h3, rfl⟩ : ∃ r0 r1 r2 r3 : Nat, r0 < 256 ∧ r1 < 256 ∧ r2 < 256 ∧ r3 < 256 ∧ N = 256 * (256 * (256 * r3 + r2) + r1) + r0 :=
      ⟨N % 256, N / 256 % 256, N / 65536 % 256, N / 16777216, by omega, by omega, by omega, by omega, by omega⟩
    obtain ⟨a0, b0, c0, d0, f0⟩ := pq_d3 r0 h0
    obtain ⟨a1, b1, c1, d1, f1⟩ := pq_d3 r1 h1
    obtain ⟨a2, b2, c2, d2, f2⟩ := pq_d3 r2 h2
    obtain ⟨a3, b3, c3, d3, f3⟩ := pq_d3 r3 h3
    have ec : pq_c (256 * (256 * (256 * r3 + r2) + r1) + r0) 32 = pq_c r0 8 + (pq_c r1 8 + (pq_c r2 8 + pq_c r3 8)) := by
      rw [pq_split _ h0 24, pq_split _ h1 16, pq_split _ h2 8]
    rw [ec]
    rw [pq_f1 h0 h1 h2] at e1
    have e2 := pq_i2 x1
    rw [e1, pq_f2 a0 a1 a2] at e2
    generalize pq_2 x1 = x2 at *
    have e3 := pq_i3 x2 (by rw [e2]; omega)
    rw [e2, pq_f3 b0 b1 b2 c1 c2 c3, d0, d1, d2, d3] at e3
    generalize pq_3 x2 = x3 at *
    generalize pq_c r0 8 = g0 at *
    generalize pq_c r1 8 = g1 at *
    generalize pq_c r2 8 = g2 at *
    generalize pq_c r3 8 = g3 at *
    have e4 := pq_i4 x3 (by rw [e3]; omega)
    rw [e3] at e4
    generalize pq_4 x3 = x4 at *
    have e5 := pq_i5 x4 (by rw [e4]; omega)
    rw [e5, e4]
    clear d0 d1 d2 d3 e1 e2 e3 e4 e5 ec a0 a1 a2 a3 b0 b1 b2 b3 c0 c1 c2 c3 h0 h1 h2 h3 hN
    have u1 : (256 * (256 * (256 * g3 + g2) + g1) + g0) / 256 = 256 * (256 * g3 + g2) + g1 := by omega
    rw [u1]
    have u2 : (256 * (256 * (256 * g3 + g2) + g1) + g0 + (256 * (256 * g3 + g2) + g1)) / 65536 = 256 * g3 + (g2 + g3) := by omega
    rw [u2]
    omega
  apply Int32.toBitVec_inj.mp
  apply BitVec.eq_of_toNat_eq
  rw [key, pq_nI (by have := pq_le x.toBitVec.toNat 32; omega)]
/-! bits of an int -/
def ib (x : Int32) (j : Nat) : Prop := x.toBitVec.toNat.testBit j = true
theorem ib_bt (x : Int32) {j : Nat} (hj : j < 32) : mo_bt x.toInt64 (nI j) ↔ ib x j := bt_i x hj
theorem ib_top (x : Int32) {j : Nat} (hj : 32 ≤ j) : ¬ ib x j := by
  unfold ib
  rw [Nat.testBit_lt_two_pow (Nat.lt_of_lt_of_le x.toBitVec.isLt (Nat.pow_le_pow_right (by decide) hj))]
  decide
theorem ib_or (x y : Int32) (j : Nat) : ib (x ||| y) j ↔ ib x j ∨ ib y j := by
  unfold ib
  rw [Int32.toBitVec_or, BitVec.toNat_or, Nat.testBit_or]
  simp
theorem ib_and (x y : Int32) (j : Nat) : ib (x &&& y) j ↔ ib x j ∧ ib y j := by
  unfold ib
  rw [pq_an, Nat.testBit_and]
  simp
theorem ib_not (x y : Int32) (j : Nat) : ib (x &&& (y ^^^ (-1 : Int32))) j ↔ ib x j ∧ ¬ ib y j := by
  by_cases hj : j < 32
  · rw [ib_and]
    refine and_congr_right (fun _ => ?_)
    show (y ^^^ (-1 : Int32)).toBitVec.getLsbD j = true ↔ ¬ y.toBitVec.getLsbD j = true
    rw [Int32.toBitVec_xor, BitVec.getLsbD_xor]
    have e : (-1 : Int32).toBitVec.getLsbD j = true := by
      rw [show (-1 : Int32).toBitVec = BitVec.allOnes 32 from by decide, BitVec.getLsbD_allOnes]
      simp [hj]
    rw [e]
    cases y.toBitVec.getLsbD j <;> decide
  · exact ⟨fun q => absurd q (ib_top _ (by omega)), fun q => absurd q.1 (ib_top _ (by omega))⟩
theorem ib_ext {x y : Int32} (h : ∀ j, j < 32 → (ib x j ↔ ib y j)) : x = y := by
  apply Int32.toBitVec_inj.mp
  apply BitVec.eq_of_getLsbD_eq
  intro i hi
  have := h i hi
  unfold ib at this
  show x.toBitVec.toNat.testBit i = y.toBitVec.toNat.testBit i
  cases hx : x.toBitVec.toNat.testBit i <;> cases hy : y.toBitVec.toNat.testBit i <;> simp_all
theorem ib_0 (j : Nat) : ¬ ib 0 j := by
  unfold ib
  rw [show (0 : Int32).toBitVec.toNat = 0 from rfl, Nat.zero_testBit]
  decide
theorem ib_zero (x : Int32) : x = 0 ↔ ∀ j, j < 32 → ¬ ib x j := by
  constructor
  · rintro rfl j _; exact ib_0 j
  · intro h
    exact ib_ext (fun j hj => ⟨fun q => absurd q (h j hj), fun q => absurd q (ib_0 j)⟩)
set_option maxRecDepth 100000 in
theorem ib_sh1 : ∀ i : Nat, i < 31 → ((1 : Int32) <<< (nI i &&& 31)).toBitVec.toNat = 2 ^ i := by decide
theorem ib_bit {i : Nat} (hi : i < 31) (j : Nat) : ib ((1 : Int32) <<< (nI i &&& 31)) j ↔ i = j := by
  unfold ib
  rw [ib_sh1 i hi, Nat.testBit_two_pow]
  simp
theorem ib_low (x : Int32) {j : Nat} (hj : j < 32) : ib (x &&& -x) j ↔ ib x j ∧ ∀ i, i < j → ¬ ib x i := by
  rw [ib_and]
  refine and_congr_right (fun hx => ?_)
  show (-x).toBitVec.getLsbD j = true ↔ _
  rw [Int32.toBitVec_neg, BitVec.getLsbD_neg]
  have hx2 : x.toBitVec.getLsbD j = true := hx
  rw [hx2]
  constructor
  · intro q i hi z
    have : decide (∃ k, k < j ∧ x.toBitVec.getLsbD k = true) = true := decide_eq_true ⟨i, hi, z⟩
    simp [hj] at q
    exact absurd (show x.toBitVec.getLsbD i = true from z) (by rw [q i hi]; decide)
  · intro q
    have : ¬ ∃ k, k < j ∧ x.toBitVec.getLsbD k = true := fun ⟨k, hk, z⟩ => q k hk z
    simp [hj]
    intro k hk
    cases z : x.toBitVec.getLsbD k with
    | false => rfl
    | true => exact absurd ⟨k, hk, z⟩ this
