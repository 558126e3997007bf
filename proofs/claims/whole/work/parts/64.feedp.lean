/-! feed and calls on both sides -/
set_option maxRecDepth 100000 in
theorem ib_sm : ∀ s : Nat, s < 32 → ((nI s &&& 31).toBitVec.smod 32).toNat = s := by decide
theorem ib_shr (x : Int32) {s i : Nat} (hs : s < 32) (h : s + i < 32) : ib (x >>> (nI s &&& 31)) i ↔ ib x (s + i) := by
  show (x.toBitVec.sshiftRight' ((nI s &&& 31).toBitVec.smod 32)).getLsbD i = true ↔ x.toBitVec.getLsbD (s + i) = true
  rw [BitVec.getLsbD_sshiftRight', ib_sm s hs, if_pos h]
  have e : decide (32 ≤ i) = false := decide_eq_false (by omega)
  rw [e]
  simp
theorem ib_one (x : Int32) : (x &&& 1 = 0 ↔ ¬ ib x 0) ∧ (x &&& 1 = 1 ↔ ib x 0) := by
  have b1 : ∀ j, ib (1 : Int32) j ↔ 0 = j := fun j => ib_bit (i := 0) (by decide) j
  constructor
  · rw [ib_zero]
    constructor
    · intro h q
      exact h 0 (by decide) ((ib_and _ _ _).mpr ⟨q, (b1 0).mpr rfl⟩)
    · intro h j _ q
      have q := (ib_and _ _ _).mp q
      have e := (b1 j).mp q.2
      subst e
      exact h q.1
  · constructor
    · intro h
      have q : ib (x &&& 1) 0 := by rw [h]; exact (b1 0).mpr rfl
      exact ((ib_and _ _ _).mp q).1
    · intro h
      apply ib_ext
      intro j _
      rw [ib_and, b1]
      exact ⟨fun q => q.2, fun q => ⟨by rw [← q]; exact h, q⟩⟩
theorem ib_at (x : Int32) {s : Nat} (hs : s < 32) : (x >>> (nI s &&& 31) &&& 1 = 0 ↔ ¬ ib x s) ∧ (x >>> (nI s &&& 31) &&& 1 = 1 ↔ ib x s) := by
  have h := ib_shr x (i := 0) hs (by omega)
  rw [Nat.add_zero] at h
  have q := ib_one (x >>> (nI s &&& 31))
  rw [h] at q
  exact q
/-! feed -/
set_option maxRecDepth 100000 in
theorem fe_k : ∀ s : Nat, s < 32 → (nI s).toUInt32 &&& Int32.toUInt32 31 = UInt32.ofNat s := by decide
def fe_v (a : Int32) (s : Nat) : Int32 := (a.toUInt32 >>> ((nI s).toUInt32 &&& Int32.toUInt32 31)).toInt32 &&& (255 : Int32)
theorem fe_byte (x : Int32) {s : Nat} (hs : s ≤ 24) : ∃ b, b < 256 ∧ fe_v x s = nI b ∧ vp_nar .byte ((x >>> (nI s &&& 31)).toInt8.toInt32) = (nI b).toInt8.toInt32 := by
  have e1 : (fe_v x s).toBitVec.toNat = x.toBitVec.toNat / 2 ^ s % 256 := by
    unfold fe_v
    rw [pq_an, fe_k s (by omega), pq_sh x s (by omega)]
    exact Nat.and_two_pow_sub_one_eq_mod _ 8
  have hb : x.toBitVec.toNat / 2 ^ s % 256 < 256 := Nat.mod_lt _ (by decide)
  refine ⟨x.toBitVec.toNat / 2 ^ s % 256, hb, ?_, ?_⟩
  · apply Int32.toBitVec_inj.mp
    apply BitVec.eq_of_toNat_eq
    rw [e1, pq_nI (by omega)]
  · rw [vp_nar_byte, Int8.toInt8_toInt32]
    refine congrArg Int8.toInt32 ?_
    apply Int8.toBitVec_inj.mp
    show (x >>> (nI s &&& 31)).toBitVec.signExtend 8 = (nI (x.toBitVec.toNat / 2 ^ s % 256)).toBitVec.signExtend 8
    apply BitVec.eq_of_getLsbD_eq
    intro i hi
    rw [BitVec.getLsbD_signExtend, BitVec.getLsbD_signExtend, if_pos (show i < 32 by omega), if_pos (show i < 32 by omega)]
    refine congrArg (fun z => decide (i < 8) && z) ?_
    have q := ib_shr x (s := s) (i := i) (by omega) (by omega)
    have q2 : ib (nI (x.toBitVec.toNat / 2 ^ s % 256)) i ↔ ib x (s + i) := by
      unfold ib
      rw [pq_nI (by omega), show (256 : Nat) = 2 ^ 8 from rfl, Nat.testBit_mod_two_pow, Nat.testBit_div_two_pow, Nat.add_comm i s]
      simp [hi]
    have q3 := q.trans q2.symm
    unfold ib at q3
    show (x >>> (nI s &&& 31)).toBitVec.toNat.testBit i = (nI (x.toBitVec.toNat / 2 ^ s % 256)).toBitVec.toNat.testBit i
    exact Bool.eq_iff_iff.mpr q3
theorem fe_t1 {σ : mo_M} {a sh : Int32} {m : Nat} (h : σ.1 30 0 1 = nI m) (hm : m < 1000) (i : Nat) : (mo_t1 σ a sh).1 31 0 i = if i = m then ((a.toUInt32 >>> (sh.toUInt32 &&& Int32.toUInt32 31)).toInt32 &&& (255 : Int32)) else σ.1 31 0 i := by
  show mo_up 31 (σ.1 31 0) (σ.1 30 0 1).toNatClampNeg ((a.toUInt32 >>> (sh.toUInt32 &&& Int32.toUInt32 31)).toInt32 &&& (255 : Int32)) i = _
  rw [mo_upE, h, mo_cl (by omega)]
  by_cases e : i = m
  · rw [if_pos e, e, mo_ueq]
  · rw [if_neg e, mo_une _ _ e]
theorem fe_t4 {σ : mo_M} {m : Nat} (a : Int32) (h : σ.1 30 0 1 = nI m) (hm : m < 900) : (mo_t4 σ a).1 30 0 1 = nI (m + 4) ∧ (∀ i, i < m → (mo_t4 σ a).1 31 0 i = σ.1 31 0 i) ∧ ∀ j, j < 4 → (mo_t4 σ a).1 31 0 (m + j) = fe_v a (24 - 8 * j) := by
  have h1 := mo_t1_n σ a 24 h
  have h2 := mo_t1_n _ a 16 h1
  have h3 := mo_t1_n _ a 8 h2
  have h4 := mo_t1_n _ a 0 h3
  unfold mo_t4
  refine ⟨h4, fun i hi => ?_, fun j hj => ?_⟩
  · rw [fe_t1 h3 (by omega), if_neg (by omega), fe_t1 h2 (by omega), if_neg (by omega), fe_t1 h1 (by omega), if_neg (by omega), fe_t1 h (by omega), if_neg (by omega)]
  · rcases (by omega : j = 0 ∨ j = 1 ∨ j = 2 ∨ j = 3) with rfl | rfl | rfl | rfl
    · rw [fe_t1 h3 (by omega), if_neg (by omega), fe_t1 h2 (by omega), if_neg (by omega), fe_t1 h1 (by omega), if_neg (by omega), fe_t1 h (by omega), if_pos (by omega)]; rfl
    · rw [fe_t1 h3 (by omega), if_neg (by omega), fe_t1 h2 (by omega), if_neg (by omega), fe_t1 h1 (by omega), if_pos (by omega)]; rfl
    · rw [fe_t1 h3 (by omega), if_neg (by omega), fe_t1 h2 (by omega), if_pos (by omega)]; rfl
    · rw [fe_t1 h3 (by omega), if_pos (by omega)]; rfl
theorem fe_fold {x : Int32} {T : Nat} {g : Nat → Int32} {r : Nat → Int32} (hx : x = nI T) (hT : T < 1000) : ∀ n, n ≤ 20 → ∀ i, mo_fo (fun k r => upd r (x + nI k).toNatClampNeg (g k)) r n i = if T ≤ i ∧ i < T + n then g (i - T) else r i
  | 0, _, i => by rw [if_neg (by omega)]; rfl
  | n + 1, hn, i => by
    have ih := fe_fold (g := g) (r := r) hx hT n (by omega) i
    show upd (mo_fo (fun k r => upd r (x + nI k).toNatClampNeg (g k)) r n) (x + nI n).toNatClampNeg (g n) i = _
    have e : (x + nI n).toNatClampNeg = T + n := by rw [hx, nI_add]; exact mo_cl (by omega)
    rw [e]
    by_cases c : i = T + n
    · rw [c, mo_ueq, if_pos (by omega), Nat.add_sub_cancel_left]
    · rw [mo_une _ _ c, ih]
      by_cases c2 : T ≤ i ∧ i < T + n
      · rw [if_pos c2, if_pos (by omega)]
      · rw [if_neg c2, if_neg (by omega)]
set_option maxRecDepth 100000 in
theorem fe_ix : ∀ k : Nat, k < 20 → (nI k / (4 : Int32)).toNatClampNeg = k / 4 ∧ (((24 : Int32) - ((8 : Int32) * (nI k - nI k / (4 : Int32) * (4 : Int32)))) &&& 31) = (nI (24 - 8 * (k % 4)) &&& 31) := by decide
def fe_5 (σ : mo_M) (a b c d f : Int32) (j : Nat) : Int32 := (mo_wI (mo_wI (mo_wI (mo_wI (mo_wI σ 79 0 0 a) 79 0 1 b) 79 0 2 c) 79 0 3 d) 79 0 4 f).1 79 0 j
set_option maxRecDepth 20000 in
theorem iv_feed (a b c d f : Int32) : iv_op S_X11_feed S_X12_feed [.inr (.inr (0, 0)), .inl a, .inl b, .inl c, .inl d, .inl f] [.inr (.inr (50, 0)), .inl a, .inl b, .inl c, .inl d, .inl f] := by
  intro σ h
  obtain ⟨P, M, L, H, J, U, T, W, h1, h2, h3, h4, h5, h6, ⟨t1, t2, t3, t4⟩, h8, h9⟩ := id h
  have hx : σ.1 30 0 1 + (20 : Int32) = nI (T + 20) := by rw [t1, show (20 : Int32) = nI 20 from rfl, nI_add]
  have hy : σ.1 50 0 30 + (20 : Int32) = nI (T + 20) := by rw [t2, show (20 : Int32) = nI 20 from rfl, nI_add]
  have hc : (σ.1 30 0 1 + (20 : Int32) ≤ (200 : Int32)) ↔ T + 20 ≤ 200 := by rw [hx, show (200 : Int32) = nI 200 from rfl, nI_leI (by omega) (by omega)]
  have hd : ((200 : Int32) < σ.1 50 0 30 + (20 : Int32)) ↔ ¬ T + 20 ≤ 200 := by rw [hy, show (200 : Int32) = nI 200 from rfl, nI_ltI (by omega) (by omega)]; omega
  have hle : mo_le (σ.1 50 0 30) 200 := iv_le t2 t3 (by omega)
  refine ⟨a, b, c, d, f, rfl, fun q => ?_, fun q => ⟨a, b, c, d, f, rfl, hle, ?_, ?_⟩⟩
  · have hT := hc.mp q
    have k1 := fe_t4 a t1 (by omega)
    have k2 := fe_t4 b k1.1 (by omega)
    have k3 := fe_t4 c k2.1 (by omega)
    have k4 := fe_t4 d k3.1 (by omega)
    have k5 := fe_t4 f k4.1 (by omega)
    refine ⟨iv_le t1 (by omega) (by omega), iv_le k1.1 (by omega) (by omega), iv_le k2.1 (by omega) (by omega), iv_le k3.1 (by omega) (by omega), iv_le k4.1 (by omega) (by omega), a, b, c, d, f, rfl, hle, ?_, ?_⟩
    · have hd2 : ¬ (200 : Int32) < (mo_t4 (mo_t4 (mo_t4 (mo_t4 (mo_t4 σ a) b) c) d) f).1 50 0 30 + (20 : Int32) := fun z => hd.mp z hT
      rw [mo_ite_f hd2, k5.1]
      refine congrArg (fun x => some (Sum.inl x : mo_V)) ?_
      exact hy.symm
    · have hd2 : ¬ (200 : Int32) < (mo_t4 (mo_t4 (mo_t4 (mo_t4 (mo_t4 σ a) b) c) d) f).1 50 0 30 + (20 : Int32) := fun z => hd.mp z hT
      rw [mo_ite_f hd2]
      refine ⟨P, M, L, H, J, U, T + 20, W, h1, h2, h3, h4, h5, h6, ⟨k5.1, hy, by omega, fun i hi => ?_⟩, h8, h9⟩
      show ∃ v, v < 256 ∧ (mo_t4 (mo_t4 (mo_t4 (mo_t4 (mo_t4 σ a) b) c) d) f).1 31 0 i = nI v ∧ mo_fo (fun k r => upd r (σ.1 50 0 30 + nI k).toNatClampNeg (vp_nar .byte ((fe_5 (mo_t4 (mo_t4 (mo_t4 (mo_t4 (mo_t4 σ a) b) c) d) f) a b c d f (nI k / (4 : Int32)).toNatClampNeg) >>> (((24 : Int32) - ((8 : Int32) * (nI k - nI k / (4 : Int32) * (4 : Int32)))) &&& 31)).toInt8.toInt32)) (σ.1 72 0) 20 i = (nI v).toInt8.toInt32
      rw [fe_fold t2 (by omega) 20 (by omega) i]
      by_cases c0 : T ≤ i ∧ i < T + 20
      · rw [if_pos c0]
        obtain ⟨x1, x2⟩ := fe_ix (i - T) (by omega)
        rw [x1, x2]
        have hi2 : i = T + 4 * ((i - T) / 4) + (i - T) % 4 := by omega
        have hr : (i - T) % 4 < 4 := by omega
        have hs : 24 - 8 * ((i - T) % 4) ≤ 24 := by omega
        have hj : (i - T) / 4 < 5 := by omega
        generalize (i - T) / 4 = j at *
        generalize (i - T) % 4 = r at *
        subst hi2
        rcases (by omega : j = 0 ∨ j = 1 ∨ j = 2 ∨ j = 3 ∨ j = 4) with rfl | rfl | rfl | rfl | rfl
        · rw [k5.2.1 _ (by omega), k4.2.1 _ (by omega), k3.2.1 _ (by omega), k2.2.1 _ (by omega), show T + 4 * 0 + r = T + r from by omega, k1.2.2 r hr]
          exact fe_byte a hs
        · rw [k5.2.1 _ (by omega), k4.2.1 _ (by omega), k3.2.1 _ (by omega), show T + 4 * 1 + r = T + 4 + r from by omega, k2.2.2 r hr]
          exact fe_byte b hs
        · rw [k5.2.1 _ (by omega), k4.2.1 _ (by omega), show T + 4 * 2 + r = T + 4 + 4 + r from by omega, k3.2.2 r hr]
          exact fe_byte c hs
        · rw [k5.2.1 _ (by omega), show T + 4 * 3 + r = T + 4 + 4 + 4 + r from by omega, k4.2.2 r hr]
          exact fe_byte d hs
        · rw [show T + 4 * 4 + r = T + 4 + 4 + 4 + 4 + r from by omega, k5.2.2 r hr]
          exact fe_byte f hs
      · rw [if_neg c0, k5.2.1 i (by omega), k4.2.1 i (by omega), k3.2.1 i (by omega), k2.2.1 i (by omega), k1.2.1 i (by omega)]
        exact t4 i (by omega)
  · rw [mo_ite_t (hd.mpr (fun z => q (hc.mpr z)))]
  · rw [mo_ite_t (hd.mpr (fun z => q (hc.mpr z)))]; exact h
/-! calls -/
set_option maxRecDepth 100000 in
theorem ca_many : ∀ k : Nat, k < 1024 → mo_many (nI k) = nI (pq_c k 32) := by decide +kernel
set_option maxRecDepth 100000 in
theorem ca_full : ∀ k : Nat, k < 1024 → pq_c k 32 < 10 ∨ k = 1023 := by decide +kernel
theorem ca_pc {k : Nat} (h : k < 1024) : mo_pc (nI k) = nI (pq_c k 32) := by rw [pq_main, pq_nI (by omega)]
def ca_best (S : Nat → Prop) (A : Nat → Prop) (b : Nat) : Prop := b < 1024 ∧ S b ∧ ∀ k, k < 1024 → A k → S k → pq_c b 32 < pq_c k 32 ∨ (pq_c b 32 = pq_c k 32 ∧ b ≤ k)
theorem ca_one {S : Nat → Prop} {b b' : Nat} (h : ca_best S (fun _ => True) b) (h' : ca_best S (fun _ => True) b') : b = b' := by
  have q := h.2.2 b' h'.1 trivial h'.2.1
  have q' := h'.2.2 b h.1 trivial h.2.1
  omega
theorem ca_up {S : Nat → Prop} (hS : S 1023) : ∀ n, n ≤ 1024 → ∃ b, mo_fo (fun k s => mo_ite (S k ∧ mo_many (nI k) < mo_many s) (nI k) s) (1023 : Int32) n = nI b ∧ (b < n ∨ b = 1023) ∧ ca_best S (fun k => k < n) b
  | 0, _ => ⟨1023, rfl, Or.inr rfl, by omega, hS, fun k _ q _ => absurd q (by omega)⟩
  | n + 1, hn => by
    obtain ⟨b, e, hb, c1, c2, c3⟩ := ca_up hS n (by omega)
    have he : mo_fo (fun k s => mo_ite (S k ∧ mo_many (nI k) < mo_many s) (nI k) s) (1023 : Int32) (n + 1) = mo_ite (S n ∧ mo_many (nI n) < mo_many (nI b)) (nI n) (nI b) := by rw [← e]; rfl
    have hl : pq_c n 32 ≤ 32 := pq_le n 32
    have hl2 : pq_c b 32 ≤ 32 := pq_le b 32
    rw [he, ca_many n (by omega), ca_many b c1, nI_ltI (by omega) (by omega)]
    by_cases q : S n ∧ pq_c n 32 < pq_c b 32
    · rw [mo_ite_t q]
      refine ⟨n, rfl, by omega, by omega, q.1, fun k hk h1 h2 => ?_⟩
      by_cases e : k = n
      · subst e; exact Or.inr ⟨rfl, Nat.le_refl _⟩
      · have := c3 k hk (by omega) h2; omega
    · rw [mo_ite_f q]
      refine ⟨b, rfl, by omega, c1, c2, fun k hk h1 h2 => ?_⟩
      by_cases e : k = n
      · subst e
        have hq : ¬ pq_c k 32 < pq_c b 32 := fun z => q ⟨h2, z⟩
        have f1 := ca_full k hk
        have f2 := ca_full b c1
        have f3 : pq_c 1023 32 = 10 := by decide +kernel
        by_cases e2 : b = 1023
        · subst e2
          omega
        · omega
      · exact c3 k hk (by omega) h2
theorem ca_down {S : Nat → Prop} (hS : S 1023) : ∀ n, n ≤ 1023 → ∃ b, mo_fo (fun k s => mo_ite (mo_pc (nI (1022 - k)) ≤ mo_pc s ∧ S (1022 - k)) (nI (1022 - k)) s) (1023 : Int32) n = nI b ∧ ca_best S (fun k => 1023 - n ≤ k) b
  | 0, _ => by
    refine ⟨1023, rfl, by omega, hS, fun k h1 h2 h3 => ?_⟩
    have e : k = 1023 := by omega
    subst e
    exact Or.inr ⟨rfl, Nat.le_refl _⟩
  | n + 1, hn => by
    obtain ⟨b, e, c1, c2, c3⟩ := ca_down hS n (by omega)
    have he : mo_fo (fun k s => mo_ite (mo_pc (nI (1022 - k)) ≤ mo_pc s ∧ S (1022 - k)) (nI (1022 - k)) s) (1023 : Int32) (n + 1) = mo_ite (mo_pc (nI (1022 - n)) ≤ mo_pc (nI b) ∧ S (1022 - n)) (nI (1022 - n)) (nI b) := by rw [← e]; rfl
    have hl : pq_c (1022 - n) 32 ≤ 32 := pq_le _ 32
    have hl2 : pq_c b 32 ≤ 32 := pq_le b 32
    rw [he, ca_pc (by omega), ca_pc c1, nI_leI (by omega) (by omega)]
    by_cases q : pq_c (1022 - n) 32 ≤ pq_c b 32 ∧ S (1022 - n)
    · rw [mo_ite_t q]
      refine ⟨1022 - n, rfl, by omega, q.2, fun k hk h1 h2 => ?_⟩
      by_cases e : k = 1022 - n
      · subst e; exact Or.inr ⟨rfl, Nat.le_refl _⟩
      · have := c3 k hk (by omega) h2; omega
    · rw [mo_ite_f q]
      refine ⟨b, rfl, c1, c2, fun k hk h1 h2 => ?_⟩
      by_cases e : k = 1022 - n
      · subst e
        have : ¬ pq_c (1022 - n) 32 ≤ pq_c b 32 := fun z => q ⟨z, h2⟩
        omega
      · exact c3 k hk (by omega) h2
/-- what a set of makers must settle: each guessed link of the day -/
def ca_S (σ : mo_M) (a : Int32) (L k : Nat) : Prop := ∀ u, u < L → σ.1 9 0 u = 3 → σ.1 10 0 u ≤ a ∧ a < σ.1 11 0 u → k.testBit (σ.1 2 0 (σ.1 4 0 (σ.1 7 0 u).toNatClampNeg).toNatClampNeg).toNatClampNeg = true ∨ k.testBit (σ.1 2 0 (σ.1 4 0 (σ.1 8 0 u).toNatClampNeg).toNatClampNeg).toNatClampNeg = true
theorem ca_mk {σ : mo_M} {P M L : Nat} (hP : iv_P σ P) (hM : iv_M σ P M) (hL : iv_L σ M L) {u : Nat} (hu : u < L) : (vp_in (σ.1 7 0 u) 60 ∧ vp_in (σ.1 8 0 u) 60 ∧ vp_in (σ.1 4 0 (σ.1 7 0 u).toNatClampNeg) 30 ∧ vp_in (σ.1 4 0 (σ.1 8 0 u).toNatClampNeg) 30 ∧ vp_in (σ.1 2 0 (σ.1 4 0 (σ.1 7 0 u).toNatClampNeg).toNatClampNeg) 10 ∧ vp_in (σ.1 2 0 (σ.1 4 0 (σ.1 8 0 u).toNatClampNeg).toNatClampNeg) 10) ∧ σ.1 54 0 u = σ.1 7 0 u ∧ σ.1 55 0 u = σ.1 8 0 u ∧ σ.1 52 0 (σ.1 54 0 u).toNatClampNeg = σ.1 4 0 (σ.1 7 0 u).toNatClampNeg ∧ σ.1 52 0 (σ.1 55 0 u).toNatClampNeg = σ.1 4 0 (σ.1 8 0 u).toNatClampNeg ∧ σ.1 51 0 (σ.1 52 0 (σ.1 54 0 u).toNatClampNeg).toNatClampNeg = σ.1 2 0 (σ.1 4 0 (σ.1 7 0 u).toNatClampNeg).toNatClampNeg ∧ σ.1 51 0 (σ.1 52 0 (σ.1 55 0 u).toNatClampNeg).toNatClampNeg = σ.1 2 0 (σ.1 4 0 (σ.1 8 0 u).toNatClampNeg).toNatClampNeg := by
  obtain ⟨x1, x2, x3, x4, x5, x6, x7, x8, x9⟩ := hL.2.2.2 u hu
  have y6 := mo_inI x6
  have y7 := mo_inI x7
  obtain ⟨m1, m2, m3, m4⟩ := hM.2.2.2 _ y6.2
  obtain ⟨n1, n2, n3, n4⟩ := hM.2.2.2 _ y7.2
  have z3 := mo_inI m3
  have w3 := mo_inI n3
  obtain ⟨p1, p2⟩ := hP.2.2.2 _ z3.2
  obtain ⟨q1, q2⟩ := hP.2.2.2 _ w3.2
  have hM6 := hM.2.2.1
  have hP3 := hP.2.2.1
  refine ⟨⟨mo_inw x6 hM6, mo_inw x7 hM6, mo_inw m3 hP3, mo_inw n3 hP3, p2, q2⟩, x1, x2, ?_, ?_, ?_, ?_⟩
  · rw [x1]; exact m1
  · rw [x2]; exact n1
  · rw [x1, m1]; exact p1
  · rw [x2, n1]; exact q1
/-- the rows of the questions, as bits -/
theorem ca_row {σ : mo_M} {a : Int32} {P M L : Nat} (hP : iv_P σ P) (hM : iv_M σ P M) (hL : iv_L σ M L) {i j : Nat} (hi : i < 10) : ∀ n, n ≤ L → (ib (mo_fo (fun k r => mo_ite (σ.1 9 0 k = 3 ∧ (σ.1 10 0 k ≤ a ∧ a < σ.1 11 0 k)) (upd r (σ.1 2 0 (σ.1 4 0 (σ.1 7 0 k).toNatClampNeg).toNatClampNeg).toNatClampNeg (r (σ.1 2 0 (σ.1 4 0 (σ.1 7 0 k).toNatClampNeg).toNatClampNeg).toNatClampNeg ||| (1 : Int32) <<< (σ.1 2 0 (σ.1 4 0 (σ.1 8 0 k).toNatClampNeg).toNatClampNeg &&& 31))) r) (mo_fo (fun k r => upd r k 0) (σ.1 37 0) 10) n i) j ↔ ∃ u, u < n ∧ σ.1 9 0 u = 3 ∧ (σ.1 10 0 u ≤ a ∧ a < σ.1 11 0 u) ∧ (σ.1 2 0 (σ.1 4 0 (σ.1 7 0 u).toNatClampNeg).toNatClampNeg).toNatClampNeg = i ∧ (σ.1 2 0 (σ.1 4 0 (σ.1 8 0 u).toNatClampNeg).toNatClampNeg).toNatClampNeg = j) := by
  intro n
  induction n with
  | zero =>
    intro _
    show ib (mo_fo (fun k r => upd r k 0) (σ.1 37 0) 10 i) j ↔ _
    rw [mo_fo_upd (f := fun _ => 0) hi]
    exact ⟨fun q => absurd q (ib_0 j), fun ⟨u, hu, _⟩ => absurd hu (by omega)⟩
  | succ n ih =>
    intro hn
    have ih := ih (by omega)
    have hmk := (ca_mk hP hM hL (u := n) (by omega)).1
    have y8 := mo_inI hmk.2.2.2.2.2
    generalize hf : (fun k r => mo_ite (σ.1 9 0 k = 3 ∧ (σ.1 10 0 k ≤ a ∧ a < σ.1 11 0 k)) (upd r (σ.1 2 0 (σ.1 4 0 (σ.1 7 0 k).toNatClampNeg).toNatClampNeg).toNatClampNeg (r (σ.1 2 0 (σ.1 4 0 (σ.1 7 0 k).toNatClampNeg).toNatClampNeg).toNatClampNeg ||| (1 : Int32) <<< (σ.1 2 0 (σ.1 4 0 (σ.1 8 0 k).toNatClampNeg).toNatClampNeg &&& 31))) r) = f at ih ⊢
    generalize hr0 : mo_fo (fun k r => upd r k 0) (σ.1 37 0) 10 = r0 at ih ⊢
    have hs : mo_fo f r0 (n + 1) = mo_ite (σ.1 9 0 n = 3 ∧ (σ.1 10 0 n ≤ a ∧ a < σ.1 11 0 n)) (upd (mo_fo f r0 n) (σ.1 2 0 (σ.1 4 0 (σ.1 7 0 n).toNatClampNeg).toNatClampNeg).toNatClampNeg (mo_fo f r0 n (σ.1 2 0 (σ.1 4 0 (σ.1 7 0 n).toNatClampNeg).toNatClampNeg).toNatClampNeg ||| (1 : Int32) <<< (σ.1 2 0 (σ.1 4 0 (σ.1 8 0 n).toNatClampNeg).toNatClampNeg &&& 31))) (mo_fo f r0 n) := by rw [← hf]; rfl
    rw [hs]
    by_cases c : σ.1 9 0 n = 3 ∧ (σ.1 10 0 n ≤ a ∧ a < σ.1 11 0 n)
    · rw [mo_ite_t c]
      by_cases e : i = (σ.1 2 0 (σ.1 4 0 (σ.1 7 0 n).toNatClampNeg).toNatClampNeg).toNatClampNeg
      · have hb := ib_bit (i := (σ.1 2 0 (σ.1 4 0 (σ.1 8 0 n).toNatClampNeg).toNatClampNeg).toNatClampNeg) (by omega) j
        rw [← y8.1] at hb
        rw [← e, mo_ueq, ib_or, ih, hb]
        constructor
        · rintro (⟨u, hu, q⟩ | q)
          · exact ⟨u, by omega, q⟩
          · exact ⟨n, by omega, c.1, c.2, e.symm, q⟩
        · rintro ⟨u, hu, q⟩
          by_cases e2 : u = n
          · subst e2; exact Or.inr q.2.2.2
          · exact Or.inl ⟨u, by omega, q⟩
      · rw [mo_une _ _ e, ih]
        constructor
        · rintro ⟨u, hu, q⟩; exact ⟨u, by omega, q⟩
        · rintro ⟨u, hu, q⟩
          by_cases e2 : u = n
          · subst e2; exact absurd q.2.2.1.symm e
          · exact ⟨u, by omega, q⟩
    · rw [mo_ite_f c, ih]
      constructor
      · rintro ⟨u, hu, q⟩; exact ⟨u, by omega, q⟩
      · rintro ⟨u, hu, q⟩
        by_cases e2 : u = n
        · subst e2; exact absurd ⟨q.1, q.2.1⟩ c
        · exact ⟨u, by omega, q⟩
theorem ca_1023 : ∀ j : Nat, j < 10 → (1023 : Nat).testBit j = true := by decide
theorem iv_calls (a : Int32) : iv_op S_X11_calls S_X12_calls [.inr (.inr (0, 0)), .inl a] [.inr (.inr (50, 0)), .inl a] := by
  intro σ h
  obtain ⟨P, M, L, H, J, U, T, W, h1, h2, h3, h4, h5, h6, h7, h8, h9⟩ := id h
  have hL := h3.2.2.1
  have e1 := iv_cl h3.1 (by omega)
  have e2 := iv_cl h3.2.1 (by omega)
  have hmk := fun u (hu : u < L) => ca_mk h1 h2 h3 hu
  have hpre : mo_le (σ.1 50 0 6) 200 ∧ ∀ u, u < (σ.1 50 0 6).toNatClampNeg → vp_in (σ.1 54 0 u) 60 ∧ vp_in (σ.1 55 0 u) 60 ∧ vp_in (σ.1 52 0 (σ.1 54 0 u).toNatClampNeg) 30 ∧ vp_in (σ.1 52 0 (σ.1 55 0 u).toNatClampNeg) 30 := by
    refine ⟨iv_le h3.2.1 hL (by omega), fun u hu => ?_⟩
    rw [e2] at hu
    obtain ⟨⟨x1, x2, x3, x4, x5, x6⟩, y1, y2, y3, y4, y5, y6⟩ := hmk u hu
    rw [y3, y4, y1, y2]
    exact ⟨x1, x2, x3, x4⟩
  have hpre1 : mo_le (σ.1 6 0 5) 200 ∧ ∀ k, k < (σ.1 6 0 5).toNatClampNeg → vp_in (σ.1 7 0 k) 60 ∧ vp_in (σ.1 8 0 k) 60 ∧ vp_in (σ.1 4 0 (σ.1 7 0 k).toNatClampNeg) 30 ∧ vp_in (σ.1 4 0 (σ.1 8 0 k).toNatClampNeg) 30 ∧ vp_in (σ.1 2 0 (σ.1 4 0 (σ.1 7 0 k).toNatClampNeg).toNatClampNeg) 10 := by
    refine ⟨iv_le h3.1 hL (by omega), fun u hu => ?_⟩
    rw [e1] at hu
    obtain ⟨⟨x1, x2, x3, x4, x5, x6⟩, -⟩ := hmk u hu
    exact ⟨x1, x2, x3, x4, x5⟩
  by_cases q : 0 ≤ a ∧ a ≤ (10000 : Int32)
  · refine ⟨a, rfl, hpre1, ?_⟩
    rw [mo_ite_t q, mo_ite_t q, e1]
    generalize hrow : (mo_fo (fun k r => mo_ite (σ.1 9 0 k = 3 ∧ (σ.1 10 0 k ≤ a ∧ a < σ.1 11 0 k)) (upd r (σ.1 2 0 (σ.1 4 0 (σ.1 7 0 k).toNatClampNeg).toNatClampNeg).toNatClampNeg (r (σ.1 2 0 (σ.1 4 0 (σ.1 7 0 k).toNatClampNeg).toNatClampNeg).toNatClampNeg ||| (1 : Int32) <<< (σ.1 2 0 (σ.1 4 0 (σ.1 8 0 k).toNatClampNeg).toNatClampNeg &&& 31))) r) (mo_fo (fun k r => upd r k 0) (σ.1 37 0) 10) L) = row
    have hr : ∀ i, i < 10 → ∀ j, (ib (row i) j ↔ ∃ u, u < L ∧ σ.1 9 0 u = 3 ∧ (σ.1 10 0 u ≤ a ∧ a < σ.1 11 0 u) ∧ (σ.1 2 0 (σ.1 4 0 (σ.1 7 0 u).toNatClampNeg).toNatClampNeg).toNatClampNeg = i ∧ (σ.1 2 0 (σ.1 4 0 (σ.1 8 0 u).toNatClampNeg).toNatClampNeg).toNatClampNeg = j) := by
      intro i hi j
      rw [← hrow]
      exact ca_row h1 h2 h3 hi L (Nat.le_refl _)
    refine ⟨a, rfl, hpre, ?_, ⟨P, M, L, H, J, U, T, W, h1, h2, h3, h4, h5, h6, h7, h8, h9⟩⟩
    rw [mo_ite_t q]
    refine congrArg (fun x => some (Sum.inl x : mo_V)) ?_
    have hS : ca_S σ a L 1023 := fun u hu _ _ => Or.inl (ca_1023 _ (mo_inI (hmk u hu).1.2.2.2.2.1).2)
    obtain ⟨b, eb, -, hb⟩ := ca_up hS 1024 (Nat.le_refl _)
    obtain ⟨b', eb', hb'⟩ := ca_down hS 1023 (Nat.le_refl _)
    have hbb : b' = b := ca_one ⟨hb'.1, hb'.2.1, fun k hk _ => hb'.2.2 k hk (by omega)⟩ ⟨hb.1, hb.2.1, fun k hk _ => hb.2.2 k hk hk⟩
    have c1 : mo_ask (mo_rowI σ 37 0 row) 1023 = nI b' := by
      rw [← eb']
      show mo_fo (fun k s => mo_ite (mo_pc (nI (1022 - k)) ≤ mo_pc s ∧ (∀ u, u < 10 → ¬ (¬ mo_bt (nI (1022 - k)).toInt64 (nI u) ∧ ¬ (row u &&& (nI (1022 - k) ^^^ (-1 : Int32))) = 0))) (nI (1022 - k)) s) (1023 : Int32) 1023 = _
      refine fo_c (fun k hk s => ?_)
      refine congrArg (fun p => mo_ite (mo_pc (nI (1022 - k)) ≤ mo_pc s ∧ p) (nI (1022 - k)) s) (propext ?_)
      have hbit : ∀ j, ib (nI (1022 - k)) j ↔ (1022 - k).testBit j = true := fun j => by unfold ib; rw [pq_nI (by omega)]
      constructor
      · intro z u hu y1 y2
        obtain ⟨⟨x1, x2, x3, x4, x5, x6⟩, -⟩ := hmk u hu
        have w5 := mo_inI x5
        have w6 := mo_inI x6
        have z1 := z _ w5.2
        apply Classical.byContradiction
        intro z2
        refine z1 ⟨fun z3 => z2 (Or.inl ((hbit _).mp ((ib_bt _ (by omega)).mp z3))), fun z3 => ?_⟩
        refine (ib_zero _).mp z3 (σ.1 2 0 (σ.1 4 0 (σ.1 8 0 u).toNatClampNeg).toNatClampNeg).toNatClampNeg (by omega) ((ib_not _ _ _).mpr ⟨(hr _ w5.2 _).mpr ⟨u, hu, y1, y2, rfl, rfl⟩, fun z4 => z2 (Or.inr ((hbit _).mp z4))⟩)
      · rintro z u hu ⟨z1, z2⟩
        apply z2
        rw [ib_zero]
        intro j hj z3
        obtain ⟨z4, z5⟩ := (ib_not _ _ _).mp z3
        obtain ⟨v, hv, y1, y2, y3, y4⟩ := (hr u hu j).mp z4
        rcases z v hv y1 y2 with y | y
        · rw [y3] at y
          exact z1 ((ib_bt _ (by omega)).mpr ((hbit _).mpr y))
        · rw [y4] at y
          exact z5 ((hbit _).mpr y)
    rw [c1, hbb, ← eb]
    show _ = mo_fo (fun k s => mo_ite ((∀ u, u < (σ.1 50 0 6).toNatClampNeg → ¬ ((σ.1 57 0 u ≤ a ∧ a < σ.1 58 0 u) ∧ σ.1 56 0 u = 3 ∧ nI k >>> (σ.1 51 0 (σ.1 52 0 (σ.1 54 0 u).toNatClampNeg).toNatClampNeg &&& 31) &&& 1 = 0 ∧ nI k >>> (σ.1 51 0 (σ.1 52 0 (σ.1 55 0 u).toNatClampNeg).toNatClampNeg &&& 31) &&& 1 = 0)) ∧ mo_many (nI k) < mo_many s) (nI k) s) (1023 : Int32) 1024
    refine fo_c (fun k hk s => ?_)
    refine congrArg (fun p => mo_ite (p ∧ mo_many (nI k) < mo_many s) (nI k) s) (propext ?_)
    have hbit : ∀ j, ib (nI k) j ↔ k.testBit j = true := fun j => by unfold ib; rw [pq_nI (by omega)]
    rw [e2]
    refine forall_congr' (fun u => forall_congr' (fun hu => ?_))
    obtain ⟨⟨x1, x2, x3, x4, x5, x6⟩, y1, y2, y3, y4, y5, y6⟩ := hmk u hu
    obtain ⟨z1, z2, z3, z4, z5, z6⟩ := h3.2.2.2 u hu
    have w5 := mo_inI x5
    have w6 := mo_inI x6
    rw [y5, y6, z3, z4, z5]
    have i5 := (ib_at (nI k) (s := (σ.1 2 0 (σ.1 4 0 (σ.1 7 0 u).toNatClampNeg).toNatClampNeg).toNatClampNeg) (by omega)).1
    have i6 := (ib_at (nI k) (s := (σ.1 2 0 (σ.1 4 0 (σ.1 8 0 u).toNatClampNeg).toNatClampNeg).toNatClampNeg) (by omega)).1
    rw [← w5.1, hbit] at i5
    rw [← w6.1, hbit] at i6
    rw [i5, i6]
    constructor
    · rintro z ⟨q1, q2, q3, q4⟩
      exact (z q2 q1).elim q3 q4
    · intro z q1 q2
      apply Classical.byContradiction
      intro q3
      exact z ⟨q2, q1, fun y => q3 (Or.inl y), fun y => q3 (Or.inr y)⟩
  · refine ⟨a, rfl, hpre1, ?_⟩
    rw [mo_ite_f q, mo_ite_f q]
    refine ⟨a, rfl, hpre, ?_, h⟩
    rw [mo_ite_f q]
