theorem iv_link (a b c d : Int32) : iv_op S_X11_link S_X12_link [.inr (.inr (0, 0)), .inl a, .inl b, .inl c, .inl d] [.inr (.inr (50, 0)), .inl a, .inl b, .inl c, .inl d] := by
  intro σ h
  obtain ⟨P, M, L, H, J, U, T, W, ⟨p1, p2, p3, p4⟩, ⟨m1, m2, m3, m4⟩, ⟨l1, l2, l3, l4⟩, ⟨k1, k2, k3, k4⟩, ⟨j1, j2, j3, j4, j5⟩, ⟨u1, u2, u3, u4, u5⟩, h7, h8, h9⟩ := id h
  have hf := iv_full l1 l2 l3 (by omega)
  have ga := iv_g (a := a) m1 m2 (by omega)
  have gb := iv_g (a := b) m1 m2 (by omega)
  refine ⟨a, b, c, d, rfl, fun q => ⟨a, b, c, d, rfl, fun _ => ⟨rfl, iv_ref h (by decide)⟩, fun z => absurd z q⟩, fun q => ⟨fun q1 => ⟨fun q2 => ⟨a, b, c, d, rfl, fun z => absurd q z, fun _ => ⟨fun _ => ⟨fun _ => ⟨rfl, iv_ref h (by decide)⟩, fun z => absurd (ga.mpr z) q2⟩, fun z => absurd q1 z⟩⟩, fun q2 => ⟨fun q3 => ⟨fun q4 => ⟨fun q5 => ?_, fun q5 => ⟨a, b, c, d, rfl, fun z => absurd q z, fun _ => ⟨fun _ => ⟨fun z => absurd (ga.mp q2) z, fun _ => ⟨fun _ => ⟨fun _ => ⟨fun z => absurd (hf.mpr z) q5, fun _ => ⟨rfl, iv_ref h (by decide)⟩⟩, fun z => absurd z q4⟩, fun z => absurd (gb.mp q3) z⟩⟩, fun z => absurd q1 z⟩⟩⟩, fun q4 => ⟨a, b, c, d, rfl, fun z => absurd q z, fun _ => ⟨fun _ => ⟨fun z => absurd (ga.mp q2) z, fun _ => ⟨fun _ => ⟨fun z => absurd q4 z, fun _ => ⟨rfl, iv_ref h (by decide)⟩⟩, fun z => absurd (gb.mp q3) z⟩⟩, fun z => absurd q1 z⟩⟩⟩, fun q3 => ⟨a, b, c, d, rfl, fun z => absurd q z, fun _ => ⟨fun _ => ⟨fun z => absurd (ga.mp q2) z, fun _ => ⟨fun z => absurd (gb.mpr z) q3, fun _ => ⟨rfl, iv_ref h (by decide)⟩⟩⟩, fun z => absurd q1 z⟩⟩⟩⟩, fun q1 => ⟨a, b, c, d, rfl, fun z => absurd q z, fun _ => ⟨fun z => absurd z q1, fun _ => ⟨rfl, iv_ref h (by decide)⟩⟩⟩⟩⟩
  have hL : L < 200 := by
    have z := q5
    rw [l1, show (200 : Int32) = nI 200 from rfl, nI_ltI (by omega) (by omega)] at z
    exact z
  have hi : vp_in (σ.1 6 0 5) 200 := by rw [l1]; exact mo_inN hL (by decide)
  have hi2 : vp_in (σ.1 50 0 6) 200 := by rw [l2]; exact mo_inN hL (by decide)
  refine ⟨hi, a, b, c, d, rfl, fun z => absurd q z, fun _ => ⟨fun _ => ⟨fun z => absurd (ga.mp q2) z, fun _ => ⟨fun _ => ⟨fun _ => ⟨fun _ => ⟨hi2, hi2, hi2, hi2, hi2, ?_, ?_⟩, fun z => absurd z (hf.mp q5)⟩, fun z => absurd z q4⟩, fun z => absurd (gb.mp q3) z⟩⟩, fun z => absurd q1 z⟩⟩
  · show some (Sum.inl (σ.1 6 0 5 + 1 - 1) : mo_V) = some (.inl (σ.1 50 0 6 + 1 - 1))
    rw [l1, l2]
  · refine ⟨P, M, L + 1, H, J, U, T, W, ⟨p1, p2, p3, p4⟩, ⟨m1, m2, m3, m4⟩, ⟨?_, ?_, by omega, fun i hi => ?_⟩, ⟨k1, k2, k3, k4⟩, ⟨j1, j2, j3, j4, j5⟩, ⟨u1, u2, u3, u4, u5⟩, h7, h8, h9.1, ?_⟩
    · show σ.1 6 0 5 + 1 = nI (L + 1); rw [l1, nI_1]
    · show σ.1 50 0 6 + 1 = nI (L + 1); rw [l2, nI_1]
    · show mo_up 54 (σ.1 54 0) (σ.1 50 0 6).toNatClampNeg a i = mo_up 7 (σ.1 7 0) (σ.1 6 0 5).toNatClampNeg a i ∧ mo_up 55 (σ.1 55 0) (σ.1 50 0 6).toNatClampNeg b i = mo_up 8 (σ.1 8 0) (σ.1 6 0 5).toNatClampNeg b i ∧ mo_up 56 (σ.1 56 0) (σ.1 50 0 6).toNatClampNeg c i = mo_up 9 (σ.1 9 0) (σ.1 6 0 5).toNatClampNeg c i ∧ mo_up 57 (σ.1 57 0) (σ.1 50 0 6).toNatClampNeg d i = mo_up 10 (σ.1 10 0) (σ.1 6 0 5).toNatClampNeg d i ∧ mo_up 58 (σ.1 58 0) (σ.1 50 0 6).toNatClampNeg 10001 i = mo_up 11 (σ.1 11 0) (σ.1 6 0 5).toNatClampNeg 10001 i ∧ vp_in (mo_up 7 (σ.1 7 0) (σ.1 6 0 5).toNatClampNeg a i) M ∧ vp_in (mo_up 8 (σ.1 8 0) (σ.1 6 0 5).toNatClampNeg b i) M ∧ ¬ mo_up 7 (σ.1 7 0) (σ.1 6 0 5).toNatClampNeg a i = mo_up 8 (σ.1 8 0) (σ.1 6 0 5).toNatClampNeg b i ∧ mo_up 11 (σ.1 11 0) (σ.1 6 0 5).toNatClampNeg 10001 i ≤ 10001
      simp only [mo_upE]
      rw [iv_cl l1 (by omega), iv_cl l2 (by omega)]
      by_cases e : i = L
      · subst e; simp only [mo_ueq]; exact ⟨trivial, trivial, trivial, trivial, trivial, iv_in m1 (by omega) q2, iv_in m1 (by omega) q3, q4, by decide⟩
      · simp only [mo_une _ _ e]; exact l4 i (by omega)
    · show (if σ.1 50 0 6 + 1 - 1 < 0 then σ.1 50 0 6 + 1 - 1 else 0) = (0 : Int32)
      rw [l2, nI_1]; exact iv_n1 L (by omega)
theorem iv_cut (a b : Int32) : iv_op S_X11_cut S_X12_cut [.inr (.inr (0, 0)), .inl a, .inl b] [.inr (.inr (50, 0)), .inl a, .inl b] := by
  intro σ h
  obtain ⟨P, M, L, H, J, U, T, W, ⟨p1, p2, p3, p4⟩, ⟨m1, m2, m3, m4⟩, ⟨l1, l2, l3, l4⟩, ⟨k1, k2, k3, k4⟩, ⟨j1, j2, j3, j4, j5⟩, ⟨u1, u2, u3, u4, u5⟩, h7, h8, h9⟩ := id h
  have ga := iv_g (a := a) l1 l2 (by omega)
  refine ⟨a, b, rfl, fun q => ⟨fun q1 => ?_, fun q1 => ⟨a, b, rfl, fun _ => ⟨fun z => absurd (ga.mpr z) q1, fun _ => ⟨rfl, iv_ref h (by decide)⟩⟩, fun z => absurd q z⟩⟩, fun q => ⟨a, b, rfl, fun z => absurd z q, fun _ => ⟨rfl, iv_ref h (by decide)⟩⟩⟩
  have hv := iv_in l1 (by omega) q1
  have hv2 := (mo_inI hv).2
  have hi := mo_inw hv l3
  obtain ⟨x1, x2, x3, x4, x5, x6, x7, x8, x9⟩ := l4 _ hv2
  have hc : (10000 : Int32) < σ.1 58 0 a.toNatClampNeg ↔ σ.1 11 0 a.toNatClampNeg = (10001 : Int32) := by
    rw [x5]
    simp only [Int32.lt_iff_toInt_lt, Int32.le_iff_toInt_le, mo_ieq, show (10000 : Int32).toInt = 10000 from rfl, show (10001 : Int32).toInt = 10001 from rfl] at x9 ⊢
    omega
  refine ⟨hi, fun q2 => ⟨hi, a, b, rfl, fun _ => ⟨fun _ => ⟨hi, fun _ => ⟨hi, rfl, ?_⟩, fun z => absurd (hc.mpr (Classical.not_not.mp q2)) z⟩, fun z => absurd (ga.mp q1) z⟩, fun z => absurd q z⟩, fun q2 => ⟨a, b, rfl, fun _ => ⟨fun _ => ⟨hi, fun z => absurd (hc.mp z) q2, fun _ => ⟨rfl, iv_ref h (by decide)⟩⟩, fun z => absurd (ga.mp q1) z⟩, fun z => absurd q z⟩⟩
  refine ⟨P, M, L, H, J, U, T, W, ⟨p1, p2, p3, p4⟩, ⟨m1, m2, m3, m4⟩, ⟨l1, l2, l3, fun i hi => ?_⟩, ⟨k1, k2, k3, k4⟩, ⟨j1, j2, j3, j4, j5⟩, ⟨u1, u2, u3, u4, u5⟩, h7, h8, h9.1, ?_⟩
  · show σ.1 54 0 i = σ.1 7 0 i ∧ σ.1 55 0 i = σ.1 8 0 i ∧ σ.1 56 0 i = σ.1 9 0 i ∧ σ.1 57 0 i = σ.1 10 0 i ∧ mo_up 58 (σ.1 58 0) a.toNatClampNeg b i = mo_up 11 (σ.1 11 0) a.toNatClampNeg b i ∧ vp_in (σ.1 7 0 i) M ∧ vp_in (σ.1 8 0 i) M ∧ ¬ σ.1 7 0 i = σ.1 8 0 i ∧ mo_up 11 (σ.1 11 0) a.toNatClampNeg b i ≤ 10001
    obtain ⟨y1, y2, y3, y4, y5, y6, y7, y8, y9⟩ := l4 i hi
    simp only [mo_upE]
    refine ⟨y1, y2, y3, y4, ?_, y6, y7, y8, ?_⟩
    · by_cases e : i = a.toNatClampNeg
      · rw [e, mo_ueq, mo_ueq]
      · rw [mo_une _ _ e, mo_une _ _ e]; exact y5
    · by_cases e : i = a.toNatClampNeg
      · rw [e, mo_ueq]
        have := q.2
        simp only [Int32.le_iff_toInt_le, show (10000 : Int32).toInt = 10000 from rfl, show (10001 : Int32).toInt = 10001 from rfl] at this ⊢
        omega
      · rw [mo_une _ _ e]; exact y9
  · rfl
theorem iv_counts (a b : Int32) : iv_op S_X11_counts S_X12_counts [.inr (.inr (0, 0)), .inl a, .inl b] [.inr (.inr (50, 0)), .inl a, .inl b] := by
  intro σ h
  obtain ⟨P, M, L, H, J, U, T, W, ⟨p1, p2, p3, p4⟩, ⟨m1, m2, m3, m4⟩, ⟨l1, l2, l3, l4⟩, ⟨k1, k2, k3, k4⟩, ⟨j1, j2, j3, j4, j5⟩, ⟨u1, u2, u3, u4, u5⟩, h7, h8, h9⟩ := id h
  have ga := iv_g (a := a) l1 l2 (by omega)
  refine ⟨a, b, rfl, fun q => ⟨a, b, rfl, fun _ => ⟨rfl, h⟩, fun z => absurd (ga.mpr z) q⟩, fun q => ⟨fun q1 => ?_, fun q1 => ⟨a, b, rfl, fun z => absurd (ga.mp q) z, fun _ => ⟨fun z => absurd z q1, fun _ => ⟨rfl, h⟩⟩⟩⟩⟩
  have hv := iv_in l1 (by omega) q
  have hv2 := (mo_inI hv).2
  have hi := mo_inw hv l3
  obtain ⟨x1, x2, x3, x4, x5, x6, x7, x8, x9⟩ := l4 _ hv2
  rw [← x4, ← x5]
  exact ⟨hi, fun q2 => ⟨a, b, rfl, fun z => absurd (ga.mp q) z, fun _ => ⟨fun _ => ⟨hi, fun _ => ⟨rfl, h⟩, fun z => absurd z q2⟩, fun z => absurd q1 z⟩⟩, fun q2 => ⟨a, b, rfl, fun z => absurd (ga.mp q) z, fun _ => ⟨fun _ => ⟨hi, fun z => absurd q2 z, fun _ => ⟨rfl, h⟩⟩, fun z => absurd q1 z⟩⟩⟩
theorem iv_hold (a b c d f : Int32) : iv_op S_X11_hold S_X12_hold [.inr (.inr (0, 0)), .inl a, .inl b, .inl c, .inl d, .inl f] [.inr (.inr (50, 0)), .inl a, .inl b, .inl c, .inl d, .inl f] := by
  intro σ h
  obtain ⟨P, M, L, H, J, U, T, W, ⟨p1, p2, p3, p4⟩, ⟨m1, m2, m3, m4⟩, ⟨l1, l2, l3, l4⟩, ⟨k1, k2, k3, k4⟩, ⟨j1, j2, j3, j4, j5⟩, ⟨u1, u2, u3, u4, u5⟩, h7, h8, h9⟩ := id h
  have hf := iv_full k1 k2 k3 (by omega)
  have gb := iv_g (a := b) m1 m2 (by omega)
  have tr : 0 ≤ c → c ≤ d → 0 ≤ d := fun x y => Int32.le_trans x y
  refine ⟨a, b, c, d, f, rfl, fun q => ⟨a, b, c, d, f, rfl, fun _ => ⟨rfl, iv_ref h (by decide)⟩, fun z => absurd z q⟩, fun q => ⟨fun q1 => ⟨a, b, c, d, f, rfl, fun z => absurd q z, fun _ => ⟨fun _ => ⟨rfl, iv_ref h (by decide)⟩, fun z => absurd z q1⟩⟩, fun q1 => ⟨fun q2 => ⟨a, b, c, d, f, rfl, fun z => absurd q z, fun _ => ⟨fun z => absurd q1 z, fun _ => ⟨fun _ => ⟨rfl, iv_ref h (by decide)⟩, fun z => absurd ⟨tr q1.1 z.1, z.2⟩ q2⟩⟩⟩, fun q2 => ⟨fun q3 => ⟨a, b, c, d, f, rfl, fun z => absurd q z, fun _ => ⟨fun z => absurd q1 z, fun _ => ⟨fun _ => ⟨rfl, iv_ref h (by decide)⟩, fun _ => ⟨fun z => absurd z q3, fun _ => ⟨rfl, iv_ref h (by decide)⟩⟩⟩⟩⟩, fun q3 => ⟨fun q4 => ⟨fun q5 => ⟨fun q6 => ?_, fun q6 => ⟨a, b, c, d, f, rfl, fun z => absurd q z, fun _ => ⟨fun z => absurd q1 z, fun _ => ⟨fun z => absurd ⟨q4, q2.2⟩ z, fun _ => ⟨fun _ => ⟨fun _ => ⟨fun z => absurd (hf.mpr z) q6, fun _ => ⟨rfl, iv_ref h (by decide)⟩⟩, fun z => absurd (gb.mp q5) z⟩, fun z => absurd q3 z⟩⟩⟩⟩⟩, fun q5 => ⟨a, b, c, d, f, rfl, fun z => absurd q z, fun _ => ⟨fun z => absurd q1 z, fun _ => ⟨fun z => absurd ⟨q4, q2.2⟩ z, fun _ => ⟨fun _ => ⟨fun z => absurd (gb.mpr z) q5, fun _ => ⟨rfl, iv_ref h (by decide)⟩⟩, fun z => absurd q3 z⟩⟩⟩⟩⟩, fun q4 => ⟨a, b, c, d, f, rfl, fun z => absurd q z, fun _ => ⟨fun z => absurd q1 z, fun _ => ⟨fun _ => ⟨rfl, iv_ref h (by decide)⟩, fun z => absurd z.1 q4⟩⟩⟩⟩⟩⟩⟩⟩
  have hH : H < 100 := by
    have z := q6
    rw [k1, show (100 : Int32) = nI 100 from rfl, nI_ltI (by omega) (by omega)] at z
    exact z
  have hi : vp_in (σ.1 12 0 5) 100 := by rw [k1]; exact mo_inN hH (by decide)
  have hi2 : vp_in (σ.1 50 0 12) 100 := by rw [k2]; exact mo_inN hH (by decide)
  refine ⟨hi, a, b, c, d, f, rfl, fun z => absurd q z, fun _ => ⟨fun z => absurd q1 z, fun _ => ⟨fun z => absurd ⟨q4, q2.2⟩ z, fun _ => ⟨fun _ => ⟨fun _ => ⟨fun _ => ⟨hi2, hi2, hi2, hi2, hi2, ?_, ?_⟩, fun z => absurd z (hf.mp q6)⟩, fun z => absurd (gb.mp q5) z⟩, fun z => absurd q3 z⟩⟩⟩⟩
  · show some (Sum.inl (σ.1 12 0 5 + 1) : mo_V) = some (.inl (σ.1 50 0 12 + 1))
    rw [k1, k2]
  · refine ⟨P, M, L, H + 1, J, U, T, W, ⟨p1, p2, p3, p4⟩, ⟨m1, m2, m3, m4⟩, ⟨l1, l2, l3, l4⟩, ⟨?_, ?_, by omega, fun i hi => ?_⟩, ⟨j1, j2, j3, j4, j5⟩, ⟨u1, u2, u3, u4, u5⟩, h7, h8, h9.1, ?_⟩
    · show σ.1 12 0 5 + 1 = nI (H + 1); rw [k1, nI_1]
    · show σ.1 50 0 12 + 1 = nI (H + 1); rw [k2, nI_1]
    · show mo_up 59 (σ.1 59 0) (σ.1 50 0 12).toNatClampNeg a i = mo_up 13 (σ.1 13 0) (σ.1 12 0 5).toNatClampNeg a i ∧ mo_up 60 (σ.1 60 0) (σ.1 50 0 12).toNatClampNeg b i = mo_up 14 (σ.1 14 0) (σ.1 12 0 5).toNatClampNeg b i ∧ mo_up 61 (σ.1 61 0) (σ.1 50 0 12).toNatClampNeg c i = mo_up 15 (σ.1 15 0) (σ.1 12 0 5).toNatClampNeg c i ∧ mo_up 62 (σ.1 62 0) (σ.1 50 0 12).toNatClampNeg d i = mo_up 16 (σ.1 16 0) (σ.1 12 0 5).toNatClampNeg d i ∧ mo_up 63 (σ.1 63 0) (σ.1 50 0 12).toNatClampNeg f i = mo_up 17 (σ.1 17 0) (σ.1 12 0 5).toNatClampNeg f i ∧ vp_in (mo_up 13 (σ.1 13 0) (σ.1 12 0 5).toNatClampNeg a i) 30 ∧ vp_in (mo_up 14 (σ.1 14 0) (σ.1 12 0 5).toNatClampNeg b i) M ∧ 0 ≤ mo_up 15 (σ.1 15 0) (σ.1 12 0 5).toNatClampNeg c i
      simp only [mo_upE]
      rw [iv_cl k1 (by omega), iv_cl k2 (by omega)]
      by_cases e : i = H
      · subst e; simp only [mo_ueq]; exact ⟨trivial, trivial, trivial, trivial, trivial, iv_in2 (n := 29) rfl (by omega) q, iv_in m1 (by omega) q5, q1.1⟩
      · simp only [mo_une _ _ e]; exact k4 i (by omega)
    · show (if σ.1 50 0 12 + 1 < 0 then σ.1 50 0 12 + 1 else 0) = (0 : Int32)
      rw [k2, nI_1]; exact iv_n2 H (by omega)
theorem iv_join (a b c : Int32) : iv_op S_X11_join S_X12_join [.inr (.inr (0, 0)), .inl a, .inl b, .inl c] [.inr (.inr (50, 0)), .inl a, .inl b, .inl c] := by
  intro σ h
  obtain ⟨P, M, L, H, J, U, T, W, ⟨p1, p2, p3, p4⟩, ⟨m1, m2, m3, m4⟩, ⟨l1, l2, l3, l4⟩, ⟨k1, k2, k3, k4⟩, ⟨j1, j2, j3, j4, j5⟩, ⟨u1, u2, u3, u4, u5⟩, h7, h8, h9⟩ := id h
  have hf := iv_full j1 j2 j3 (by omega)
  have ga := iv_g (a := a) p1 p2 (by omega)
  have gb := iv_g (a := b) p1 p2 (by omega)
  refine ⟨a, b, c, rfl, fun q => ⟨fun q1 => ⟨a, b, c, rfl, fun _ => ⟨fun _ => ⟨rfl, iv_ref h (by decide)⟩, fun z => absurd (ga.mpr z) q1⟩, fun z => absurd q z⟩, fun q1 => ⟨fun q2 => ⟨fun q3 => ⟨fun q4 => ?_, fun q4 => ⟨a, b, c, rfl, fun _ => ⟨fun z => absurd (ga.mp q1) z, fun _ => ⟨fun _ => ⟨fun _ => ⟨fun z => absurd (hf.mpr z) q4, fun _ => ⟨rfl, iv_ref h (by decide)⟩⟩, fun z => absurd z q3⟩, fun z => absurd (gb.mp q2) z⟩⟩, fun z => absurd q z⟩⟩, fun q3 => ⟨a, b, c, rfl, fun _ => ⟨fun z => absurd (ga.mp q1) z, fun _ => ⟨fun _ => ⟨fun z => absurd q3 z, fun _ => ⟨rfl, iv_ref h (by decide)⟩⟩, fun z => absurd (gb.mp q2) z⟩⟩, fun z => absurd q z⟩⟩, fun q2 => ⟨a, b, c, rfl, fun _ => ⟨fun z => absurd (ga.mp q1) z, fun _ => ⟨fun z => absurd (gb.mpr z) q2, fun _ => ⟨rfl, iv_ref h (by decide)⟩⟩⟩, fun z => absurd q z⟩⟩⟩, fun q => ⟨a, b, c, rfl, fun z => absurd z q, fun _ => ⟨rfl, iv_ref h (by decide)⟩⟩⟩
  have hN : J < 40 := by
    have z := q4
    rw [j1, show (40 : Int32) = nI 40 from rfl, nI_ltI (by omega) (by omega)] at z
    exact z
  have hi : vp_in (σ.1 18 0 4) 40 := by rw [j1]; exact mo_inN hN (by decide)
  have hi2 : vp_in (σ.1 50 0 18) 40 := by rw [j2]; exact mo_inN hN (by decide)
  refine ⟨⟨Or.inl rfl, hi⟩, a, b, c, rfl, fun _ => ⟨fun z => absurd (ga.mp q1) z, fun _ => ⟨fun _ => ⟨fun _ => ⟨fun _ => ⟨hi2, hi2, hi2, ?_, ?_⟩, fun z => absurd z (hf.mp q4)⟩, fun z => absurd z q3⟩, fun z => absurd (gb.mp q2) z⟩⟩, fun z => absurd q z⟩
  · show some (Sum.inl (σ.1 18 0 4 + 1 - 1) : mo_V) = some (.inl (σ.1 50 0 18 + 1 - 1))
    rw [j1, j2]
  · refine ⟨P, M, L, H, J + 1, U, T, W, ⟨p1, p2, p3, p4⟩, ⟨m1, m2, m3, m4⟩, ⟨l1, l2, l3, l4⟩, ⟨k1, k2, k3, k4⟩, ⟨?_, ?_, by omega, fun i hi => ?_, j5⟩, ⟨u1, u2, u3, u4, u5⟩, h7, h8, h9.1, ?_⟩
    · show σ.1 18 0 4 + 1 = nI (J + 1); rw [j1, nI_1]
    · show σ.1 50 0 18 + 1 = nI (J + 1); rw [j2, nI_1]
    · show mo_up 64 (σ.1 64 0) (σ.1 50 0 18).toNatClampNeg a i = mo_up 19 (σ.1 19 0) (σ.1 18 0 4).toNatClampNeg a i ∧ mo_up 65 (σ.1 65 0) (σ.1 50 0 18).toNatClampNeg b i = mo_up 20 (σ.1 20 0) (σ.1 18 0 4).toNatClampNeg b i ∧ mo_up 66 (σ.1 66 0) (σ.1 50 0 18).toNatClampNeg c i = mo_up 22 (σ.1 22 0) (σ.1 18 0 4).toNatClampNeg c i ∧ vp_in (mo_up 19 (σ.1 19 0) (σ.1 18 0 4).toNatClampNeg a i) P ∧ vp_in (mo_up 20 (σ.1 20 0) (σ.1 18 0 4).toNatClampNeg b i) P
      simp only [mo_upE]
      rw [iv_cl j1 (by omega), iv_cl j2 (by omega)]
      by_cases e : i = J
      · subst e; simp only [mo_ueq]; exact ⟨trivial, trivial, trivial, iv_in p1 (by omega) q1, iv_in p1 (by omega) q2⟩
      · simp only [mo_une _ _ e]; exact j4 i (by omega)
    · show (if σ.1 50 0 18 + 1 - 1 < 0 then σ.1 50 0 18 + 1 - 1 else 0) = (0 : Int32)
      rw [j2, nI_1]; exact iv_n1 J (by omega)
theorem iv_unlike (a b c : Int32) : iv_op S_X11_unlike S_X12_unlike [.inr (.inr (0, 0)), .inl a, .inl b, .inl c] [.inr (.inr (50, 0)), .inl a, .inl b, .inl c] := by
  intro σ h
  obtain ⟨P, M, L, H, J, U, T, W, ⟨p1, p2, p3, p4⟩, ⟨m1, m2, m3, m4⟩, ⟨l1, l2, l3, l4⟩, ⟨k1, k2, k3, k4⟩, ⟨j1, j2, j3, j4, j5⟩, ⟨u1, u2, u3, u4, u5⟩, h7, h8, h9⟩ := id h
  have hf := iv_full u1 u2 u3 (by omega)
  have ga := iv_g (a := a) p1 p2 (by omega)
  have gb := iv_g (a := b) p1 p2 (by omega)
  refine ⟨a, b, c, rfl, fun q => ⟨fun q1 => ⟨a, b, c, rfl, fun _ => ⟨fun _ => ⟨rfl, iv_ref h (by decide)⟩, fun z => absurd (ga.mpr z) q1⟩, fun z => absurd q z⟩, fun q1 => ⟨fun q2 => ⟨fun q3 => ⟨fun q4 => ?_, fun q4 => ⟨a, b, c, rfl, fun _ => ⟨fun z => absurd (ga.mp q1) z, fun _ => ⟨fun _ => ⟨fun _ => ⟨fun z => absurd (hf.mpr z) q4, fun _ => ⟨rfl, iv_ref h (by decide)⟩⟩, fun z => absurd z q3⟩, fun z => absurd (gb.mp q2) z⟩⟩, fun z => absurd q z⟩⟩, fun q3 => ⟨a, b, c, rfl, fun _ => ⟨fun z => absurd (ga.mp q1) z, fun _ => ⟨fun _ => ⟨fun z => absurd q3 z, fun _ => ⟨rfl, iv_ref h (by decide)⟩⟩, fun z => absurd (gb.mp q2) z⟩⟩, fun z => absurd q z⟩⟩, fun q2 => ⟨a, b, c, rfl, fun _ => ⟨fun z => absurd (ga.mp q1) z, fun _ => ⟨fun z => absurd (gb.mpr z) q2, fun _ => ⟨rfl, iv_ref h (by decide)⟩⟩⟩, fun z => absurd q z⟩⟩⟩, fun q => ⟨a, b, c, rfl, fun z => absurd z q, fun _ => ⟨rfl, iv_ref h (by decide)⟩⟩⟩
  have hN : U < 40 := by
    have z := q4
    rw [u1, show (40 : Int32) = nI 40 from rfl, nI_ltI (by omega) (by omega)] at z
    exact z
  have hi : vp_in (σ.1 23 0 4) 40 := by rw [u1]; exact mo_inN hN (by decide)
  have hi2 : vp_in (σ.1 50 0 19) 40 := by rw [u2]; exact mo_inN hN (by decide)
  refine ⟨⟨Or.inr rfl, hi⟩, a, b, c, rfl, fun _ => ⟨fun z => absurd (ga.mp q1) z, fun _ => ⟨fun _ => ⟨fun _ => ⟨fun _ => ⟨hi2, hi2, hi2, ?_, ?_⟩, fun z => absurd z (hf.mp q4)⟩, fun z => absurd z q3⟩, fun z => absurd (gb.mp q2) z⟩⟩, fun z => absurd q z⟩
  · show some (Sum.inl (σ.1 23 0 4 + 1 - 1 + 1) : mo_V) = some (.inl (σ.1 50 0 19 + 1))
    rw [u1, u2, nI_1, nI_pred, nI_1]
  · refine ⟨P, M, L, H, J, U + 1, T, W, ⟨p1, p2, p3, p4⟩, ⟨m1, m2, m3, m4⟩, ⟨l1, l2, l3, l4⟩, ⟨k1, k2, k3, k4⟩, ⟨j1, j2, j3, j4, j5⟩, ⟨?_, ?_, by omega, fun i hi => ?_, u5⟩, h7, h8, h9.1, ?_⟩
    · show σ.1 23 0 4 + 1 = nI (U + 1); rw [u1, nI_1]
    · show σ.1 50 0 19 + 1 = nI (U + 1); rw [u2, nI_1]
    · show mo_up 68 (σ.1 68 0) (σ.1 50 0 19).toNatClampNeg a i = mo_up 24 (σ.1 24 0) (σ.1 23 0 4).toNatClampNeg a i ∧ mo_up 69 (σ.1 69 0) (σ.1 50 0 19).toNatClampNeg b i = mo_up 25 (σ.1 25 0) (σ.1 23 0 4).toNatClampNeg b i ∧ mo_up 70 (σ.1 70 0) (σ.1 50 0 19).toNatClampNeg c i = mo_up 27 (σ.1 27 0) (σ.1 23 0 4).toNatClampNeg c i ∧ vp_in (mo_up 24 (σ.1 24 0) (σ.1 23 0 4).toNatClampNeg a i) P ∧ vp_in (mo_up 25 (σ.1 25 0) (σ.1 23 0 4).toNatClampNeg b i) P ∧ ¬ mo_up 24 (σ.1 24 0) (σ.1 23 0 4).toNatClampNeg a i = mo_up 25 (σ.1 25 0) (σ.1 23 0 4).toNatClampNeg b i
      simp only [mo_upE]
      rw [iv_cl u1 (by omega), iv_cl u2 (by omega)]
      by_cases e : i = U
      · subst e; simp only [mo_ueq]; exact ⟨trivial, trivial, trivial, iv_in p1 (by omega) q1, iv_in p1 (by omega) q2, q3⟩
      · simp only [mo_une _ _ e]; exact u4 i (by omega)
    · show (if σ.1 50 0 19 + 1 < 0 then σ.1 50 0 19 + 1 else 0) = (0 : Int32)
      rw [u2, nI_1]; exact iv_n2 U (by omega)
theorem iv_undo (a : Int32) : iv_op S_X11_undo S_X12_undo [.inr (.inr (0, 0)), .inl a] [.inr (.inr (50, 0)), .inl a] := by
  intro σ h
  obtain ⟨P, M, L, H, J, U, T, W, ⟨p1, p2, p3, p4⟩, ⟨m1, m2, m3, m4⟩, ⟨l1, l2, l3, l4⟩, ⟨k1, k2, k3, k4⟩, ⟨j1, j2, j3, j4, j5⟩, ⟨u1, u2, u3, u4, u5⟩, h7, h8, h9⟩ := id h
  have ga := iv_g (a := a) j1 j2 (by omega)
  refine ⟨a, rfl, fun q => ⟨a, rfl, fun z => absurd q (Int32.not_lt.mpr z.1), fun _ => ⟨rfl, iv_ref h (by decide)⟩⟩, fun q => ⟨fun q1 => ?_, fun q1 => ⟨a, rfl, fun z => absurd (ga.mpr z).2 q1, fun _ => ⟨rfl, iv_ref h (by decide)⟩⟩⟩⟩
  have qq : 0 ≤ a ∧ a < σ.1 18 0 4 := ⟨Int32.not_lt.mp q, q1⟩
  have hv := iv_in j1 (by omega) qq
  have hv2 := (mo_inI hv).2
  have hi := mo_inw hv j3
  have e67 := j5 a.toNatClampNeg (by omega)
  refine ⟨hi, fun q2 => ⟨hi, a, rfl, fun _ => ⟨hi, fun _ => ⟨hi, rfl, ?_⟩, fun z => absurd (e67.trans q2) z⟩, fun z => absurd (ga.mp qq) z⟩, fun q2 => ⟨a, rfl, fun _ => ⟨hi, fun z => absurd (e67.symm.trans z) q2, fun _ => ⟨rfl, iv_ref h (by decide)⟩⟩, fun z => absurd (ga.mp qq) z⟩⟩
  refine ⟨P, M, L, H, J, U, T, W, ⟨p1, p2, p3, p4⟩, ⟨m1, m2, m3, m4⟩, ⟨l1, l2, l3, l4⟩, ⟨k1, k2, k3, k4⟩, ⟨j1, j2, j3, j4, fun i hi => ?_⟩, ⟨u1, u2, u3, u4, u5⟩, h7, h8, h9.1, ?_⟩
  · show mo_up 67 (σ.1 67 0) a.toNatClampNeg (vp_nar .boolean (1 : Int32)) i = mo_up 21 (σ.1 21 0) a.toNatClampNeg (vp_nar .boolean (1 : Int32)) i
    rw [mo_upE, mo_upE]
    by_cases e : i = a.toNatClampNeg
    · rw [e, mo_ueq, mo_ueq]
    · rw [mo_une _ _ e, mo_une _ _ e]; exact j5 i hi
  · rfl
theorem iv_count (a : Int32) : iv_op S_X11_count S_X12_count [.inr (.inr (0, 0)), .inl a] [.inr (.inr (50, 0)), .inl a] := by
  intro σ h
  obtain ⟨P, M, L, H, J, U, T, W, ⟨p1, p2, p3, p4⟩, ⟨m1, m2, m3, m4⟩, ⟨l1, l2, l3, l4⟩, ⟨k1, k2, k3, k4⟩, ⟨j1, j2, j3, j4, j5⟩, ⟨u1, u2, u3, u4, u5⟩, h7, h8, h9⟩ := id h
  refine ⟨a, rfl, trivial, a, rfl, trivial, ?_, h⟩
  rw [p1, p2, m1, m2, l1, l2, k1, k2, j1, j2, u1, u2, h7.1, h7.2.1, h8.1, h8.2.1]
theorem iv_end (n : Int32) : iv_op S_X11_end S_X12_end [.inr (.inr (0, 0)), .inl n] [.inr (.inr (50, 0)), .inl n] := by
  intro σ h
  obtain ⟨P, M, L, H, J, U, T, W, ⟨p1, p2, p3, p4⟩, ⟨m1, m2, m3, m4⟩, ⟨l1, l2, l3, l4⟩, ⟨k1, k2, k3, k4⟩, ⟨j1, j2, j3, j4, j5⟩, ⟨u1, u2, u3, u4, u5⟩, h7, h8, h9⟩ := id h
  obtain ⟨t1, t2, t3, t4⟩ := h7
  have g : (0 ≤ n ∧ n ≤ σ.1 50 0 30) ↔ ¬ (n < 0 ∨ σ.1 30 0 1 < n) := by
    rw [t1, t2]
    simp only [Int32.lt_iff_toInt_lt, Int32.le_iff_toInt_le]
    omega
  by_cases q : n < 0 ∨ σ.1 30 0 1 < n
  · have q2 : ¬ (0 ≤ n ∧ n ≤ σ.1 50 0 30) := fun z => g.mp z q
    refine ⟨n, rfl, trivial, n, rfl, trivial, ?_, ?_⟩
    · simp only [if_pos q, if_neg q2]
    · simp only [if_pos q, if_neg q2]; exact h
  · have q2 := g.mpr q
    refine ⟨n, rfl, trivial, n, rfl, trivial, ?_, ?_⟩
    · simp only [if_neg q]
      rw [if_pos (show 0 ≤ n ∧ n ≤ (mo_wI σ 30 0 1 n).1 50 0 30 from q2)]
    · simp only [if_neg q]
      rw [if_pos (show 0 ≤ n ∧ n ≤ (mo_wI σ 30 0 1 n).1 50 0 30 from q2)]
      obtain ⟨j, hj, rfl⟩ := nI_of (Int32.not_lt.mpr q2.1)
      have hle : j ≤ T := by have z := q2.2; rw [t2, nI_leI hj (by omega)] at z; exact z
      exact ⟨P, M, L, H, J, U, j, W, ⟨p1, p2, p3, p4⟩, ⟨m1, m2, m3, m4⟩, ⟨l1, l2, l3, l4⟩, ⟨k1, k2, k3, k4⟩, ⟨j1, j2, j3, j4, j5⟩, ⟨u1, u2, u3, u4, u5⟩, ⟨rfl, rfl, by omega, fun i hi => t4 i (by omega)⟩, h8, h9⟩
