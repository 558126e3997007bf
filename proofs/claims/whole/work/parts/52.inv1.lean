/-! the reference's tests over a version -/
noncomputable def mo_isv (σ : mo_M) (a v : Int32) : Nat → Prop × Prop := mo_fo (fun k (p : Prop × Prop) => (p.1 ∨ (((0 : Int32) < nI k ∧ ¬ σ.1 77 0 ((30 : Int32) * a + nI k).toNatClampNeg = σ.1 77 0 (((30 : Int32) * a + nI k) - 1).toNatClampNeg) ∧ p.2), (((0 : Int32) < nI k ∧ ¬ σ.1 77 0 ((30 : Int32) * a + nI k).toNatClampNeg = σ.1 77 0 (((30 : Int32) * a + nI k) - 1).toNatClampNeg) ∨ p.2) ∧ mo_hold σ ((30 : Int32) * a + nI k) v)) (False, True)
/-! what holds between two calls -/
def iv_P (σ : mo_M) (P : Nat) : Prop := σ.1 1 0 1 = nI P ∧ σ.1 50 0 1 = nI P ∧ P ≤ 30 ∧ ∀ i, i < P → σ.1 51 0 i = σ.1 2 0 i ∧ vp_in (σ.1 2 0 i) 10
def iv_M (σ : mo_M) (P M : Nat) : Prop := σ.1 3 0 2 = nI M ∧ σ.1 50 0 2 = nI M ∧ M ≤ 60 ∧ ∀ i, i < M → σ.1 52 0 i = σ.1 4 0 i ∧ σ.1 53 0 i = σ.1 5 0 i ∧ vp_in (σ.1 4 0 i) P ∧ 0 ≤ σ.1 5 0 i ∧ σ.1 5 0 i ≤ 999999999
def iv_L (σ : mo_M) (M L : Nat) : Prop := σ.1 6 0 5 = nI L ∧ σ.1 50 0 6 = nI L ∧ L ≤ 200 ∧ ∀ i, i < L → σ.1 54 0 i = σ.1 7 0 i ∧ σ.1 55 0 i = σ.1 8 0 i ∧ σ.1 56 0 i = σ.1 9 0 i ∧ σ.1 57 0 i = σ.1 10 0 i ∧ σ.1 58 0 i = σ.1 11 0 i ∧ vp_in (σ.1 7 0 i) M ∧ vp_in (σ.1 8 0 i) M ∧ ¬ σ.1 7 0 i = σ.1 8 0 i ∧ σ.1 11 0 i ≤ 10001
def iv_H (σ : mo_M) (M H : Nat) : Prop := σ.1 12 0 5 = nI H ∧ σ.1 50 0 12 = nI H ∧ H ≤ 100 ∧ ∀ i, i < H → σ.1 59 0 i = σ.1 13 0 i ∧ σ.1 60 0 i = σ.1 14 0 i ∧ σ.1 61 0 i = σ.1 15 0 i ∧ σ.1 62 0 i = σ.1 16 0 i ∧ σ.1 63 0 i = σ.1 17 0 i ∧ vp_in (σ.1 13 0 i) 30 ∧ vp_in (σ.1 14 0 i) M ∧ 0 ≤ σ.1 15 0 i
def iv_J (σ : mo_M) (P J : Nat) : Prop := σ.1 18 0 4 = nI J ∧ σ.1 50 0 18 = nI J ∧ J ≤ 40 ∧ (∀ i, i < J → σ.1 64 0 i = σ.1 19 0 i ∧ σ.1 65 0 i = σ.1 20 0 i ∧ σ.1 66 0 i = σ.1 22 0 i ∧ vp_in (σ.1 19 0 i) P ∧ vp_in (σ.1 20 0 i) P) ∧ ∀ i, i < 40 → σ.1 67 0 i = σ.1 21 0 i
def iv_U (σ : mo_M) (P U : Nat) : Prop := σ.1 23 0 4 = nI U ∧ σ.1 50 0 19 = nI U ∧ U ≤ 40 ∧ (∀ i, i < U → σ.1 68 0 i = σ.1 24 0 i ∧ σ.1 69 0 i = σ.1 25 0 i ∧ σ.1 70 0 i = σ.1 27 0 i ∧ vp_in (σ.1 24 0 i) P ∧ vp_in (σ.1 25 0 i) P ∧ ¬ σ.1 24 0 i = σ.1 25 0 i) ∧ ∀ i, i < 40 → σ.1 26 0 i = 0
def iv_T (σ : mo_M) (T : Nat) : Prop := σ.1 30 0 1 = nI T ∧ σ.1 50 0 30 = nI T ∧ T ≤ 200 ∧ ∀ i, i < T → ∃ b, b < 256 ∧ σ.1 31 0 i = nI b ∧ σ.1 72 0 i = (nI b).toInt8.toInt32
def iv_w (σ : mo_M) (P w : Nat) : Prop := σ.1 73 0 w = σ.1 39 w 3 ∧ vp_in (σ.1 39 w 3) P ∧ σ.1 78 0 w = σ.1 39 w 4 ∧ mo_le (σ.1 39 w 2) 30 ∧ mo_le (σ.1 74 0 w) 30 ∧ ∀ v : Int32, 0 ≤ v → v ≤ 999999999 → ((∃ k, k < (σ.1 39 w 2).toNatClampNeg ∧ σ.1 40 w k ≤ v ∧ v ≤ σ.1 41 w k) ↔ ((mo_isv σ (nI w) v (σ.1 74 0 w).toNatClampNeg).1 ∨ (mo_isv σ (nI w) v (σ.1 74 0 w).toNatClampNeg).2))
def iv_W (σ : mo_M) (P W : Nat) : Prop := σ.1 0 0 12 = nI W ∧ σ.1 50 0 36 = nI W ∧ W ≤ 20 ∧ (∀ w, w < W → iv_w σ P w) ∧ ∀ w, W ≤ w → w < 20 → σ.1 39 w 4 = 0
def iv_F (σ : mo_M) : Prop := σ.1 50 0 34 = σ.1 0 0 13 ∧ σ.1 50 0 0 = σ.1 0 0 14
def iv_A (σ : mo_M) (P M L H J U T W : Nat) : Prop := iv_P σ P ∧ iv_M σ P M ∧ iv_L σ M L ∧ iv_H σ M H ∧ iv_J σ P J ∧ iv_U σ P U ∧ iv_T σ T ∧ iv_W σ P W ∧ iv_F σ
def iv (σ : mo_M) : Prop := ∃ P M L H J U T W, iv_A σ P M L H J U T W
def mo_up (o : Nat) (f : Nat → Int32) (k : Nat) (v : Int32) (i : Nat) : Int32 := if o = o ∧ 0 = 0 ∧ i = k then v else f i
theorem mo_upE (o : Nat) (f : Nat → Int32) (k : Nat) (v : Int32) (i : Nat) : mo_up o f k v i = upd f k v i := by unfold mo_up upd; simp
/-- one call of each side -/
def iv_op (S S' : mo_S) (as as' : List mo_V) : Prop := ∀ σ, iv σ → S as σ (fun r τ => S' as' τ (fun r' υ => r = r' ∧ iv υ))
theorem iv_g {x y a : Int32} {n : Nat} (hx : x = nI n) (hy : y = nI n) (hn : n < 1000) : (0 ≤ a ∧ a < x) ↔ (0 ≤ a ∧ a ≤ y - 1) := by
  subst hx
  subst hy
  cases n with
  | zero =>
    have e : (nI 0 - 1 : Int32).toInt = -1 := by decide
    simp only [Int32.le_iff_toInt_le, Int32.lt_iff_toInt_lt, e, show (nI 0).toInt = 0 from rfl, Int32.toInt_zero]
    omega
  | succ n =>
    rw [nI_pred]
    simp only [Int32.le_iff_toInt_le, Int32.lt_iff_toInt_lt, nI_toInt (show n + 1 < 2 ^ 31 by omega), nI_toInt (show n < 2 ^ 31 by omega), Int32.toInt_zero]
    omega
theorem iv_in {a x : Int32} {n : Nat} (hx : x = nI n) (hn : n < 1000) (h : 0 ≤ a ∧ a < x) : vp_in a n := by
  obtain ⟨j, hj, rfl⟩ := nI_of (Int32.not_lt.mpr h.1)
  have h2 := h.2
  rw [hx, nI_ltI hj (by omega)] at h2
  exact mo_inN h2 (by omega)
theorem iv_in2 {a : Int32} {n : Nat} {y : Int32} (hy : y = nI n) (hn : n < 1000) (h : 0 ≤ a ∧ a ≤ y) : vp_in a (n + 1) := by
  obtain ⟨j, hj, rfl⟩ := nI_of (Int32.not_lt.mpr h.1)
  have h2 := h.2
  rw [hy, nI_leI hj (by omega)] at h2
  exact mo_inN (by omega) (by omega)
theorem iv_full {x y : Int32} {n N : Nat} (hx : x = nI n) (hy : y = nI n) (hn : n ≤ N) (hN : N < 1000) : x < nI N ↔ ¬ y = nI N := by
  rw [hx, hy, nI_ltI (by omega) (by omega), nI_eq (by omega) (by omega)]
  omega
/-- a refusal on both sides -/
theorem iv_ref {σ : mo_M} (h : iv σ) {x y : Int32} (e : y = x) : iv (mo_wI (mo_wI σ 0 0 14 x) 50 0 0 y) := by
  obtain ⟨P, M, L, H, J, U, T, W, h1, h2, h3, h4, h5, h6, h7, h8, h9⟩ := h
  exact ⟨P, M, L, H, J, U, T, W, h1, h2, h3, h4, h5, h6, h7, h8, h9.1, e⟩
theorem iv_n1 (n : Nat) (h : n < 1000) : (if nI (n + 1) - 1 < 0 then nI (n + 1) - 1 else 0) = (0 : Int32) := by rw [nI_pred]; exact if_neg (nI_pos (by omega))
theorem iv_n2 (n : Nat) (h : n < 1000) : (if nI (n + 1) < 0 then nI (n + 1) else 0) = (0 : Int32) := if_neg (nI_pos (by omega))
theorem iv_cl {x : Int32} {n : Nat} (h : x = nI n) (hn : n < 1000000) : x.toNatClampNeg = n := by rw [h]; exact mo_cl hn
theorem iv_status : iv_op S_X11_status S_X12_status [.inr (.inr (0, 0))] [.inr (.inr (50, 0))] := by
  intro σ h
  obtain ⟨P, M, L, H, J, U, T, W, h1, h2, h3, h4, h5, h6, h7, h8, h9⟩ := id h
  exact ⟨rfl, trivial, rfl, trivial, by rw [h9.2], h⟩
theorem iv_fault : iv_op S_X11_fault S_X12_fault [.inr (.inr (0, 0))] [.inr (.inr (50, 0))] := by
  intro σ h
  obtain ⟨P, M, L, H, J, U, T, W, h1, h2, h3, h4, h5, h6, h7, h8, h9⟩ := id h
  exact ⟨rfl, trivial, rfl, trivial, by rw [h9.1], h⟩
theorem iv_told (a : Int32) : iv_op S_X11_told S_X12_told [.inr (.inr (0, 0)), .inl a] [.inr (.inr (50, 0)), .inl a] := by
  intro σ h
  obtain ⟨P, M, L, H, J, U, T, W, h1, h2, h3, h4, h5, h6, h7, h8, h9⟩ := id h
  have hW := h8.2.2.1
  have g := iv_g (a := a) h8.1 h8.2.1 (by omega)
  refine ⟨a, rfl, fun q => ⟨a, rfl, fun _ => ⟨rfl, h⟩, fun z => absurd (g.mpr z) q⟩, fun q => ?_⟩
  have hi := iv_in h8.1 (by omega) q
  have hi2 := (mo_inI hi).2
  exact ⟨mo_inw hi hW, by omega, a, rfl, fun z => absurd (g.mp q) z, fun _ => ⟨mo_inw hi hW, by rw [(h8.2.2.2.1 _ hi2).2.2.1], h⟩⟩
theorem iv_part (a : Int32) : iv_op S_X11_part S_X12_part [.inr (.inr (0, 0)), .inl a] [.inr (.inr (50, 0)), .inl a] := by
  intro σ h
  obtain ⟨P, M, L, H, J, U, T, W, ⟨p1, p2, p3, p4⟩, h2, h3, h4, h5, h6, h7, h8, h9⟩ := id h
  have hf := iv_full p1 p2 p3 (by omega)
  refine ⟨a, rfl, fun q => ⟨fun q1 => ?_, fun q1 => ⟨a, rfl, fun _ => ⟨fun z => absurd (hf.mpr z) q1, fun _ => ⟨rfl, iv_ref h (by decide)⟩⟩, fun z => absurd q z⟩⟩, fun q => ⟨a, rfl, fun z => absurd z q, fun _ => ⟨rfl, iv_ref h (by decide)⟩⟩⟩
  have hP : P < 30 := by
    have z := q1
    rw [p1, show (30 : Int32) = nI 30 from rfl, nI_ltI (by omega) (by omega)] at z
    exact z
  have hi : vp_in (σ.1 1 0 1) 30 := by rw [p1]; exact mo_inN hP (by decide)
  have hi2 : vp_in (σ.1 50 0 1) 30 := by rw [p2]; exact mo_inN hP (by decide)
  refine ⟨hi, a, rfl, fun _ => ⟨fun _ => ⟨hi2, ?_, ?_⟩, fun z => absurd z (hf.mp q1)⟩, fun z => absurd q z⟩
  · show some (Sum.inl (σ.1 1 0 1 + 1 - 1) : mo_V) = some (.inl (σ.1 50 0 1 + 1 - 1))
    rw [p1, p2]
  · refine ⟨P + 1, M, L, H, J, U, T, W, ⟨?_, ?_, by omega, fun i hi => ?_⟩, ⟨h2.1, h2.2.1, h2.2.2.1, fun i hi => ?_⟩, h3, h4, ⟨h5.1, h5.2.1, h5.2.2.1, fun i hi => ?_, h5.2.2.2.2⟩, ⟨h6.1, h6.2.1, h6.2.2.1, fun i hi => ?_, h6.2.2.2.2⟩, h7, ⟨h8.1, h8.2.1, h8.2.2.1, fun w hw => ?_, h8.2.2.2.2⟩, h9.1, ?_⟩
    · show σ.1 1 0 1 + 1 = nI (P + 1); rw [p1, nI_1]
    · show σ.1 50 0 1 + 1 = nI (P + 1); rw [p2, nI_1]
    · show mo_up 51 (σ.1 51 0) (σ.1 50 0 1).toNatClampNeg a i = mo_up 2 (σ.1 2 0) (σ.1 1 0 1).toNatClampNeg a i ∧ vp_in (mo_up 2 (σ.1 2 0) (σ.1 1 0 1).toNatClampNeg a i) 10
      rw [mo_upE, mo_upE, iv_cl p1 (by omega), iv_cl p2 (by omega)]
      by_cases e : i = P
      · subst e; rw [mo_ueq, mo_ueq]; exact ⟨rfl, iv_in2 (n := 9) rfl (by omega) q⟩
      · rw [mo_une _ _ e, mo_une _ _ e]; exact p4 i (by omega)
    · obtain ⟨x1, x2, x3, x4⟩ := h2.2.2.2 i hi
      exact ⟨x1, x2, mo_inw x3 (by omega), x4⟩
    · obtain ⟨x1, x2, x3, x4, x5⟩ := h5.2.2.2.1 i hi
      exact ⟨x1, x2, x3, mo_inw x4 (by omega), mo_inw x5 (by omega)⟩
    · obtain ⟨x1, x2, x3, x4, x5, x6⟩ := h6.2.2.2.1 i hi
      exact ⟨x1, x2, x3, mo_inw x4 (by omega), mo_inw x5 (by omega), x6⟩
    · obtain ⟨x1, x2, x3⟩ := h8.2.2.2.1 w hw
      exact ⟨x1, mo_inw x2 (by omega), x3⟩
    · show (if σ.1 50 0 1 + 1 - 1 < 0 then σ.1 50 0 1 + 1 - 1 else 0) = (0 : Int32)
      rw [p2, nI_1]; exact iv_n1 P (by omega)
theorem iv_ver {b c d : Int32} (hb : 0 ≤ b ∧ b ≤ (999 : Int32)) (hc : 0 ≤ c ∧ c ≤ (999 : Int32)) (hd : 0 ≤ d ∧ d ≤ (999 : Int32)) : (b * (1000 : Int32) + c) * (1000 : Int32) + d = b * (1000000 : Int32) + c * (1000 : Int32) + d * (1 : Int32) ∧ 0 ≤ b * (1000000 : Int32) + c * (1000 : Int32) + d * (1 : Int32) ∧ b * (1000000 : Int32) + c * (1000 : Int32) + d * (1 : Int32) ≤ 999999999 := by
  obtain ⟨x, hx, rfl⟩ := nI_of (Int32.not_lt.mpr hb.1)
  obtain ⟨y, hy, rfl⟩ := nI_of (Int32.not_lt.mpr hc.1)
  obtain ⟨z, hz, rfl⟩ := nI_of (Int32.not_lt.mpr hd.1)
  have e1 := hb.2
  have e2 := hc.2
  have e3 := hd.2
  rw [show (999 : Int32) = nI 999 from rfl, nI_leI (by omega) (by omega)] at e1 e2 e3
  rw [mo_vof, show (1000000 : Int32) = nI 1000000 from rfl, show (1000 : Int32) = nI 1000 from rfl, show (1 : Int32) = nI 1 from rfl, pk_mul, pk_mul, pk_mul, nI_add, nI_add, Nat.mul_one, show (999999999 : Int32) = nI 999999999 from rfl, nI_leI (by omega) (by omega)]
  exact ⟨rfl, nI_pos' (by omega), by omega⟩
theorem mo_fst_c {P P' : Nat → Prop} : ∀ {n : Nat}, (∀ k, k < n → (P k ↔ P' k)) → mo_fst P n = mo_fst P' n
  | 0, _ => rfl
  | n + 1, h => by
    rw [mo_fst, mo_fst, mo_fst_c (fun k hk => h k (by omega)), propext (h n (by omega))]
theorem mo_fsI_c {P P' : Nat → Prop} {n : Nat} (h : ∀ k, k < n → (P k ↔ P' k)) : mo_fsI P n = mo_fsI P' n := by
  unfold mo_fsI; rw [mo_fst_c h]
theorem iv_find (a b c d : Int32) : iv_op S_X11_find S_X12_find [.inr (.inr (0, 0)), .inl a, .inl b, .inl c, .inl d] [.inr (.inr (50, 0)), .inl a, .inl b, .inl c, .inl d] := by
  intro σ h
  obtain ⟨P, M, L, H, J, U, T, W, h1, ⟨m1, m2, m3, m4⟩, h3, h4, h5, h6, h7, h8, h9⟩ := id h
  refine ⟨a, b, c, d, rfl, fun q => ⟨a, b, c, d, rfl, fun _ => ⟨rfl, h⟩, fun z => absurd z q⟩, fun q => ⟨⟨by rw [iv_cl m1 (by omega)]; exact m1, by rw [iv_cl m1 (by omega)]; omega⟩, a, b, c, d, rfl, fun z => absurd q z, fun _ => ⟨⟨by rw [iv_cl m2 (by omega)]; exact m2, by rw [iv_cl m2 (by omega)]; omega⟩, ?_, h⟩⟩⟩
  rw [iv_cl m1 (by omega), iv_cl m2 (by omega), (iv_ver q.1 q.2.1 q.2.2).1]
  rw [mo_fsI_c (fun k hk => ?_)]
  rw [(m4 k hk).1, (m4 k hk).2.1]
theorem iv_make (a b c d : Int32) : iv_op S_X11_make S_X12_make [.inr (.inr (0, 0)), .inl a, .inl b, .inl c, .inl d] [.inr (.inr (50, 0)), .inl a, .inl b, .inl c, .inl d] := by
  intro σ h
  obtain ⟨P, M, L, H, J, U, T, W, ⟨p1, p2, p3, p4⟩, ⟨m1, m2, m3, m4⟩, h3, h4, h5, h6, h7, h8, h9⟩ := id h
  have hf := iv_full m1 m2 m3 (by omega)
  have g := iv_g (a := a) p1 p2 (by omega)
  have l1 : mo_le (σ.1 3 0 2) 60 := ⟨by rw [iv_cl m1 (by omega)]; exact m1, by rw [iv_cl m1 (by omega)]; omega⟩
  have l2 : mo_le (σ.1 50 0 2) 60 := ⟨by rw [iv_cl m2 (by omega)]; exact m2, by rw [iv_cl m2 (by omega)]; omega⟩
  refine ⟨a, b, c, d, rfl, fun q => ?_, fun q => ⟨a, b, c, d, rfl, fun z => absurd z q, fun _ => ⟨rfl, iv_ref h (by decide)⟩⟩⟩
  have hv := iv_ver q.1 q.2.1 q.2.2
  have hs : mo_fsI (fun k => σ.1 52 0 k = a ∧ σ.1 53 0 k = (b * (1000 : Int32) + c) * (1000 : Int32) + d) (σ.1 50 0 2).toNatClampNeg = mo_fsI (fun k => σ.1 4 0 k = a ∧ σ.1 5 0 k = b * (1000000 : Int32) + c * (1000 : Int32) + d * (1 : Int32)) (σ.1 3 0 2).toNatClampNeg := by
    rw [iv_cl m1 (by omega), iv_cl m2 (by omega), hv.1]
    exact mo_fsI_c (fun k hk => by rw [(m4 k hk).1, (m4 k hk).2.1])
  refine ⟨fun q1 => ⟨l1, fun q2 => ⟨fun q3 => ?_, fun q3 => ⟨a, b, c, d, rfl, fun _ => ⟨fun _ => ⟨l2, fun _ => ⟨fun z => absurd (hf.mpr z) q3, fun _ => ⟨rfl, iv_ref h (by decide)⟩⟩, fun z => absurd (hs.trans q2) z⟩, fun z => absurd (g.mp q1) z⟩, fun z => absurd q z⟩⟩, fun q2 => ⟨a, b, c, d, rfl, fun _ => ⟨fun _ => ⟨l2, fun z => absurd (hs.symm.trans z) q2, fun _ => ⟨rfl, iv_ref h (by decide)⟩⟩, fun z => absurd (g.mp q1) z⟩, fun z => absurd q z⟩⟩, fun q1 => ⟨a, b, c, d, rfl, fun _ => ⟨fun z => absurd (g.mpr z) q1, fun _ => ⟨rfl, iv_ref h (by decide)⟩⟩, fun z => absurd q z⟩⟩
  have hM : M < 60 := by
    have z := q3
    rw [m1, show (60 : Int32) = nI 60 from rfl, nI_ltI (by omega) (by omega)] at z
    exact z
  have hi : vp_in (σ.1 3 0 2) 60 := by rw [m1]; exact mo_inN hM (by decide)
  have hi2 : vp_in (σ.1 50 0 2) 60 := by rw [m2]; exact mo_inN hM (by decide)
  refine ⟨hi, a, b, c, d, rfl, fun _ => ⟨fun _ => ⟨l2, fun _ => ⟨fun _ => ⟨hi2, hi2, ?_, ?_⟩, fun z => absurd z (hf.mp q3)⟩, fun z => absurd (hs.trans q2) z⟩, fun z => absurd (g.mp q1) z⟩, fun z => absurd q z⟩
  · show some (Sum.inl (σ.1 3 0 2 + 1 - 1) : mo_V) = some (.inl (σ.1 50 0 2 + 1 - 1))
    rw [m1, m2]
  · refine ⟨P, M + 1, L, H, J, U, T, W, ⟨p1, p2, p3, p4⟩, ⟨?_, ?_, by omega, fun i hi => ?_⟩, ⟨h3.1, h3.2.1, h3.2.2.1, fun i hi => ?_⟩, ⟨h4.1, h4.2.1, h4.2.2.1, fun i hi => ?_⟩, h5, h6, h7, h8, h9.1, ?_⟩
    · show σ.1 3 0 2 + 1 = nI (M + 1); rw [m1, nI_1]
    · show σ.1 50 0 2 + 1 = nI (M + 1); rw [m2, nI_1]
    · show mo_up 52 (σ.1 52 0) (σ.1 50 0 2).toNatClampNeg a i = mo_up 4 (σ.1 4 0) (σ.1 3 0 2).toNatClampNeg a i ∧ mo_up 53 (σ.1 53 0) (σ.1 50 0 2).toNatClampNeg ((b * (1000 : Int32) + c) * (1000 : Int32) + d) i = mo_up 5 (σ.1 5 0) (σ.1 3 0 2).toNatClampNeg (b * (1000000 : Int32) + c * (1000 : Int32) + d * (1 : Int32)) i ∧ vp_in (mo_up 4 (σ.1 4 0) (σ.1 3 0 2).toNatClampNeg a i) P ∧ 0 ≤ mo_up 5 (σ.1 5 0) (σ.1 3 0 2).toNatClampNeg (b * (1000000 : Int32) + c * (1000 : Int32) + d * (1 : Int32)) i ∧ mo_up 5 (σ.1 5 0) (σ.1 3 0 2).toNatClampNeg (b * (1000000 : Int32) + c * (1000 : Int32) + d * (1 : Int32)) i ≤ 999999999
      simp only [mo_upE]
      rw [iv_cl m1 (by omega), iv_cl m2 (by omega), hv.1]
      by_cases e : i = M
      · subst e; simp only [mo_ueq]; exact ⟨trivial, trivial, iv_in p1 (by omega) q1, hv.2⟩
      · simp only [mo_une _ _ e]; exact m4 i (by omega)
    · obtain ⟨x1, x2, x3, x4, x5, x6, x7, x8⟩ := h3.2.2.2 i hi
      exact ⟨x1, x2, x3, x4, x5, mo_inw x6 (by omega), mo_inw x7 (by omega), x8⟩
    · obtain ⟨x1, x2, x3, x4, x5, x6, x7, x8⟩ := h4.2.2.2 i hi
      exact ⟨x1, x2, x3, x4, x5, x6, mo_inw x7 (by omega), x8⟩
    · show (if σ.1 50 0 2 + 1 - 1 < 0 then σ.1 50 0 2 + 1 - 1 else 0) = (0 : Int32)
      rw [m2, nI_1]; exact iv_n1 M (by omega)
