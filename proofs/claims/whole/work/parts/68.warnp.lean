/-! warning on both sides -/
theorem tk_c5 (r : Nat → Int32) (n p : Nat) : (tk_tst r n p).2.2.1 ≤ 5 := by
  unfold tk_tst mo_ite
  repeat' split
  all_goals simp
theorem wn_hold {τ : mo_M} {i v u : Int32} {c : Nat} (h75 : τ.1 75 0 i.toNatClampNeg = nI c) (h76 : τ.1 76 0 i.toNatClampNeg = u) (hc : c ≤ 5) : mo_hold τ i v ↔ tk_hd c u v := by
  unfold mo_hold tk_hd
  rw [h75, h76]
  have e : ∀ k, k ≤ 5 → (nI c = nI k ↔ c = k) := fun k hk => nI_eq (by omega) (by omega)
  have e0 : nI c = (0 : Int32) ↔ c = 0 := e 0 (by omega)
  have e1 : nI c = (1 : Int32) ↔ c = 1 := e 1 (by omega)
  have e2 : nI c = (2 : Int32) ↔ c = 2 := e 2 (by omega)
  have e3 : nI c = (3 : Int32) ↔ c = 3 := e 3 (by omega)
  have e4 : nI c = (4 : Int32) ↔ c = 4 := e 4 (by omega)
  by_cases c0 : c = 0
  · rw [mo_ite_t (e0.mpr c0), if_pos c0]
  · rw [mo_ite_f (fun q => c0 (e0.mp q)), if_neg c0]
    by_cases c1 : c = 1
    · rw [mo_ite_t (e1.mpr c1), if_pos c1]
    · rw [mo_ite_f (fun q => c1 (e1.mp q)), if_neg c1]
      by_cases c2 : c = 2
      · rw [mo_ite_t (e2.mpr c2), if_pos c2]
      · rw [mo_ite_f (fun q => c2 (e2.mp q)), if_neg c2]
        by_cases c3 : c = 3
        · rw [mo_ite_t (e3.mpr c3), if_pos c3]
        · rw [mo_ite_f (fun q => c3 (e3.mp q)), if_neg c3]
          by_cases c4 : c = 4
          · rw [mo_ite_t (e4.mpr c4), if_pos c4]
          · rw [mo_ite_f (fun q => c4 (e4.mp q)), if_neg c4]
theorem wn_ix {w k : Nat} (hw : w < 20) (hk : k < 30) : ((30 : Int32) * nI w + nI k) = nI (30 * w + k) ∧ ((30 : Int32) * nI w + nI k).toNatClampNeg = 30 * w + k ∧ (((30 : Int32) * nI w + nI k) - 1).toNatClampNeg = 30 * w + k - 1 := by
  have e : ((30 : Int32) * nI w + nI k) = nI (30 * w + k) := by rw [show (30 : Int32) = nI 30 from rfl, pk_mul, nI_add]
  rw [e, mo_cl (by omega)]
  refine ⟨rfl, rfl, ?_⟩
  by_cases z : 30 * w + k = 0
  · rw [z]; decide
  · rw [show 30 * w + k = (30 * w + k - 1) + 1 from by omega, nI_pred, mo_cl (by omega)]
    omega
theorem isv_c {σ υ : mo_M} {w : Nat} {v : Int32} (hw : w < 20) (h : ∀ i, i < 30 * w + 30 → υ.1 75 0 i = σ.1 75 0 i ∧ υ.1 76 0 i = σ.1 76 0 i ∧ υ.1 77 0 i = σ.1 77 0 i) {n : Nat} (hn : n ≤ 30) : mo_isv υ (nI w) v n = mo_isv σ (nI w) v n := by
  unfold mo_isv
  refine fo_c (fun k hk p => ?_)
  obtain ⟨x1, x2, x3⟩ := wn_ix hw (show k < 30 by omega)
  obtain ⟨y1, y2, y3⟩ := h (30 * w + k) (by omega)
  obtain ⟨z1, z2, z3⟩ := h (30 * w + k - 1) (by omega)
  have eh : mo_hold υ ((30 : Int32) * nI w + nI k) v = mo_hold σ ((30 : Int32) * nI w + nI k) v := by
    unfold mo_hold
    rw [x2, y1, y2]
  rw [eh, x2, x3, y3, z3]
theorem tk_tm_s (r : Nat → Int32) (n s k : Nat) : tk_tm r n s (k + 1) = tk_tm r n s k ∨ tk_tm r n s (k + 1) = tk_tm r n s k + 1 := by
  have e : tk_tm r n s (k + 1) = mo_ite (tk_or r n (tk_ps r n s k)) (tk_tm r n s k + 1) (tk_tm r n s k) := rfl
  rw [e]
  by_cases c : tk_or r n (tk_ps r n s k)
  · rw [mo_ite_t c]; exact Or.inr rfl
  · rw [mo_ite_f c]; exact Or.inl rfl
theorem wn_isv {τ : mo_M} {r : Nat → Int32} {n s W J : Nat} {v : Int32} (hr : mo_rows τ r n s W (J + 1)) (hJ : J < 30) (hW : W < 20) : ∀ m, m ≤ J → ((mo_isv τ (nI W) v (m + 1)).1 ↔ ∃ t, t < tk_tm r n s m ∧ ∀ j, j < m + 1 → tk_tm r n s j = t → tk_hj r n s j v) ∧ ((mo_isv τ (nI W) v (m + 1)).2 ↔ ∀ j, j < m + 1 → tk_tm r n s j = tk_tm r n s m → tk_hj r n s j v) := by
  have hold : ∀ m, m ≤ J → (mo_hold τ ((30 : Int32) * nI W + nI m) v ↔ tk_hj r n s m v) := by
    intro m hm
    obtain ⟨x1, x2, x3⟩ := wn_ix hW (show m < 30 by omega)
    obtain ⟨y1, y2, y3⟩ := hr m (by omega)
    unfold tk_hj
    exact wn_hold (by rw [x2]; exact y1) (by rw [x2]; exact y2) (tk_c5 r n _)
  intro m
  induction m with
  | zero =>
    intro _
    have e : mo_isv τ (nI W) v 1 = (False ∨ (((0 : Int32) < nI 0 ∧ ¬ τ.1 77 0 ((30 : Int32) * nI W + nI 0).toNatClampNeg = τ.1 77 0 (((30 : Int32) * nI W + nI 0) - 1).toNatClampNeg) ∧ True), (((0 : Int32) < nI 0 ∧ ¬ τ.1 77 0 ((30 : Int32) * nI W + nI 0).toNatClampNeg = τ.1 77 0 (((30 : Int32) * nI W + nI 0) - 1).toNatClampNeg) ∨ True) ∧ mo_hold τ ((30 : Int32) * nI W + nI 0) v) := rfl
    have t0 : tk_tm r n s 0 = 0 := rfl
    show ((mo_isv τ (nI W) v 1).1 ↔ _) ∧ ((mo_isv τ (nI W) v 1).2 ↔ _)
    rw [e]
    dsimp only
    rw [hold 0 (by omega), t0]
    have n0 : ¬ (0 : Int32) < nI 0 := by decide
    refine ⟨⟨?_, fun ⟨t, ht, _⟩ => absurd ht (by omega)⟩, ⟨fun q j hj _ => ?_, fun q => ⟨Or.inr trivial, q 0 (by omega) rfl⟩⟩⟩
    · rintro (q | q)
      · exact q.elim
      · exact absurd q.1.1 n0
    · have : j = 0 := by omega
      subst this
      exact q.2
  | succ m ih =>
    intro hm
    obtain ⟨i1, i2⟩ := ih (by omega)
    obtain ⟨x1, x2, x3⟩ := wn_ix hW (show m + 1 < 30 by omega)
    have y3 := (hr (m + 1) (by omega)).2.2
    have z3 := (hr m (by omega)).2.2
    have hl1 := tk_tm_le r n s (m + 1)
    have hl0 := tk_tm_le r n s m
    have hnew : ((0 : Int32) < nI (m + 1) ∧ ¬ τ.1 77 0 ((30 : Int32) * nI W + nI (m + 1)).toNatClampNeg = τ.1 77 0 (((30 : Int32) * nI W + nI (m + 1)) - 1).toNatClampNeg) ↔ tk_tm r n s (m + 1) = tk_tm r n s m + 1 := by
      rw [x2, x3, y3, show 30 * W + (m + 1) - 1 = 30 * W + m from by omega, z3, nI_eq (by omega) (by omega), show (0 : Int32) = nI 0 from rfl, nI_ltI (by omega) (by omega)]
      rcases tk_tm_s r n s m with q | q
      · omega
      · omega
    have e : mo_isv τ (nI W) v (m + 1 + 1) = ((mo_isv τ (nI W) v (m + 1)).1 ∨ (((0 : Int32) < nI (m + 1) ∧ ¬ τ.1 77 0 ((30 : Int32) * nI W + nI (m + 1)).toNatClampNeg = τ.1 77 0 (((30 : Int32) * nI W + nI (m + 1)) - 1).toNatClampNeg) ∧ (mo_isv τ (nI W) v (m + 1)).2), (((0 : Int32) < nI (m + 1) ∧ ¬ τ.1 77 0 ((30 : Int32) * nI W + nI (m + 1)).toNatClampNeg = τ.1 77 0 (((30 : Int32) * nI W + nI (m + 1)) - 1).toNatClampNeg) ∨ (mo_isv τ (nI W) v (m + 1)).2) ∧ mo_hold τ ((30 : Int32) * nI W + nI (m + 1)) v) := rfl
    rw [e]
    dsimp only
    rw [hnew, hold (m + 1) hm, i1, i2]
    have mono := fun j (hj : j ≤ m) => tk_tm_mono r n s m j hj
    clear e hnew i1 i2 x1 x2 x3 y3 z3 hold
    rcases tk_tm_s r n s m with q | q
    · rw [q]
      have nq : ¬ tk_tm r n s m = tk_tm r n s m + 1 := by omega
      refine ⟨⟨?_, fun ⟨t, ht, z⟩ => Or.inl ⟨t, ht, fun j hj => z j (by omega)⟩⟩, ⟨?_, fun z => ⟨Or.inr (fun j hj => z j (by omega)), z (m + 1) (by omega) q⟩⟩⟩
      · rintro (⟨t, ht, z⟩ | ⟨z, -⟩)
        · refine ⟨t, ht, fun j hj e => ?_⟩
          by_cases c : j = m + 1
          · subst c; omega
          · exact z j (by omega) e
        · exact absurd z nq
      · rintro ⟨z1 | z1, z2⟩ j hj e
        · exact absurd z1 nq
        · by_cases c : j = m + 1
          · subst c; exact z2
          · exact z1 j (by omega) e
    · rw [q]
      refine ⟨⟨?_, ?_⟩, ⟨fun z j hj e => ?_, fun z => ⟨Or.inl rfl, z (m + 1) (by omega) q⟩⟩⟩
      · rintro (⟨t, ht, z⟩ | ⟨-, z⟩)
        · refine ⟨t, by omega, fun j hj e => ?_⟩
          by_cases c : j = m + 1
          · subst c; omega
          · exact z j (by omega) e
        · refine ⟨tk_tm r n s m, by omega, fun j hj e => ?_⟩
          by_cases c : j = m + 1
          · subst c; omega
          · exact z j (by omega) e
      · rintro ⟨t, ht, z⟩
        by_cases c : t = tk_tm r n s m
        · subst c; exact Or.inr ⟨rfl, fun j hj => z j (by omega)⟩
        · exact Or.inl ⟨t, by omega, fun j hj => z j (by omega)⟩
      · by_cases c : j = m + 1
        · subst c; exact z.2
        · have := mono j (by omega); omega
/-- a warning that is as it was -/
theorem iv_w_c {σ υ : mo_M} {P w : Nat} (hw : w < 20) (e39 : υ.1 39 w = σ.1 39 w) (e40 : υ.1 40 w = σ.1 40 w) (e41 : υ.1 41 w = σ.1 41 w) (e73 : υ.1 73 0 w = σ.1 73 0 w) (e74 : υ.1 74 0 w = σ.1 74 0 w) (e78 : υ.1 78 0 w = σ.1 78 0 w) (h : ∀ i, i < 30 * w + 30 → υ.1 75 0 i = σ.1 75 0 i ∧ υ.1 76 0 i = σ.1 76 0 i ∧ υ.1 77 0 i = σ.1 77 0 i) (hi : iv_w σ P w) : iv_w υ P w := by
  obtain ⟨x1, x2, x3, x4, x5, x6⟩ := hi
  unfold iv_w
  rw [e39, e40, e41, e73, e74, e78]
  refine ⟨x1, x2, x3, x4, x5, fun v v1 v2 => ?_⟩
  rw [isv_c hw h x5.2]
  exact x6 v v1 v2
/-- all but warnings and tape -/
theorem iv_six {σ υ : mo_M} {P M L H J U : Nat} (H1 : ∀ o, o ≠ 0 → (o < 30 ∨ (51 ≤ o ∧ o ≤ 72)) → υ.1 o 0 = σ.1 o 0) (H2 : ∀ f, f < 30 → f ≠ 0 → υ.1 50 0 f = σ.1 50 0 f) (h1 : iv_P σ P) (h2 : iv_M σ P M) (h3 : iv_L σ M L) (h4 : iv_H σ M H) (h5 : iv_J σ P J) (h6 : iv_U σ P U) : iv_P υ P ∧ iv_M υ P M ∧ iv_L υ M L ∧ iv_H υ M H ∧ iv_J υ P J ∧ iv_U υ P U := by
  refine ⟨?_, ?_, ?_, ?_, ?_, ?_⟩
  · unfold iv_P
    rw [H1 1 (by decide) (by decide), H1 2 (by decide) (by decide), H1 51 (by decide) (by decide), H2 1 (by decide) (by decide)]
    exact h1
  · unfold iv_M
    rw [H1 3 (by decide) (by decide), H1 4 (by decide) (by decide), H1 5 (by decide) (by decide), H1 52 (by decide) (by decide), H1 53 (by decide) (by decide), H2 2 (by decide) (by decide)]
    exact h2
  · unfold iv_L
    rw [H1 6 (by decide) (by decide), H1 7 (by decide) (by decide), H1 8 (by decide) (by decide), H1 9 (by decide) (by decide), H1 10 (by decide) (by decide), H1 11 (by decide) (by decide), H1 54 (by decide) (by decide), H1 55 (by decide) (by decide), H1 56 (by decide) (by decide), H1 57 (by decide) (by decide), H1 58 (by decide) (by decide), H2 6 (by decide) (by decide)]
    exact h3
  · unfold iv_H
    rw [H1 12 (by decide) (by decide), H1 13 (by decide) (by decide), H1 14 (by decide) (by decide), H1 15 (by decide) (by decide), H1 16 (by decide) (by decide), H1 17 (by decide) (by decide), H1 59 (by decide) (by decide), H1 60 (by decide) (by decide), H1 61 (by decide) (by decide), H1 62 (by decide) (by decide), H1 63 (by decide) (by decide), H2 12 (by decide) (by decide)]
    exact h4
  · unfold iv_J
    rw [H1 18 (by decide) (by decide), H1 19 (by decide) (by decide), H1 20 (by decide) (by decide), H1 21 (by decide) (by decide), H1 22 (by decide) (by decide), H1 64 (by decide) (by decide), H1 65 (by decide) (by decide), H1 66 (by decide) (by decide), H1 67 (by decide) (by decide), H2 18 (by decide) (by decide)]
    exact h5
  · unfold iv_U
    rw [H1 23 (by decide) (by decide), H1 24 (by decide) (by decide), H1 25 (by decide) (by decide), H1 26 (by decide) (by decide), H1 27 (by decide) (by decide), H1 68 (by decide) (by decide), H1 69 (by decide) (by decide), H1 70 (by decide) (by decide), H2 19 (by decide) (by decide)]
    exact h6
theorem tk_rd1 {r : Nat → Int32} {n : Nat} {a : Int} (h : tk_rd r n a = -1) (hn : n < 1000) : tk_wd r n [98, 97, 100] (tk_s0 r n) ∧ tk_num r n (a - 1) (tk_N r n (tk_s0 r n)) ∧ tk_fl r n (tk_N r n (tk_N r n (tk_s0 r n))) = -1 := by
  have l0 : tk_s0 r n ≤ n := (mo_tS_le r (Nat.zero_le n)).2
  have l1 := tk_N_le r l0
  unfold tk_rd at h
  by_cases c : tk_wd r n [98, 97, 100] (tk_s0 r n)
  · rw [mo_ite_t c] at h
    by_cases c2 : tk_num r n (a - 1) (tk_N r n (tk_s0 r n))
    · rw [mo_ite_t c2] at h
      exact ⟨c, c2, h⟩
    · rw [mo_ite_f c2] at h
      exact absurd h (mo_nIm (by omega))
  · rw [mo_ite_f c] at h
    exact absurd h (mo_nIm (by omega))
/-- what the reference sees, and what holds behind it -/
theorem wn_ref {σ τ : mo_M} {P M L H J U T W : Nat} {x : Int32} (hA : iv_A σ P M L H J U T W) (hW : W < 20) (HA : ∀ o, o ≠ 0 → o ≠ 30 → o ≠ 32 → (o < 39 ∨ 41 < o) → τ.1 o 0 = σ.1 o 0) (HB : ∀ o w, (o = 39 ∨ o = 40 ∨ o = 41) → w ≠ W → τ.1 o w = σ.1 o w) (HC : τ.1 39 W 4 = 0) (HD : τ.1 30 0 1 = 0) (HE : τ.1 0 0 13 = tk_rd (σ.1 31 0) T P)
    (hx : (tk_rd (σ.1 31 0) T P = -1 ∧ x = nI W ∧ τ.1 0 0 12 = nI (W + 1) ∧ τ.1 0 0 14 = 0 ∧ τ.1 39 W 3 = nI (tk_nv (σ.1 31 0) T (tk_N (σ.1 31 0) T (tk_s0 (σ.1 31 0) T))) ∧ τ.1 39 W 2 = nI (tk_tm (σ.1 31 0) T (tk_N (σ.1 31 0) T (tk_N (σ.1 31 0) T (tk_s0 (σ.1 31 0) T))) (tk_J (σ.1 31 0) T (tk_N (σ.1 31 0) T (tk_N (σ.1 31 0) T (tk_s0 (σ.1 31 0) T)))) + 1) ∧ mo_sem τ (σ.1 31 0) T (tk_N (σ.1 31 0) T (tk_N (σ.1 31 0) T (tk_s0 (σ.1 31 0) T))) W (tk_J (σ.1 31 0) T (tk_N (σ.1 31 0) T (tk_N (σ.1 31 0) T (tk_s0 (σ.1 31 0) T))) + 1) (tk_tm (σ.1 31 0) T (tk_N (σ.1 31 0) T (tk_N (σ.1 31 0) T (tk_s0 (σ.1 31 0) T))) (tk_J (σ.1 31 0) T (tk_N (σ.1 31 0) T (tk_N (σ.1 31 0) T (tk_s0 (σ.1 31 0) T)))) + 1)) ∨ (¬ tk_rd (σ.1 31 0) T P = -1 ∧ x = -6 ∧ τ.1 0 0 12 = nI W ∧ τ.1 0 0 14 = -6)) : S_X12_warning [.inr (.inr (50, 0))] τ (fun r' υ => some (.inl x) = r' ∧ iv υ) := by
  obtain ⟨h1, h2, h3, h4, h5, h6, h7, h8, h9⟩ := id hA
  have hP := h1.2.2.1
  have hT := h7.2.2.1
  have e50 := HA 50 (by decide) (by decide) (by decide) (by decide)
  have e72 := HA 72 (by decide) (by decide) (by decide) (by decide)
  have htq := iv_tq h7
  have eT : (τ.1 50 0 30).toNatClampNeg = T := by rw [e50]; exact iv_cl h7.2.1 (by omega)
  have eW : (τ.1 50 0 36).toNatClampNeg = W := by rw [e50]; exact iv_cl h8.2.1 (by omega)
  have eP : (τ.1 50 0 1).toInt = (P : Int) := by rw [e50, h1.2.1]; exact nI_toInt (by omega)
  have erd : tk_rd (τ.1 72 0) (τ.1 50 0 30).toNatClampNeg (τ.1 50 0 1).toInt = tk_rd (σ.1 31 0) T P := by rw [e72, eT, eP, tq_rd htq]
  refine ⟨rfl, ⟨by rw [e50]; exact iv_le h7.2.1 hT (by omega), by rw [e50]; exact iv_le h8.2.1 h8.2.2.1 (by omega), by rw [e50]; exact iv_le h1.2.1 hP (by omega)⟩, fun q => ?_, fun _ υ hυ => ?_⟩
  · rw [e50, h8.2.1, show (20 : Int32) = nI 20 from rfl, nI_eq (by omega) (by omega)] at q
    omega
  obtain ⟨-, m2, m3, m4, m5, m6, m7, m8, m9⟩ := hυ
  rw [eW] at m3 m4 m8 m9
  rw [erd] at m7 m8 m9
  have U1 : ∀ o, o ≠ 50 → (o < 73 ∨ 78 < o) → ∀ b, υ.1 o b = τ.1 o b := fun o q1 q2 b => m2 o b (by omega) (by omega) (by omega) (by omega) (by omega) (by omega) (by omega)
  have s6 := iv_six (υ := υ) (fun o q1 q2 => (U1 o (by omega) (by omega) 0).trans (HA o q1 (by omega) (by omega) (by omega))) (fun f q1 q2 => by rw [m5 f (by omega) (by omega) (by omega) (by omega) (by omega) (by omega) (by omega) (by omega) (by omega) (by omega), e50]) h1 h2 h3 h4 h5 h6
  have iT : iv_T υ 0 := ⟨by rw [U1 30 (by decide) (by decide)]; exact HD, m6, by omega, fun i hi => absurd hi (by omega)⟩
  have old : ∀ w, w < W → iv_w υ P w := by
    intro w hw
    obtain ⟨y1, y2, y3⟩ := m4 w (by omega)
    refine iv_w_c (σ := σ) (by omega) ?_ ?_ ?_ ?_ ?_ ?_ (fun i hi => ?_) (h8.2.2.2.1 w hw)
    · rw [U1 39 (by decide) (by decide), HB 39 w (by decide) (by omega)]
    · rw [U1 40 (by decide) (by decide), HB 40 w (by decide) (by omega)]
    · rw [U1 41 (by decide) (by decide), HB 41 w (by decide) (by omega)]
    · rw [y1, HA 73 (by decide) (by decide) (by decide) (by decide)]
    · rw [y2, HA 74 (by decide) (by decide) (by decide) (by decide)]
    · rw [y3, HA 78 (by decide) (by decide) (by decide) (by decide)]
    · obtain ⟨z1, z2, z3⟩ := m3 i (by omega)
      rw [z1, z2, z3, HA 75 (by decide) (by decide) (by decide) (by decide), HA 76 (by decide) (by decide) (by decide) (by decide), HA 77 (by decide) (by decide) (by decide) (by decide)]
      exact ⟨rfl, rfl, rfl⟩
  have told : ∀ w, W ≤ w → w < 20 → υ.1 39 w 4 = 0 := by
    intro w q1 q2
    rw [U1 39 (by decide) (by decide)]
    by_cases c : w = W
    · rw [c]; exact HC
    · rw [HB 39 w (by decide) c]; exact h8.2.2.2.2 w q1 q2
  have e0 : υ.1 0 0 = τ.1 0 0 := U1 0 (by decide) (by decide) 0
  rcases hx with ⟨x1, x2, x3, x4, x5, x6, x7⟩ | ⟨x1, x2, x3, x4⟩
  · obtain ⟨w1, w2, w3, w4, w5, w6, w7⟩ := m9 x1
    obtain ⟨r1, r2, r3⟩ := tk_rd1 x1 (by omega)
    rw [e72, eT, ← tq_s0 htq, ← tq_N htq, ← tq_N htq] at w4 w6 w7
    rw [e72, eT, ← tq_s0 htq, ← tq_N htq, ← tq_nv htq r2.1] at w3
    rw [← tq_J htq] at w4 w6 w7
    generalize hs : tk_N (σ.1 31 0) T (tk_N (σ.1 31 0) T (tk_s0 (σ.1 31 0) T)) = s at *
    generalize hj : tk_J (σ.1 31 0) T s = K at *
    have w7' : mo_rows υ (σ.1 31 0) T s W (K + 1) := fun j hj => by
      obtain ⟨z1, z2, z3⟩ := w7 j hj
      rw [← tq_ps htq, ← tq_tst htq] at z1 z2
      rw [← tq_tm htq] at z3
      exact ⟨z1, z2, z3⟩
    have htm := tk_tm_le (σ.1 31 0) T s K
    refine ⟨?_, P, M, L, H, J, U, 0, W + 1, s6.1, s6.2.1, s6.2.2.1, s6.2.2.2.1, s6.2.2.2.2.1, s6.2.2.2.2.2, iT, ⟨by rw [e0]; exact x3, w1, by omega, fun w hw => ?_, fun w q1 q2 => told w (by omega) q2⟩, by rw [m7, e0, HE], by rw [w2, e0, x4]⟩
    · rw [erd, mo_ite_t x1, x2, e50, h8.2.1]
    · by_cases c : w < W
      · exact old w c
      · have ew : w = W := by omega
        subst ew
        have e39 := U1 39 (by decide) (by decide) w
        have e40 := U1 40 (by decide) (by decide) w
        have e41 := U1 41 (by decide) (by decide) w
        unfold iv_w
        rw [e39, e40, e41, w3, x5, w5, HC, x6, w4]
        have hv : vp_in (nI (tk_nv (σ.1 31 0) T (tk_N (σ.1 31 0) T (tk_s0 (σ.1 31 0) T)))) P := mo_inN (by have := r2.2; omega) (by omega)
        refine ⟨rfl, hv, rfl, iv_le rfl (by omega) (by omega), iv_le rfl (by omega) (by omega), fun v v1 v2 => ?_⟩
        rw [mo_cl (show K + 1 < 1000000 by omega), mo_cl (show tk_tm (σ.1 31 0) T s K + 1 < 1000000 by omega)]
        obtain ⟨g1, g2⟩ := wn_isv (v := v) w7' w6 hW K (Nat.le_refl _)
        rw [g1, g2]
        constructor
        · rintro ⟨t, ht, z⟩
          have z := (x7 v v1 v2 t ht).mp z
          by_cases c2 : t = tk_tm (σ.1 31 0) T s K
          · subst c2; exact Or.inr z
          · exact Or.inl ⟨t, by omega, z⟩
        · rintro (⟨t, ht, z⟩ | z)
          · exact ⟨t, by omega, (x7 v v1 v2 t (by omega)).mpr z⟩
          · exact ⟨tk_tm (σ.1 31 0) T s K, by omega, (x7 v v1 v2 _ (by omega)).mpr z⟩
  · obtain ⟨w1, w2, w3, w4, w5⟩ := m8 x1
    refine ⟨?_, P, M, L, H, J, U, 0, W, s6.1, s6.2.1, s6.2.2.1, s6.2.2.2.1, s6.2.2.2.2.1, s6.2.2.2.2.2, iT, ⟨by rw [e0]; exact x3, w1, by omega, old, told⟩, by rw [m7, e0, HE], by rw [w2, e0, x4]⟩
    rw [erd, mo_ite_f x1, x2]
theorem iv_warning : iv_op S_X11_warning S_X12_warning [.inr (.inr (0, 0))] [.inr (.inr (50, 0))] := by
  intro σ h
  obtain ⟨P, M, L, H, J, U, T, W, hA⟩ := id h
  obtain ⟨h1, h2, h3, h4, h5, h6, h7, h8, h9⟩ := id hA
  have hP := h1.2.2.1
  have hT := h7.2.2.1
  have hW := h8.2.2.1
  have eW : (σ.1 0 0 12).toNatClampNeg = W := iv_cl h8.1 (by omega)
  have eT : mo_cn σ = T := iv_cl h7.1 (by omega)
  have eP : (σ.1 1 0 1).toInt = (P : Int) := by rw [h1.1]; exact nI_toInt (by omega)
  have hc : σ.1 0 0 12 < (20 : Int32) ↔ W < 20 := by rw [h8.1, show (20 : Int32) = nI 20 from rfl, nI_ltI (by omega) (by omega)]
  refine ⟨rfl, fun q => ?_, fun q => ?_⟩
  · have hW2 := hc.mp q
    refine ⟨by rw [h8.1]; exact mo_inN hW2 (by decide), ⟨iv_le h7.1 hT (by omega), by omega, by rw [h1.1]; exact nI_pos' (by omega), by rw [h1.1, show (30 : Int32) = nI 30 from rfl, nI_leI (by omega) (by omega)]; exact hP⟩, fun τ hτ => ?_⟩
    rw [eT, eP, eW] at hτ
    rw [eT, eP]
    obtain ⟨⟨-, f2, f3⟩, hE⟩ := hτ
    have F : ∀ o, o ≠ 32 → (o < 39 ∨ 41 < o) → τ.1 o 0 = σ.1 o 0 := fun o q1 q2 => f2 o 0 (by omega) (by omega) (by omega) (by omega)
    have FB : ∀ o w, (o = 39 ∨ o = 40 ∨ o = 41) → w ≠ W → τ.1 o w = σ.1 o w := fun o w q1 q2 => f2 o w (by omega) (by omega) (by omega) (by omega)
    have e12 : τ.1 0 0 12 = nI W := by rw [F 0 (by decide) (by decide)]; exact h8.1
    refine ⟨fun e => ?_, fun e => ?_⟩
    · obtain ⟨g1, g2, g3, g4⟩ := hE e
      unfold mo_cs2 at g2 g3 g4
      unfold mo_cs1v at g1
      rw [eT] at g1 g2 g3 g4
      refine wn_ref hA hW2 (fun o q1 q2 q3 q4 => ?_) (fun o w q1 q2 => ?_) ?_ rfl ?_ (Or.inl ⟨e, ?_, ?_, rfl, g1, g2, g4⟩)
      · rw [mo_wI_o _ _ _ _ _ o 0 (by omega), mo_wI_o _ _ _ _ _ o 0 (by omega), mo_wI_o _ _ _ _ _ o 0 (by omega), mo_wI_o _ _ _ _ _ o 0 (by omega)]
        exact F o q3 q4
      · rw [mo_wI_o _ _ _ _ _ o w (by omega), mo_wI_o _ _ _ _ _ o w (by omega), mo_wI_o _ _ _ _ _ o w (by omega), mo_wI_o _ _ _ _ _ o w (by omega)]
        exact FB o w q1 q2
      · show τ.1 39 W 4 = 0
        rw [f3]; exact h8.2.2.2.2 W (Nat.le_refl _) hW2
      · rfl
      · rw [e12, nI_1, nI_pred]
      · show τ.1 0 0 12 + 1 = nI (W + 1)
        rw [e12, nI_1]
    · refine wn_ref hA hW2 (fun o q1 q2 q3 q4 => ?_) (fun o w q1 q2 => ?_) ?_ rfl ?_ (Or.inr ⟨e, rfl, e12, rfl⟩)
      · rw [mo_wI_o _ _ _ _ _ o 0 (by omega), mo_wI_o _ _ _ _ _ o 0 (by omega), mo_wI_o _ _ _ _ _ o 0 (by omega)]
        exact F o q3 q4
      · rw [mo_wI_o _ _ _ _ _ o w (by omega), mo_wI_o _ _ _ _ _ o w (by omega), mo_wI_o _ _ _ _ _ o w (by omega)]
        exact FB o w q1 q2
      · show τ.1 39 W 4 = 0
        rw [f3]; exact h8.2.2.2.2 W (Nat.le_refl _) hW2
      · rfl
  · have hW2 : W = 20 := by
      have : ¬ W < 20 := fun z => q (hc.mpr z)
      omega
    refine ⟨rfl, ⟨iv_le h7.2.1 hT (by omega), iv_le h8.2.1 hW (by omega), iv_le h1.2.1 hP (by omega)⟩, fun _ => ⟨rfl, ?_⟩, fun z => absurd (show σ.1 50 0 36 = (20 : Int32) by rw [h8.2.1, hW2]; rfl) z⟩
    exact ⟨P, M, L, H, J, U, 0, W, h1, h2, h3, h4, h5, h6, ⟨rfl, rfl, by omega, fun i hi => absurd hi (by omega)⟩, h8, h9.1, rfl⟩
