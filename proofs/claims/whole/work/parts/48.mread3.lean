noncomputable def mo_mtst (σ : mo_M) : Prop × Nat × Nat × Nat := tk_tst (σ.1 72 0) (mo_mz σ) (mo_mp σ)
def mo_tw (σ : mo_M) (a b : Int32) : mo_M := mo_wI (mo_wI (mo_wI σ 75 0 ((30 : Int32) * σ.1 50 0 36 + σ.1 50 0 43).toNatClampNeg a) 76 0 ((30 : Int32) * σ.1 50 0 36 + σ.1 50 0 43).toNatClampNeg b) 77 0 ((30 : Int32) * σ.1 50 0 36 + σ.1 50 0 43).toNatClampNeg (σ.1 50 0 44)
def mo_mtp (σ : mo_M) (ρ : Nat → Int32) (s : Nat) : Prop := s ≤ mo_mz σ ∧ ρ 32 = nI s ∧ ρ 33 = nI (mo_tE (σ.1 72 0) (mo_mz σ) s) ∧ ρ 43 = σ.1 50 0 43 + 1 ∧ ∀ k, k ≠ 32 → k ≠ 33 → k ≠ 43 → ρ k = σ.1 50 0 k
noncomputable def mo_mpos (σ : mo_M) : Nat := mo_ite (σ.1 50 0 43 = (30 : Int32)) (mo_mp σ) (mo_mtst σ).2.1
def S_X12_test : mo_S := fun as σ Q => as = [.inr (.inr (50, 0))] ∧ ((mo_mS σ ∧ σ.1 50 0 35 = (-1 : Int32) ∧ mo_le (σ.1 50 0 43) 30 ∧ vp_in (σ.1 50 0 36) 20) ∧ (((mo_mtst σ).1 ∧ ¬ σ.1 50 0 43 = (30 : Int32) → (∀ ρ : Nat → Int32, (mo_mtp σ ρ (mo_mtst σ).2.1) → Q (none) (mo_rowI (mo_tw σ (nI (mo_mtst σ).2.2.1) (nI (mo_mtst σ).2.2.2)) 50 0 ρ))) ∧ (¬ ((mo_mtst σ).1 ∧ ¬ σ.1 50 0 43 = (30 : Int32)) → (∀ ρ : Nat → Int32, (mo_mfl σ ρ (mo_mpos σ)) → Q (none) (mo_rowI σ 50 0 ρ)))))
theorem m_X12_test : ∀ (as : List mo_V) (σ : mo_M) (P P' : mo_Q), (∀ x τ, P x τ → P' x τ) → S_X12_test as σ P → S_X12_test as σ P' := by
  rintro as σ P P' hm ⟨e, hq⟩
  exact ⟨e, ⟨hq.1, ⟨fun cc => fun ρ hz => hm _ _ ((hq.2.1 cc) ρ hz), fun cc => fun ρ hz => hm _ _ ((hq.2.2 cc) ρ hz)⟩⟩⟩

theorem mo_put_eq {σ : mo_M} {ρ : Nat → Int32} {s : Nat} (h : mo_mto σ ρ s) (a b : Int32) : mo_put (mo_rowI σ 50 0 ρ) a b = mo_rowI (mo_tw σ a b) 50 0 (upd ρ 43 (ρ 43 + 1)) := by
  have e36 : ρ 36 = σ.1 50 0 36 := h.2.2.2 36 (by decide) (by decide)
  have e43 : ρ 43 = σ.1 50 0 43 := h.2.2.2 43 (by decide) (by decide)
  have e44 : ρ 44 = σ.1 50 0 44 := h.2.2.2 44 (by decide) (by decide)
  have g36 : (mo_rowI σ 50 0 ρ).1 50 0 36 = σ.1 50 0 36 := e36
  have g43 : (mo_rowI σ 50 0 ρ).1 50 0 43 = σ.1 50 0 43 := e43
  have g44 : (mo_rowI σ 50 0 ρ).1 50 0 44 = σ.1 50 0 44 := e44
  unfold mo_put mo_tw
  rw [g36, g43, g44, mo_wrc _ _ _ _ _ (by decide), mo_wrc _ _ _ _ _ (by decide), mo_wrc _ _ _ _ _ (by decide), mo_rowI_w, e43]
theorem mo_atin {x y : Int32} (hx : vp_in x 20) (hy : mo_le y 30) (h : ¬ y = (30 : Int32)) : vp_in ((30 : Int32) * x + y) 600 := by
  have := mo_inI hx
  have h2 := hy.2
  rw [hy.1, show (30 : Int32) = nI 30 from rfl, nI_eq (by omega) (by omega)] at h
  rw [this.1, hy.1, show (30 : Int32) = nI 30 from rfl, pk_mul, nI_add]
  exact mo_inN (by omega) (by decide)
set_option maxHeartbeats 4000000 in
theorem ct_X12_test : mo_ct yX12_test t_X12_test S_X12_test := mo_ct_imp ctT_X12_test (by
  rintro as σ Q ⟨rfl, ⟨hS, hg, ht, hw⟩, hok, hbad⟩
  refine ⟨rfl, ?_⟩
  have hl := hS.1
  have hmn : mo_mz σ ≤ 200 := hl.2
  have hE := mo_tE_le (σ.1 72 0) hS.2.1
  have hc33 : (σ.1 50 0 33).toNatClampNeg = mo_tE (σ.1 72 0) (mo_mz σ) (mo_mp σ) := by rw [hS.2.2.2]; exact mo_cl (by omega)
  have hN : mo_tS (σ.1 72 0) (mo_mz σ) (σ.1 50 0 33).toNatClampNeg = mo_mN σ := by rw [hc33]; rfl
  have d60 : ¬ (48 ≤ (60 : Int32) ∧ (60 : Int32) ≤ 57) ∧ ¬ (97 ≤ (60 : Int32) ∧ (60 : Int32) ≤ 122) := by decide
  have d61 : ¬ (48 ≤ (61 : Int32) ∧ (61 : Int32) ≤ 57) ∧ ¬ (97 ≤ (61 : Int32) ∧ (61 : Int32) ≤ 122) := by decide
  have d62 : ¬ (48 ≤ (62 : Int32) ∧ (62 : Int32) ≤ 57) ∧ ¬ (97 ≤ (62 : Int32) ∧ (62 : Int32) ≤ 122) := by decide
  have suc1 : ∀ (ρ : Nat → Int32) (p : Nat) (a b : Int32), ¬ σ.1 50 0 43 = (30 : Int32) → (mo_mtst σ).1 → (mo_mtst σ).2.1 = p → nI (mo_mtst σ).2.2.1 = a → nI (mo_mtst σ).2.2.2 = b → mo_mto σ ρ p → ((mo_rowI σ 50 0 ρ).1 50 0 35 = (-1 : Int32) → vp_in ((30 : Int32) * (mo_rowI σ 50 0 ρ).1 50 0 36 + (mo_rowI σ 50 0 ρ).1 50 0 43) 600 ∧ Q none (mo_put (mo_rowI σ 50 0 ρ) a b)) ∧ (¬ (mo_rowI σ 50 0 ρ).1 50 0 35 = (-1 : Int32) → Q none (mo_rowI σ 50 0 ρ)) := by
    rintro ρ p a b q0 q1 rfl rfl rfl hρ
    have g35 : (mo_rowI σ 50 0 ρ).1 50 0 35 = σ.1 50 0 35 := hρ.2.2.2 35 (by decide) (by decide)
    have g36 : (mo_rowI σ 50 0 ρ).1 50 0 36 = σ.1 50 0 36 := hρ.2.2.2 36 (by decide) (by decide)
    have g43 : (mo_rowI σ 50 0 ρ).1 50 0 43 = σ.1 50 0 43 := hρ.2.2.2 43 (by decide) (by decide)
    refine ⟨fun _ => ⟨by rw [g36, g43]; exact mo_atin hw ht q0, ?_⟩, fun z => absurd (g35.trans hg) z⟩
    rw [mo_put_eq hρ]
    obtain ⟨r1, r2, r3, r4⟩ := hρ
    refine hok ⟨q1, q0⟩ _ ⟨r1, ?_, ?_, ?_, fun k a b c => ?_⟩
    · rw [show upd ρ 43 (ρ 43 + 1) 32 = ρ 32 from by simp [upd]]; exact r2
    · rw [show upd ρ 43 (ρ 43 + 1) 33 = ρ 33 from by simp [upd]]; exact r3
    · rw [show upd ρ 43 (ρ 43 + 1) 43 = ρ 43 + 1 from by simp [upd], r4 43 (by decide) (by decide)]
    · rw [show upd ρ 43 (ρ 43 + 1) k = ρ k from by simp [upd, c]]; exact r4 k a b
  have suc : ∀ (c p : Nat) (ρ : Nat → Int32), ¬ σ.1 50 0 43 = (30 : Int32) → mo_mtst σ = ((tk_ver (σ.1 72 0) (mo_mz σ) p).1, (tk_ver (σ.1 72 0) (mo_mz σ) p).2.1, c, (tk_ver (σ.1 72 0) (mo_mz σ) p).2.2) → (tk_ver (σ.1 72 0) (mo_mz σ) p).1 → mo_mto σ ρ (tk_ver (σ.1 72 0) (mo_mz σ) p).2.1 → ((mo_rowI σ 50 0 ρ).1 50 0 35 = (-1 : Int32) → vp_in ((30 : Int32) * (mo_rowI σ 50 0 ρ).1 50 0 36 + (mo_rowI σ 50 0 ρ).1 50 0 43) 600 ∧ Q none (mo_put (mo_rowI σ 50 0 ρ) (nI c) (nI (tk_ver (σ.1 72 0) (mo_mz σ) p).2.2))) ∧ (¬ (mo_rowI σ 50 0 ρ).1 50 0 35 = (-1 : Int32) → Q none (mo_rowI σ 50 0 ρ)) :=
    fun c p ρ q0 e q1 hρ => suc1 ρ _ _ _ q0 (by rw [e]; exact q1) (by rw [e]) (by rw [e]) (by rw [e]) hρ
  have bad : ∀ (c p : Nat) (ρ : Nat → Int32) (a b : Int32), ¬ σ.1 50 0 43 = (30 : Int32) → mo_mtst σ = ((tk_ver (σ.1 72 0) (mo_mz σ) p).1, (tk_ver (σ.1 72 0) (mo_mz σ) p).2.1, c, (tk_ver (σ.1 72 0) (mo_mz σ) p).2.2) → ¬ (tk_ver (σ.1 72 0) (mo_mz σ) p).1 → mo_mfl σ ρ (tk_ver (σ.1 72 0) (mo_mz σ) p).2.1 → ((mo_rowI σ 50 0 ρ).1 50 0 35 = (-1 : Int32) → vp_in ((30 : Int32) * (mo_rowI σ 50 0 ρ).1 50 0 36 + (mo_rowI σ 50 0 ρ).1 50 0 43) 600 ∧ Q none (mo_put (mo_rowI σ 50 0 ρ) a b)) ∧ (¬ (mo_rowI σ 50 0 ρ).1 50 0 35 = (-1 : Int32) → Q none (mo_rowI σ 50 0 ρ)) := by
    intro c p ρ a b q0 e q1 hρ
    refine ⟨fun z => absurd z (mo_flm hl hρ), fun _ => hbad (fun z => q1 (by have := z.1; rw [e] at this; exact this)) ρ ?_⟩
    have hp : mo_mpos σ = (tk_ver (σ.1 72 0) (mo_mz σ) p).2.1 := (mo_ite_f q0).trans (by rw [e])
    rw [hp]; exact hρ
  have flt : ∀ p, mo_mpos σ = p → p = mo_mp σ → ¬ ((mo_mtst σ).1 ∧ ¬ σ.1 50 0 43 = (30 : Int32)) → Q none (mo_wI σ 50 0 35 (σ.1 50 0 32)) := by
    rintro p e rfl q
    rw [mo_wI_row]
    refine hbad q _ ?_
    rw [e]
    refine ⟨hS.2.1, ?_, fun k a b c => ?_⟩
    · simp [upd]; exact hS.2.2.1
    · simp [upd, c]
  simp only [mo_rr50]
  refine ⟨⟨hS, Or.inr (Or.inr (Or.inr rfl))⟩, ⟨hS, d60⟩, ⟨hS, d62⟩, fun q0 => ⟨fun z => absurd hg z, fun _ => flt _ (mo_ite_t q0) rfl (fun z => z.2 q0)⟩, fun q0 => ⟨fun qa => ⟨mo_mS_pre hS, fun ρ1 h1 => ?_⟩, fun qa => ⟨fun qb => ⟨mo_mS_pre hS, fun ρ2 h2 => ?_⟩, fun qb => ⟨fun qc => ⟨mo_mS_pre hS, fun ρ8 h8 => ?_⟩, fun qc => ⟨⟨hS, d61⟩, fun qd => ⟨mo_mS_pre hS, fun ρ14 h14 => ?_⟩, fun qd => ⟨fun z => absurd hg z, fun _ => ?_⟩⟩⟩⟩⟩⟩
  · have e : mo_mtst σ = (True, mo_mN σ, 5, 0) := mo_ite_t qa
    rw [hN] at h1
    exact suc1 ρ1 _ _ _ q0 (by rw [e]; trivial) (by rw [e]) (by rw [e]; rfl) (by rw [e]; rfl) h1
  · rw [hN] at h2
    obtain ⟨m1, m2, m3, m4, m5, m6, m7, m8, m9, m10, m11, -⟩ := mo_mst hl h2
    have mv : mo_mver (mo_rowI σ 50 0 ρ2) = tk_ver (σ.1 72 0) (mo_mz σ) (mo_mN σ) := by unfold mo_mver; rw [m7, m8]; rfl
    refine ⟨⟨m1, d61⟩, fun qe => ⟨⟨m1, m2.trans hg⟩, fun qv ρ3 h3 => ?_, fun qv ρ4 v h4 => ?_⟩, fun qe => ⟨mo_mS_pre m1, fun ρ5 h5 => ?_⟩⟩
    · rw [m3] at qe; rw [mv] at qv h3 ⊢
      exact suc 0 _ ρ3 q0 ((mo_ite_f qa).trans ((mo_ite_t qb).trans (mo_ite_f qe))) qv (m10 _ _ h3)
    · rw [m3] at qe; rw [mv] at qv h4
      exact bad 0 _ ρ4 _ _ q0 ((mo_ite_f qa).trans ((mo_ite_t qb).trans (mo_ite_f qe))) qv (m11 _ _ h4)
    · rw [m3] at qe
      rw [m8, m9] at h5
      have h5 : mo_mto σ ρ5 (tk_N (σ.1 72 0) (mo_mz σ) (mo_mN σ)) := m10 _ _ h5
      obtain ⟨n1, n2, n3, n4, n5, n6, n7, n8, n9, n10, n11, -⟩ := mo_mst hl h5
      have nv : mo_mver (mo_rowI σ 50 0 ρ5) = tk_ver (σ.1 72 0) (mo_mz σ) (tk_N (σ.1 72 0) (mo_mz σ) (mo_mN σ)) := by unfold mo_mver; rw [n7, n8]; rfl
      refine ⟨⟨n1, n2.trans hg⟩, fun qv ρ6 h6 => ?_, fun qv ρ7 v h7 => ?_⟩
      · rw [nv] at qv h6 ⊢
        exact suc 1 _ ρ6 q0 ((mo_ite_f qa).trans ((mo_ite_t qb).trans (mo_ite_t qe))) qv (n10 _ _ h6)
      · rw [nv] at qv h7
        exact bad 1 _ ρ7 _ _ q0 ((mo_ite_f qa).trans ((mo_ite_t qb).trans (mo_ite_t qe))) qv (n11 _ _ h7)
  · rw [hN] at h8
    obtain ⟨m1, m2, m3, m4, m5, m6, m7, m8, m9, m10, m11, -⟩ := mo_mst hl h8
    have mv : mo_mver (mo_rowI σ 50 0 ρ8) = tk_ver (σ.1 72 0) (mo_mz σ) (mo_mN σ) := by unfold mo_mver; rw [m7, m8]; rfl
    refine ⟨⟨m1, d61⟩, fun qe => ⟨⟨m1, m2.trans hg⟩, fun qv ρ3 h3 => ?_, fun qv ρ4 v h4 => ?_⟩, fun qe => ⟨mo_mS_pre m1, fun ρ5 h5 => ?_⟩⟩
    · rw [m3] at qe; rw [mv] at qv h3 ⊢
      exact suc 2 _ ρ3 q0 ((mo_ite_f qa).trans ((mo_ite_f qb).trans ((mo_ite_t qc).trans (mo_ite_f qe)))) qv (m10 _ _ h3)
    · rw [m3] at qe; rw [mv] at qv h4
      exact bad 2 _ ρ4 _ _ q0 ((mo_ite_f qa).trans ((mo_ite_f qb).trans ((mo_ite_t qc).trans (mo_ite_f qe)))) qv (m11 _ _ h4)
    · rw [m3] at qe
      rw [m8, m9] at h5
      have h5 : mo_mto σ ρ5 (tk_N (σ.1 72 0) (mo_mz σ) (mo_mN σ)) := m10 _ _ h5
      obtain ⟨n1, n2, n3, n4, n5, n6, n7, n8, n9, n10, n11, -⟩ := mo_mst hl h5
      have nv : mo_mver (mo_rowI σ 50 0 ρ5) = tk_ver (σ.1 72 0) (mo_mz σ) (tk_N (σ.1 72 0) (mo_mz σ) (mo_mN σ)) := by unfold mo_mver; rw [n7, n8]; rfl
      refine ⟨⟨n1, n2.trans hg⟩, fun qv ρ6 h6 => ?_, fun qv ρ7 v h7 => ?_⟩
      · rw [nv] at qv h6 ⊢
        exact suc 3 _ ρ6 q0 ((mo_ite_f qa).trans ((mo_ite_f qb).trans ((mo_ite_t qc).trans (mo_ite_t qe)))) qv (n10 _ _ h6)
      · rw [nv] at qv h7
        exact bad 3 _ ρ7 _ _ q0 ((mo_ite_f qa).trans ((mo_ite_f qb).trans ((mo_ite_t qc).trans (mo_ite_t qe)))) qv (n11 _ _ h7)
  · rw [hN] at h14
    obtain ⟨m1, m2, m3, m4, m5, m6, m7, m8, m9, m10, m11, -⟩ := mo_mst hl h14
    have mv : mo_mver (mo_rowI σ 50 0 ρ14) = tk_ver (σ.1 72 0) (mo_mz σ) (mo_mN σ) := by unfold mo_mver; rw [m7, m8]; rfl
    refine ⟨⟨m1, m2.trans hg⟩, fun qv ρ15 h15 => ?_, fun qv ρ16 v h16 => ?_⟩
    · rw [mv] at qv h15 ⊢
      exact suc 4 _ ρ15 q0 ((mo_ite_f qa).trans ((mo_ite_f qb).trans ((mo_ite_f qc).trans (mo_ite_t qd)))) qv (m10 _ _ h15)
    · rw [mv] at qv h16
      exact bad 4 _ ρ16 _ _ q0 ((mo_ite_f qa).trans ((mo_ite_f qb).trans ((mo_ite_f qc).trans (mo_ite_t qd)))) qv (m11 _ _ h16)
  · have e : mo_mtst σ = (False, mo_mp σ, 0, 0) := (mo_ite_f qa).trans ((mo_ite_f qb).trans ((mo_ite_f qc).trans (mo_ite_f qd)))
    exact flt _ ((mo_ite_f q0).trans (by rw [e])) rfl (fun z => by have := z.1; rw [e] at this; exact this))
