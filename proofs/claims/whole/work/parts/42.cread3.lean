def S_X7_readTest : mo_S := fun as σ Q => ∃ w : Nat, as = [.inr (.inr (32, 0)), .inr (.inr (39, w))] ∧ ((mo_cS σ ∧ w < 20 ∧ 0 < (σ.1 39 w 2).toNatClampNeg ∧ mo_le (σ.1 39 w 2) 30) ∧ (((mo_ctst σ).1 → (∀ ρ : Nat → Int32, ∀ x : Int32, ∀ y : Int32, (mo_cto σ ρ (mo_ctst σ).2.1 ∧ (∀ v : Int32, 0 ≤ v → v ≤ 999999999 → ((x ≤ v ∧ v ≤ y) ↔ (σ.1 40 w ((σ.1 39 w 2).toNatClampNeg - 1) ≤ v ∧ v ≤ σ.1 41 w ((σ.1 39 w 2).toNatClampNeg - 1)) ∧ tk_hd (mo_ctst σ).2.2.1 (nI (mo_ctst σ).2.2.2) v))) → Q (some (.inl (1 : Int32))) (mo_rowI (mo_wI (mo_wI σ 40 w (((σ.1 39 w 2).toNatClampNeg - 1)) x) 41 w (((σ.1 39 w 2).toNatClampNeg - 1)) y) 32 0 ρ))) ∧ (¬ (mo_ctst σ).1 → (∀ ρ : Nat → Int32, (mo_cto σ ρ (mo_ctst σ).2.1) → Q (some (.inl (0 : Int32))) (mo_rowI σ 32 0 ρ)))))
theorem m_X7_readTest : ∀ (as : List mo_V) (σ : mo_M) (P P' : mo_Q), (∀ x τ, P x τ → P' x τ) → S_X7_readTest as σ P → S_X7_readTest as σ P' := by
  rintro as σ P P' hm ⟨w, e, hq⟩
  exact ⟨w, e, ⟨hq.1, ⟨fun cc => fun ρ x y hz => hm _ _ ((hq.2.1 cc) ρ x y hz), fun cc => fun ρ hz => hm _ _ ((hq.2.2 cc) ρ hz)⟩⟩⟩

theorem mo_wrc (σ : mo_M) {o o' : Nat} (ρ : Nat → Int32) (w k : Nat) (v : Int32) (h : o ≠ o') : mo_wI (mo_rowI σ o 0 ρ) o' w k v = mo_rowI (mo_wI σ o' w k v) o 0 ρ := by
  refine Prod.ext ?_ rfl
  funext a b c
  show (if a = o' ∧ b = w ∧ c = k then v else (if a = o ∧ b = 0 then ρ else σ.1 a b) c) = (if a = o ∧ b = 0 then ρ else fun c => if a = o' ∧ b = w ∧ c = k then v else σ.1 a b c) c
  by_cases h1 : a = o ∧ b = 0
  · rw [if_pos h1, if_pos h1, if_neg (by omega)]
  · rw [if_neg h1, if_neg h1]
theorem mo_nar_r (σ : mo_M) (ρ : Nat → Int32) (w : Nat) (a b : Int32) : mo_nar (mo_rowI σ 32 0 ρ) w a b = mo_rowI (mo_nar σ w a b) 32 0 ρ := by
  unfold mo_nar
  rw [mo_wrc _ _ _ _ _ (by decide), mo_wrc _ _ _ _ _ (by decide)]
  rfl
theorem tk_num_le {r : Nat → Int32} {n s : Nat} (h : tk_num r n 999 s) : tk_nv r n s ≤ 999 := by have := h.2; omega
theorem tk_ver_le (r : Nat → Int32) (n s : Nat) : (tk_ver r n s).2.2 ≤ 999999999 := by
  unfold tk_ver
  by_cases q0 : tk_num r n 999 s
  · rw [mo_ite_t q0]
    have b0 := tk_num_le q0
    by_cases q1 : tk_sg r n 46 (tk_N r n s)
    · rw [mo_ite_t q1]
      by_cases q2 : tk_num r n 999 (tk_N r n (tk_N r n s))
      · rw [mo_ite_t q2]
        have b2 := tk_num_le q2
        by_cases q3 : tk_sg r n 46 (tk_N r n (tk_N r n (tk_N r n s)))
        · rw [mo_ite_t q3]
          by_cases q4 : tk_num r n 999 (tk_N r n (tk_N r n (tk_N r n (tk_N r n s))))
          · rw [mo_ite_t q4]
            have b4 := tk_num_le q4
            show _ * 1000000 + _ * 1000 + _ ≤ 999999999
            omega
          · rw [mo_ite_f q4]; exact Nat.zero_le _
        · rw [mo_ite_f q3]
          show _ * 1000000 + _ * 1000 ≤ 999999999
          omega
      · rw [mo_ite_f q2]; exact Nat.zero_le _
    · rw [mo_ite_f q1]
      show _ * 1000000 ≤ 999999999
      omega
  · rw [mo_ite_f q0]; exact Nat.zero_le _
theorem tk_h (c : Nat) (d : Nat) (hd : d ≤ 999999999) (v : Int32) (hv : 0 ≤ v) (hv2 : v ≤ 999999999) :
    ((0 ≤ v ∧ v ≤ nI d - 1) ↔ tk_hd 0 (nI d) v) ∧ ((0 ≤ v ∧ v ≤ nI d) ↔ tk_hd 1 (nI d) v) ∧ ((nI d + 1 ≤ v ∧ v ≤ 999999999) ↔ tk_hd 2 (nI d) v) ∧ ((nI d ≤ v ∧ v ≤ 999999999) ↔ tk_hd 3 (nI d) v) ∧ ((nI d ≤ v ∧ v ≤ nI d) ↔ tk_hd 4 (nI d) v) := by
  obtain ⟨m, hm, rfl⟩ := nI_of (Int32.not_lt.mpr hv)
  rw [show (999999999 : Int32) = nI 999999999 from rfl, nI_leI (by omega) (by omega)] at hv2
  refine ⟨⟨fun q => ?_, fun q => ⟨hv, ?_⟩⟩, ⟨fun q => q.2, fun q => ⟨hv, q⟩⟩, ⟨fun q => ?_, fun q => ⟨?_, ?_⟩⟩, ⟨fun q => q.1, fun q => ⟨q, ?_⟩⟩, ⟨fun q => ?_, fun q => ?_⟩⟩
  · show nI m < nI d
    rw [nI_ltI (by omega) (by omega)]
    cases d with
    | zero =>
      have q := q.2
      rw [show nI 0 - 1 = (-1 : Int32) from by decide, Int32.le_iff_toInt_le, nI_toInt (by omega), mo_n1] at q
      omega
    | succ d =>
      have q := q.2
      rw [nI_pred, nI_leI (by omega) (by omega)] at q
      omega
  · have q : nI m < nI d := q
    rw [nI_ltI (by omega) (by omega)] at q
    cases d with
    | zero => omega
    | succ d => rw [nI_pred, nI_leI (by omega) (by omega)]; omega
  · have q := q.1
    rw [nI_1, nI_leI (by omega) (by omega)] at q
    show nI d < nI m
    rw [nI_ltI (by omega) (by omega)]
    omega
  · have q : nI d < nI m := q
    rw [nI_ltI (by omega) (by omega)] at q
    rw [nI_1, nI_leI (by omega) (by omega)]
    omega
  · rw [show (999999999 : Int32) = nI 999999999 from rfl, nI_leI (by omega) (by omega)]; omega
  · rw [show (999999999 : Int32) = nI 999999999 from rfl, nI_leI (by omega) (by omega)]; omega
  · exact Int32.le_antisymm q.2 q.1
  · have q : nI m = nI d := q
    rw [q]; exact ⟨Int32.le_refl _, Int32.le_refl _⟩
theorem mo_mx {l a v : Int32} : (if l < a then a else l) ≤ v ↔ l ≤ v ∧ a ≤ v := by
  simp only [Int32.le_iff_toInt_le, Int32.lt_iff_toInt_lt]
  split <;> omega
theorem mo_mn {h b v : Int32} : v ≤ (if b < h then b else h) ↔ v ≤ h ∧ v ≤ b := by
  simp only [Int32.le_iff_toInt_le, Int32.lt_iff_toInt_lt]
  split <;> omega
set_option maxHeartbeats 4000000 in
theorem ct_X7_readTest : mo_ct yX7_readTest t_X7_readTest S_X7_readTest := mo_ct_imp ctT_X7_readTest (by
  rintro as σ Q ⟨w, rfl, ⟨hS, hw, ht, hle⟩, hok, hbad⟩
  have hl := hS.1
  have hp := hS.2
  have suc : ∀ (c p : Nat) (ρ : Nat → Int32) (a b : Int32), mo_ctst σ = ((tk_ver (σ.1 31 0) (mo_cn σ) p).1, (tk_ver (σ.1 31 0) (mo_cn σ) p).2.1, c, (tk_ver (σ.1 31 0) (mo_cn σ) p).2.2) → (tk_ver (σ.1 31 0) (mo_cn σ) p).1 → mo_cto σ ρ (tk_ver (σ.1 31 0) (mo_cn σ) p).2.1 → (∀ v : Int32, 0 ≤ v → v ≤ 999999999 → ((a ≤ v ∧ v ≤ b) ↔ tk_hd c (nI (tk_ver (σ.1 31 0) (mo_cn σ) p).2.2) v)) → Q (some (.inl (1 : Int32))) (mo_rowI (mo_nar σ w a b) 32 0 ρ) := by
    intro c p ρ a b e q h hab
    rw [e] at hok
    refine hok q ρ _ _ ⟨h, fun v h0 h1 => ?_⟩
    rw [← hab v h0 h1, mo_mx, mo_mn]
    constructor
    · rintro ⟨⟨x1, x2⟩, x3, x4⟩; exact ⟨⟨x1, x3⟩, x2, x4⟩
    · rintro ⟨⟨x1, x3⟩, x2, x4⟩; exact ⟨⟨x1, x2⟩, x3, x4⟩
  have bad : ∀ (c p : Nat) (ρ : Nat → Int32), mo_ctst σ = ((tk_ver (σ.1 31 0) (mo_cn σ) p).1, (tk_ver (σ.1 31 0) (mo_cn σ) p).2.1, c, (tk_ver (σ.1 31 0) (mo_cn σ) p).2.2) → ¬ (tk_ver (σ.1 31 0) (mo_cn σ) p).1 → mo_cto σ ρ (tk_ver (σ.1 31 0) (mo_cn σ) p).2.1 → Q (some (.inl (0 : Int32))) (mo_rowI σ 32 0 ρ) := by
    intro c p ρ e q h
    rw [e] at hbad
    exact hbad q ρ h
  refine ⟨w, rfl, ?_⟩
  simp only [mo_rr32, mo_g32, mo_cS_r, mo_cto_r, mo_csg_r, mo_cN_r, mo_cver_r, mo_nar_r]
  have hT : ∀ p, ∀ v : Int32, 0 ≤ v → v ≤ 999999999 → _ := fun p v h0 h1 => tk_h 0 (tk_ver (σ.1 31 0) (mo_cn σ) p).2.2 (tk_ver_le _ _ _) v h0 h1
  refine ⟨⟨hS, by decide, by decide⟩, fun qa ρ1 h1 => ?_, fun qa => ⟨hS, fun qb ρ2 h2 => ?_, fun qb => ⟨hS, fun qc ρ8 h8 => ?_, fun qc => ⟨hS, fun qd ρ14 h14 => ?_, fun qd => ?_⟩⟩⟩⟩
  · have e : mo_ctst σ = (True, mo_cN σ, 5, 0) := mo_ite_t qa
    rw [e] at hok
    have z := hok trivial ρ1 (σ.1 40 w ((σ.1 39 w 2).toNatClampNeg - 1)) (σ.1 41 w ((σ.1 39 w 2).toNatClampNeg - 1)) ⟨h1.1, fun v _ _ => ⟨fun q => ⟨q, trivial⟩, fun q => q.1⟩⟩
    rw [mo_wIid, mo_wIid] at z
    exact z
  · have c2 := mo_cto_cl hl h2.1
    simp only [c2]
    refine ⟨⟨hl, h2.1⟩, fun qe ρ3 h3 => ?_, fun qe => ⟨⟨hl, h2.1⟩, fun qv ρ6 h6 => ⟨hw, ⟨hw, ht, hle⟩, ?_⟩, fun qv ρ7 h7 => ?_⟩⟩
    · have c3 := mo_cto_cl hl h3.1
      simp only [c3]
      have e : mo_ctst σ = ((tk_ver (σ.1 31 0) (mo_cn σ) (tk_N (σ.1 31 0) (mo_cn σ) (mo_cN σ))).1, (tk_ver (σ.1 31 0) (mo_cn σ) (tk_N (σ.1 31 0) (mo_cn σ) (mo_cN σ))).2.1, 1, (tk_ver (σ.1 31 0) (mo_cn σ) (tk_N (σ.1 31 0) (mo_cn σ) (mo_cN σ))).2.2) := (mo_ite_f qa).trans ((mo_ite_t qb).trans (mo_ite_t qe))
      refine ⟨⟨hl, h3.1⟩, fun qv ρ4 h4 => ⟨hw, ⟨hw, ht, hle⟩, ?_⟩, fun qv ρ5 h5 => bad 1 _ ρ5 e qv h5⟩
      rw [h4.2]
      exact suc 1 _ ρ4 _ _ e qv h4.1 (fun v a b => (hT _ v a b).2.1)
    · rw [h6.2]
      exact suc 0 _ ρ6 _ _ ((mo_ite_f qa).trans ((mo_ite_t qb).trans (mo_ite_f qe))) qv h6.1 (fun v a b => (hT _ v a b).1)
    · exact bad 0 _ ρ7 ((mo_ite_f qa).trans ((mo_ite_t qb).trans (mo_ite_f qe))) qv h7
  · have c2 := mo_cto_cl hl h8.1
    simp only [c2]
    refine ⟨⟨hl, h8.1⟩, fun qe ρ3 h3 => ?_, fun qe => ⟨⟨hl, h8.1⟩, fun qv ρ6 h6 => ⟨hw, ⟨hw, ht, hle⟩, ?_⟩, fun qv ρ7 h7 => ?_⟩⟩
    · have c3 := mo_cto_cl hl h3.1
      simp only [c3]
      have e : mo_ctst σ = ((tk_ver (σ.1 31 0) (mo_cn σ) (tk_N (σ.1 31 0) (mo_cn σ) (mo_cN σ))).1, (tk_ver (σ.1 31 0) (mo_cn σ) (tk_N (σ.1 31 0) (mo_cn σ) (mo_cN σ))).2.1, 3, (tk_ver (σ.1 31 0) (mo_cn σ) (tk_N (σ.1 31 0) (mo_cn σ) (mo_cN σ))).2.2) := (mo_ite_f qa).trans ((mo_ite_f qb).trans ((mo_ite_t qc).trans (mo_ite_t qe)))
      refine ⟨⟨hl, h3.1⟩, fun qv ρ4 h4 => ⟨hw, ⟨hw, ht, hle⟩, ?_⟩, fun qv ρ5 h5 => bad 3 _ ρ5 e qv h5⟩
      rw [h4.2]
      exact suc 3 _ ρ4 _ _ e qv h4.1 (fun v a b => (hT _ v a b).2.2.2.1)
    · rw [h6.2]
      exact suc 2 _ ρ6 _ _ ((mo_ite_f qa).trans ((mo_ite_f qb).trans ((mo_ite_t qc).trans (mo_ite_f qe)))) qv h6.1 (fun v a b => (hT _ v a b).2.2.1)
    · exact bad 2 _ ρ7 ((mo_ite_f qa).trans ((mo_ite_f qb).trans ((mo_ite_t qc).trans (mo_ite_f qe)))) qv h7
  · have c2 := mo_cto_cl hl h14.1
    simp only [c2]
    have e : mo_ctst σ = ((tk_ver (σ.1 31 0) (mo_cn σ) (mo_cN σ)).1, (tk_ver (σ.1 31 0) (mo_cn σ) (mo_cN σ)).2.1, 4, (tk_ver (σ.1 31 0) (mo_cn σ) (mo_cN σ)).2.2) := (mo_ite_f qa).trans ((mo_ite_f qb).trans ((mo_ite_f qc).trans (mo_ite_t qd)))
    refine ⟨⟨hl, h14.1⟩, fun qv ρ15 h15 => ⟨hw, ⟨hw, ht, hle⟩, ?_⟩, fun qv ρ16 h16 => bad 4 _ ρ16 e qv h16⟩
    rw [h15.2]
    exact suc 4 _ ρ15 _ _ e qv h15.1 (fun v a b => (hT _ v a b).2.2.2.2)
  · have e : mo_ctst σ = (False, mo_cp σ, 0, 0) := (mo_ite_f qa).trans ((mo_ite_f qb).trans ((mo_ite_f qc).trans (mo_ite_f qd)))
    rw [e] at hbad
    have z := hbad id (σ.1 32 0) hp
    rw [mo_rowI_id] at z
    exact z)
