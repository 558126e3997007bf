def mo_nar (σ : mo_M) (w : Nat) (a b : Int32) : mo_M := mo_wI (mo_wI σ 40 w ((σ.1 39 w 2).toNatClampNeg - 1) (if σ.1 40 w ((σ.1 39 w 2).toNatClampNeg - 1) < a then a else σ.1 40 w ((σ.1 39 w 2).toNatClampNeg - 1))) 41 w ((σ.1 39 w 2).toNatClampNeg - 1) (if b < σ.1 41 w ((σ.1 39 w 2).toNatClampNeg - 1) then b else σ.1 41 w ((σ.1 39 w 2).toNatClampNeg - 1))
def SN_X9_narrow : mo_S := fun as σ Q => ∃ w : Nat, ∃ a : Int32, ∃ b : Int32, as = [.inr (.inr (39, w)), .inl a, .inl b] ∧ ((w < 20 ∧ 0 < (σ.1 39 w 2).toNatClampNeg ∧ mo_le (σ.1 39 w 2) 30) ∧ Q (none) (mo_nar σ w a b))
theorem mN_X9_narrow : ∀ (as : List mo_V) (σ : mo_M) (P P' : mo_Q), (∀ x τ, P x τ → P' x τ) → SN_X9_narrow as σ P → SN_X9_narrow as σ P' := by
  rintro as σ P P' hm ⟨w, a, b, e, hq⟩
  exact ⟨w, a, b, e, ⟨hq.1, hm _ _ hq.2⟩⟩

theorem ctN_X9_narrow : mo_ct yX9_narrow t_X9_narrow SN_X9_narrow := mo_ct_imp ct_X9_narrow (by
  rintro as σ Q ⟨w, a, b, rfl, ⟨hw, ht, h1, h2⟩, hq⟩
  have e1 : σ.1 39 w 2 - (1 : Int32) = nI ((σ.1 39 w 2).toNatClampNeg - 1) := by
    conv => lhs; rw [h1]
    rw [show (σ.1 39 w 2).toNatClampNeg = ((σ.1 39 w 2).toNatClampNeg - 1) + 1 from by omega, nI_pred]
    simp
  have e2 : (σ.1 39 w 2 - (1 : Int32)).toNatClampNeg = (σ.1 39 w 2).toNatClampNeg - 1 := by rw [e1]; exact mo_cl (by omega)
  have hv : vp_in (σ.1 39 w 2 - (1 : Int32)) 30 := by rw [e1]; exact mo_inN (by omega) (by decide)
  have hp : ¬ σ.1 39 w 2 ≤ 0 := by rw [h1]; exact nI_nle ht (by omega)
  refine ⟨w, a, b, rfl, hw, fun q => absurd q hp, fun _ => ?_⟩
  simp only [hw, hv, e2, true_and]
  exact hq)
noncomputable def tk_tst (r : Nat → Int32) (n s : Nat) : Prop × Nat × Nat × Nat := mo_ite (tk_wd r n [97, 110, 121] s) (True, (tk_N r n s), 5, 0) (mo_ite (tk_sg r n 60 s) (mo_ite (tk_sg r n 61 (tk_N r n s)) ((tk_ver r n (tk_N r n (tk_N r n s))).1, (tk_ver r n (tk_N r n (tk_N r n s))).2.1, 1, (tk_ver r n (tk_N r n (tk_N r n s))).2.2) ((tk_ver r n (tk_N r n s)).1, (tk_ver r n (tk_N r n s)).2.1, 0, (tk_ver r n (tk_N r n s)).2.2)) (mo_ite (tk_sg r n 62 s) (mo_ite (tk_sg r n 61 (tk_N r n s)) ((tk_ver r n (tk_N r n (tk_N r n s))).1, (tk_ver r n (tk_N r n (tk_N r n s))).2.1, 3, (tk_ver r n (tk_N r n (tk_N r n s))).2.2) ((tk_ver r n (tk_N r n s)).1, (tk_ver r n (tk_N r n s)).2.1, 2, (tk_ver r n (tk_N r n s)).2.2)) (mo_ite (tk_sg r n 61 s) ((tk_ver r n (tk_N r n s)).1, (tk_ver r n (tk_N r n s)).2.1, 4, (tk_ver r n (tk_N r n s)).2.2) (False, s, 0, 0))))
noncomputable def mo_ctst (σ : mo_M) : Prop × Nat × Nat × Nat := tk_tst (σ.1 31 0) (mo_cn σ) (mo_cp σ)
def tk_hd (c : Nat) (u v : Int32) : Prop := if c = 0 then v < u else if c = 1 then v ≤ u else if c = 2 then u < v else if c = 3 then u ≤ v else if c = 4 then v = u else True
def ST_X7_readTest : mo_S := fun as σ Q => ∃ w : Nat, as = [.inr (.inr (32, 0)), .inr (.inr (39, w))] ∧ ((mo_cS σ ∧ 91 ≤ 94 ∧ 94 ≤ 94) ∧ ((mo_cwd σ 94 → (∀ ρ1 : Nat → Int32, (mo_cto σ ρ1 (mo_cN σ) ∧ ρ1 4 = σ.1 32 0 4 ∧ ρ1 5 = σ.1 32 0 5) → Q (some (.inl (1 : Int32))) (mo_rowI σ 32 0 ρ1))) ∧ (¬ mo_cwd σ 94 → ((mo_cS σ) ∧ ((mo_csg σ (60 : Int32) → (∀ ρ2 : Nat → Int32, (mo_cto σ ρ2 (mo_cN σ) ∧ ρ2 4 = σ.1 32 0 4 ∧ ρ2 5 = σ.1 32 0 5) → ((mo_cS (mo_rowI σ 32 0 ρ2)) ∧ ((mo_csg (mo_rowI σ 32 0 ρ2) (61 : Int32) → (∀ ρ3 : Nat → Int32, (mo_cto (mo_rowI σ 32 0 ρ2) ρ3 (mo_cN (mo_rowI σ 32 0 ρ2)) ∧ ρ3 4 = (mo_rowI σ 32 0 ρ2).1 32 0 4 ∧ ρ3 5 = (mo_rowI σ 32 0 ρ2).1 32 0 5) → ((mo_cS (mo_rowI (mo_rowI σ 32 0 ρ2) 32 0 ρ3)) ∧ (((mo_cver (mo_rowI (mo_rowI σ 32 0 ρ2) 32 0 ρ3)).1 → (∀ ρ4 : Nat → Int32, (mo_cto (mo_rowI (mo_rowI σ 32 0 ρ2) 32 0 ρ3) ρ4 (mo_cver (mo_rowI (mo_rowI σ 32 0 ρ2) 32 0 ρ3)).2.1 ∧ ρ4 5 = nI (mo_cver (mo_rowI (mo_rowI σ 32 0 ρ2) 32 0 ρ3)).2.2) → ((w < 20) ∧ ((w < 20 ∧ 0 < (σ.1 39 w 2).toNatClampNeg ∧ mo_le (σ.1 39 w 2) 30) ∧ Q (some (.inl (1 : Int32))) (mo_nar (mo_rowI (mo_rowI (mo_rowI σ 32 0 ρ2) 32 0 ρ3) 32 0 ρ4) w (0 : Int32) (ρ4 5)))))) ∧ (¬ (mo_cver (mo_rowI (mo_rowI σ 32 0 ρ2) 32 0 ρ3)).1 → (∀ ρ5 : Nat → Int32, (mo_cto (mo_rowI (mo_rowI σ 32 0 ρ2) 32 0 ρ3) ρ5 (mo_cver (mo_rowI (mo_rowI σ 32 0 ρ2) 32 0 ρ3)).2.1) → Q (some (.inl (0 : Int32))) (mo_rowI (mo_rowI (mo_rowI σ 32 0 ρ2) 32 0 ρ3) 32 0 ρ5))))))) ∧ (¬ mo_csg (mo_rowI σ 32 0 ρ2) (61 : Int32) → ((mo_cS (mo_rowI σ 32 0 ρ2)) ∧ (((mo_cver (mo_rowI σ 32 0 ρ2)).1 → (∀ ρ6 : Nat → Int32, (mo_cto (mo_rowI σ 32 0 ρ2) ρ6 (mo_cver (mo_rowI σ 32 0 ρ2)).2.1 ∧ ρ6 5 = nI (mo_cver (mo_rowI σ 32 0 ρ2)).2.2) → ((w < 20) ∧ ((w < 20 ∧ 0 < (σ.1 39 w 2).toNatClampNeg ∧ mo_le (σ.1 39 w 2) 30) ∧ Q (some (.inl (1 : Int32))) (mo_nar (mo_rowI (mo_rowI σ 32 0 ρ2) 32 0 ρ6) w (0 : Int32) ((ρ6 5) - (1 : Int32))))))) ∧ (¬ (mo_cver (mo_rowI σ 32 0 ρ2)).1 → (∀ ρ7 : Nat → Int32, (mo_cto (mo_rowI σ 32 0 ρ2) ρ7 (mo_cver (mo_rowI σ 32 0 ρ2)).2.1) → Q (some (.inl (0 : Int32))) (mo_rowI (mo_rowI σ 32 0 ρ2) 32 0 ρ7)))))))))) ∧ (¬ mo_csg σ (60 : Int32) → ((mo_cS σ) ∧ ((mo_csg σ (62 : Int32) → (∀ ρ8 : Nat → Int32, (mo_cto σ ρ8 (mo_cN σ) ∧ ρ8 4 = σ.1 32 0 4 ∧ ρ8 5 = σ.1 32 0 5) → ((mo_cS (mo_rowI σ 32 0 ρ8)) ∧ ((mo_csg (mo_rowI σ 32 0 ρ8) (61 : Int32) → (∀ ρ9 : Nat → Int32, (mo_cto (mo_rowI σ 32 0 ρ8) ρ9 (mo_cN (mo_rowI σ 32 0 ρ8)) ∧ ρ9 4 = (mo_rowI σ 32 0 ρ8).1 32 0 4 ∧ ρ9 5 = (mo_rowI σ 32 0 ρ8).1 32 0 5) → ((mo_cS (mo_rowI (mo_rowI σ 32 0 ρ8) 32 0 ρ9)) ∧ (((mo_cver (mo_rowI (mo_rowI σ 32 0 ρ8) 32 0 ρ9)).1 → (∀ ρ10 : Nat → Int32, (mo_cto (mo_rowI (mo_rowI σ 32 0 ρ8) 32 0 ρ9) ρ10 (mo_cver (mo_rowI (mo_rowI σ 32 0 ρ8) 32 0 ρ9)).2.1 ∧ ρ10 5 = nI (mo_cver (mo_rowI (mo_rowI σ 32 0 ρ8) 32 0 ρ9)).2.2) → ((w < 20) ∧ ((w < 20 ∧ 0 < (σ.1 39 w 2).toNatClampNeg ∧ mo_le (σ.1 39 w 2) 30) ∧ Q (some (.inl (1 : Int32))) (mo_nar (mo_rowI (mo_rowI (mo_rowI σ 32 0 ρ8) 32 0 ρ9) 32 0 ρ10) w (ρ10 5) (999999999 : Int32)))))) ∧ (¬ (mo_cver (mo_rowI (mo_rowI σ 32 0 ρ8) 32 0 ρ9)).1 → (∀ ρ11 : Nat → Int32, (mo_cto (mo_rowI (mo_rowI σ 32 0 ρ8) 32 0 ρ9) ρ11 (mo_cver (mo_rowI (mo_rowI σ 32 0 ρ8) 32 0 ρ9)).2.1) → Q (some (.inl (0 : Int32))) (mo_rowI (mo_rowI (mo_rowI σ 32 0 ρ8) 32 0 ρ9) 32 0 ρ11))))))) ∧ (¬ mo_csg (mo_rowI σ 32 0 ρ8) (61 : Int32) → ((mo_cS (mo_rowI σ 32 0 ρ8)) ∧ (((mo_cver (mo_rowI σ 32 0 ρ8)).1 → (∀ ρ12 : Nat → Int32, (mo_cto (mo_rowI σ 32 0 ρ8) ρ12 (mo_cver (mo_rowI σ 32 0 ρ8)).2.1 ∧ ρ12 5 = nI (mo_cver (mo_rowI σ 32 0 ρ8)).2.2) → ((w < 20) ∧ ((w < 20 ∧ 0 < (σ.1 39 w 2).toNatClampNeg ∧ mo_le (σ.1 39 w 2) 30) ∧ Q (some (.inl (1 : Int32))) (mo_nar (mo_rowI (mo_rowI σ 32 0 ρ8) 32 0 ρ12) w ((ρ12 5) + (1 : Int32)) (999999999 : Int32)))))) ∧ (¬ (mo_cver (mo_rowI σ 32 0 ρ8)).1 → (∀ ρ13 : Nat → Int32, (mo_cto (mo_rowI σ 32 0 ρ8) ρ13 (mo_cver (mo_rowI σ 32 0 ρ8)).2.1) → Q (some (.inl (0 : Int32))) (mo_rowI (mo_rowI σ 32 0 ρ8) 32 0 ρ13)))))))))) ∧ (¬ mo_csg σ (62 : Int32) → ((mo_cS σ) ∧ ((mo_csg σ (61 : Int32) → (∀ ρ14 : Nat → Int32, (mo_cto σ ρ14 (mo_cN σ) ∧ ρ14 4 = σ.1 32 0 4 ∧ ρ14 5 = σ.1 32 0 5) → ((mo_cS (mo_rowI σ 32 0 ρ14)) ∧ (((mo_cver (mo_rowI σ 32 0 ρ14)).1 → (∀ ρ15 : Nat → Int32, (mo_cto (mo_rowI σ 32 0 ρ14) ρ15 (mo_cver (mo_rowI σ 32 0 ρ14)).2.1 ∧ ρ15 5 = nI (mo_cver (mo_rowI σ 32 0 ρ14)).2.2) → ((w < 20) ∧ ((w < 20 ∧ 0 < (σ.1 39 w 2).toNatClampNeg ∧ mo_le (σ.1 39 w 2) 30) ∧ Q (some (.inl (1 : Int32))) (mo_nar (mo_rowI (mo_rowI σ 32 0 ρ14) 32 0 ρ15) w (ρ15 5) (ρ15 5)))))) ∧ (¬ (mo_cver (mo_rowI σ 32 0 ρ14)).1 → (∀ ρ16 : Nat → Int32, (mo_cto (mo_rowI σ 32 0 ρ14) ρ16 (mo_cver (mo_rowI σ 32 0 ρ14)).2.1) → Q (some (.inl (0 : Int32))) (mo_rowI (mo_rowI σ 32 0 ρ14) 32 0 ρ16))))))) ∧ (¬ mo_csg σ (61 : Int32) → Q (some (.inl (0 : Int32))) (σ)))))))))))))
theorem mT_X7_readTest : ∀ (as : List mo_V) (σ : mo_M) (P P' : mo_Q), (∀ x τ, P x τ → P' x τ) → ST_X7_readTest as σ P → ST_X7_readTest as σ P' := by
  rintro as σ P P' hm ⟨w, e, hq⟩
  exact ⟨w, e, ⟨hq.1, ⟨fun c1 => fun ρ1 hr1 => hm _ _ ((hq.2.1 c1) ρ1 hr1), fun c1 => ⟨(hq.2.2 c1).1, ⟨fun c3 => fun ρ2 hr2 => ⟨(((hq.2.2 c1).2.1 c3) ρ2 hr2).1, ⟨fun c5 => fun ρ3 hr3 => ⟨(((((hq.2.2 c1).2.1 c3) ρ2 hr2).2.1 c5) ρ3 hr3).1, ⟨fun c7 => fun ρ4 hr4 => ⟨(((((((hq.2.2 c1).2.1 c3) ρ2 hr2).2.1 c5) ρ3 hr3).2.1 c7) ρ4 hr4).1, ⟨(((((((hq.2.2 c1).2.1 c3) ρ2 hr2).2.1 c5) ρ3 hr3).2.1 c7) ρ4 hr4).2.1, hm _ _ (((((((hq.2.2 c1).2.1 c3) ρ2 hr2).2.1 c5) ρ3 hr3).2.1 c7) ρ4 hr4).2.2⟩⟩, fun c7 => fun ρ5 hr5 => hm _ _ (((((((hq.2.2 c1).2.1 c3) ρ2 hr2).2.1 c5) ρ3 hr3).2.2 c7) ρ5 hr5)⟩⟩, fun c5 => ⟨((((hq.2.2 c1).2.1 c3) ρ2 hr2).2.2 c5).1, ⟨fun c7 => fun ρ6 hr6 => ⟨((((((hq.2.2 c1).2.1 c3) ρ2 hr2).2.2 c5).2.1 c7) ρ6 hr6).1, ⟨((((((hq.2.2 c1).2.1 c3) ρ2 hr2).2.2 c5).2.1 c7) ρ6 hr6).2.1, hm _ _ ((((((hq.2.2 c1).2.1 c3) ρ2 hr2).2.2 c5).2.1 c7) ρ6 hr6).2.2⟩⟩, fun c7 => fun ρ7 hr7 => hm _ _ ((((((hq.2.2 c1).2.1 c3) ρ2 hr2).2.2 c5).2.2 c7) ρ7 hr7)⟩⟩⟩⟩, fun c3 => ⟨((hq.2.2 c1).2.2 c3).1, ⟨fun c5 => fun ρ8 hr8 => ⟨((((hq.2.2 c1).2.2 c3).2.1 c5) ρ8 hr8).1, ⟨fun c7 => fun ρ9 hr9 => ⟨((((((hq.2.2 c1).2.2 c3).2.1 c5) ρ8 hr8).2.1 c7) ρ9 hr9).1, ⟨fun c10 => fun ρ10 hr10 => ⟨((((((((hq.2.2 c1).2.2 c3).2.1 c5) ρ8 hr8).2.1 c7) ρ9 hr9).2.1 c10) ρ10 hr10).1, ⟨((((((((hq.2.2 c1).2.2 c3).2.1 c5) ρ8 hr8).2.1 c7) ρ9 hr9).2.1 c10) ρ10 hr10).2.1, hm _ _ ((((((((hq.2.2 c1).2.2 c3).2.1 c5) ρ8 hr8).2.1 c7) ρ9 hr9).2.1 c10) ρ10 hr10).2.2⟩⟩, fun c10 => fun ρ11 hr11 => hm _ _ ((((((((hq.2.2 c1).2.2 c3).2.1 c5) ρ8 hr8).2.1 c7) ρ9 hr9).2.2 c10) ρ11 hr11)⟩⟩, fun c7 => ⟨(((((hq.2.2 c1).2.2 c3).2.1 c5) ρ8 hr8).2.2 c7).1, ⟨fun c10 => fun ρ12 hr12 => ⟨(((((((hq.2.2 c1).2.2 c3).2.1 c5) ρ8 hr8).2.2 c7).2.1 c10) ρ12 hr12).1, ⟨(((((((hq.2.2 c1).2.2 c3).2.1 c5) ρ8 hr8).2.2 c7).2.1 c10) ρ12 hr12).2.1, hm _ _ (((((((hq.2.2 c1).2.2 c3).2.1 c5) ρ8 hr8).2.2 c7).2.1 c10) ρ12 hr12).2.2⟩⟩, fun c10 => fun ρ13 hr13 => hm _ _ (((((((hq.2.2 c1).2.2 c3).2.1 c5) ρ8 hr8).2.2 c7).2.2 c10) ρ13 hr13)⟩⟩⟩⟩, fun c5 => ⟨(((hq.2.2 c1).2.2 c3).2.2 c5).1, ⟨fun c7 => fun ρ14 hr14 => ⟨(((((hq.2.2 c1).2.2 c3).2.2 c5).2.1 c7) ρ14 hr14).1, ⟨fun c11 => fun ρ15 hr15 => ⟨(((((((hq.2.2 c1).2.2 c3).2.2 c5).2.1 c7) ρ14 hr14).2.1 c11) ρ15 hr15).1, ⟨(((((((hq.2.2 c1).2.2 c3).2.2 c5).2.1 c7) ρ14 hr14).2.1 c11) ρ15 hr15).2.1, hm _ _ (((((((hq.2.2 c1).2.2 c3).2.2 c5).2.1 c7) ρ14 hr14).2.1 c11) ρ15 hr15).2.2⟩⟩, fun c11 => fun ρ16 hr16 => hm _ _ (((((((hq.2.2 c1).2.2 c3).2.2 c5).2.1 c7) ρ14 hr14).2.2 c11) ρ16 hr16)⟩⟩, fun c7 => hm _ _ ((((hq.2.2 c1).2.2 c3).2.2 c5).2.2 c7)⟩⟩⟩⟩⟩⟩⟩⟩⟩
def cs_X7_readTest : Nat → mo_C := fun j => match j with
  | 0 => (2, true, 36, 7, S_X7_takeWord)
  | 1 => (2, true, 63, 7, S_X7_takeSign)
  | 2 => (1, true, 67, 7, S_X7_readVersion)
  | 3 => (3, true, 72, 9, SN_X9_narrow)
  | _ => (0, false, 0, 50, fun _ _ _ => False)
theorem cs_X7_readTest_ok (g : mo_E) : ∀ j, mo_cok g t_X7_readTest (cs_X7_readTest j) ∧ mo_mon (cs_X7_readTest j) := by
  intro j
  unfold cs_X7_readTest
  split
  · exact ⟨mo_cokV ct_X7_takeWord (by decide) ⟨_, _, rfl⟩ (by decide +kernel), m_X7_takeWord⟩
  · exact ⟨mo_cokV ct_X7_takeSign (by decide) ⟨_, _, rfl⟩ (by decide +kernel), m_X7_takeSign⟩
  · exact ⟨mo_cokV ct_X7_readVersion (by decide) ⟨_, _, rfl⟩ (by decide +kernel), m_X7_readVersion⟩
  · exact ⟨mo_cokV ctN_X9_narrow (by decide) ⟨_, _, rfl⟩ (by decide +kernel), mN_X9_narrow⟩
  · exact ⟨mo_cok0 g _, mo_mon0⟩
set_option maxRecDepth 20000 in
set_option maxHeartbeats 2000000 in
theorem ctT_X7_readTest : mo_ct yX7_readTest t_X7_readTest ST_X7_readTest := by
  refine mo_ct_of (by decide) rfl ?_
  rintro g as σ Q ⟨w, rfl, hQ⟩
  refine ⟨Nat.le_of_ble_eq_true rfl, mo_go ok_X7_readTest (cs_X7_readTest_ok g) [] 70 ?_⟩
  intro K hK
  refine Exists.intro 94 (And.intro rfl ?_)
  refine And.intro (show mo_cS σ ∧ 91 ≤ 94 ∧ 94 ≤ 94 from hQ.1) ?_
  refine And.intro (fun (c1 : mo_cwd σ 94) => ?_) (fun (c1 : ¬ mo_cwd σ 94) => ?_)
  · intro ρ1 hr1
    refine And.intro (fun (c2 : (1 : Int32) = 0) => ?_) (fun (c2 : ¬ (1 : Int32) = 0) => ?_)
    · exact absurd c2 (by decide)
    · refine And.intro (by first | decide | exact mo_bl01 _) ?_
      exact ((hQ.2.1 c1) ρ1 hr1)
  · refine And.intro (fun (c2 : (0 : Int32) = 0) => ?_) (fun (c2 : ¬ (0 : Int32) = 0) => ?_)
    · refine Exists.intro (60 : Int32) (And.intro rfl ?_)
      refine And.intro (show mo_cS σ from (hQ.2.2 c1).1) ?_
      refine And.intro (fun (c3 : mo_csg σ (60 : Int32)) => ?_) (fun (c3 : ¬ mo_csg σ (60 : Int32)) => ?_)
      · intro ρ2 hr2
        refine And.intro (fun (c4 : ¬ (1 : Int32) = 0) => ?_) (fun (c4 : (1 : Int32) = 0) => ?_)
        · refine Exists.intro (61 : Int32) (And.intro rfl ?_)
          refine And.intro (show mo_cS (mo_rowI σ 32 0 ρ2) from (((hQ.2.2 c1).2.1 c3) ρ2 hr2).1) ?_
          refine And.intro (fun (c5 : mo_csg (mo_rowI σ 32 0 ρ2) (61 : Int32)) => ?_) (fun (c5 : ¬ mo_csg (mo_rowI σ 32 0 ρ2) (61 : Int32)) => ?_)
          · intro ρ3 hr3
            refine And.intro (fun (c6 : ¬ (1 : Int32) = 0) => ?_) (fun (c6 : (1 : Int32) = 0) => ?_)
            · refine And.intro rfl ?_
              refine And.intro (show mo_cS (mo_rowI (mo_rowI σ 32 0 ρ2) 32 0 ρ3) from (((((hQ.2.2 c1).2.1 c3) ρ2 hr2).2.1 c5) ρ3 hr3).1) ?_
              refine And.intro (fun (c7 : (mo_cver (mo_rowI (mo_rowI σ 32 0 ρ2) 32 0 ρ3)).1) => ?_) (fun (c7 : ¬ (mo_cver (mo_rowI (mo_rowI σ 32 0 ρ2) 32 0 ρ3)).1) => ?_)
              · intro ρ4 hr4
                refine And.intro (fun (c8 : ¬ (1 : Int32) = 0) => ?_) (fun (c8 : (1 : Int32) = 0) => ?_)
                · refine And.intro (fun (c9 : (1 : Int32) = 0) => ?_) (fun (c9 : ¬ (1 : Int32) = 0) => ?_)
                  · exact absurd c9 (by decide)
                  · refine And.intro (fun (c10 : (1 : Int32) = 0) => ?_) (fun (c10 : ¬ (1 : Int32) = 0) => ?_)
                    · exact absurd c10 (by decide)
                    · refine And.intro (fun (c11 : (1 : Int32) = 0) => ?_) (fun (c11 : ¬ (1 : Int32) = 0) => ?_)
                      · exact absurd c11 (by decide)
                      · refine And.intro (fun (c12 : (0 : Int32) = 0) => ?_) (fun (c12 : ¬ (0 : Int32) = 0) => ?_)
                        · refine And.intro (show w < 20 from (((((((hQ.2.2 c1).2.1 c3) ρ2 hr2).2.1 c5) ρ3 hr3).2.1 c7) ρ4 hr4).1) ?_
                          refine Exists.intro w (Exists.intro (0 : Int32) (Exists.intro (ρ4 5) (And.intro rfl ?_)))
                          refine And.intro (show w < 20 ∧ 0 < (σ.1 39 w 2).toNatClampNeg ∧ mo_le (σ.1 39 w 2) 30 from (((((((hQ.2.2 c1).2.1 c3) ρ2 hr2).2.1 c5) ρ3 hr3).2.1 c7) ρ4 hr4).2.1) ?_
                          refine And.intro (by first | decide | exact mo_bl01 _) ?_
                          exact (((((((hQ.2.2 c1).2.1 c3) ρ2 hr2).2.1 c5) ρ3 hr3).2.1 c7) ρ4 hr4).2.2
                        · exact absurd c12 (by decide)
                · exact absurd c8 (by decide)
              · intro ρ5 hr5
                refine And.intro (fun (c8 : ¬ (0 : Int32) = 0) => ?_) (fun (c8 : (0 : Int32) = 0) => ?_)
                · exact absurd c8 (by decide)
                · refine And.intro (by first | decide | exact mo_bl01 _) ?_
                  exact (((((((hQ.2.2 c1).2.1 c3) ρ2 hr2).2.1 c5) ρ3 hr3).2.2 c7) ρ5 hr5)
            · exact absurd c6 (by decide)
          · refine And.intro (fun (c6 : ¬ (1 : Int32) = 0) => ?_) (fun (c6 : (1 : Int32) = 0) => ?_)
            · refine And.intro rfl ?_
              refine And.intro (show mo_cS (mo_rowI σ 32 0 ρ2) from ((((hQ.2.2 c1).2.1 c3) ρ2 hr2).2.2 c5).1) ?_
              refine And.intro (fun (c7 : (mo_cver (mo_rowI σ 32 0 ρ2)).1) => ?_) (fun (c7 : ¬ (mo_cver (mo_rowI σ 32 0 ρ2)).1) => ?_)
              · intro ρ6 hr6
                refine And.intro (fun (c8 : ¬ (1 : Int32) = 0) => ?_) (fun (c8 : (1 : Int32) = 0) => ?_)
                · refine And.intro (fun (c9 : (0 : Int32) = 0) => ?_) (fun (c9 : ¬ (0 : Int32) = 0) => ?_)
                  · refine And.intro (fun (c10 : (0 : Int32) = 0) => ?_) (fun (c10 : ¬ (0 : Int32) = 0) => ?_)
                    · refine And.intro (fun (c11 : (1 : Int32) = 0) => ?_) (fun (c11 : ¬ (1 : Int32) = 0) => ?_)
                      · exact absurd c11 (by decide)
                      · refine And.intro (fun (c12 : (0 : Int32) = 0) => ?_) (fun (c12 : ¬ (0 : Int32) = 0) => ?_)
                        · refine And.intro (show w < 20 from ((((((hQ.2.2 c1).2.1 c3) ρ2 hr2).2.2 c5).2.1 c7) ρ6 hr6).1) ?_
                          refine Exists.intro w (Exists.intro (0 : Int32) (Exists.intro ((ρ6 5) - (1 : Int32)) (And.intro rfl ?_)))
                          refine And.intro (show w < 20 ∧ 0 < (σ.1 39 w 2).toNatClampNeg ∧ mo_le (σ.1 39 w 2) 30 from ((((((hQ.2.2 c1).2.1 c3) ρ2 hr2).2.2 c5).2.1 c7) ρ6 hr6).2.1) ?_
                          refine And.intro (by first | decide | exact mo_bl01 _) ?_
                          exact ((((((hQ.2.2 c1).2.1 c3) ρ2 hr2).2.2 c5).2.1 c7) ρ6 hr6).2.2
                        · exact absurd c12 (by decide)
                    · exact absurd c10 (by decide)
                  · exact absurd c9 (by decide)
                · exact absurd c8 (by decide)
              · intro ρ7 hr7
                refine And.intro (fun (c8 : ¬ (0 : Int32) = 0) => ?_) (fun (c8 : (0 : Int32) = 0) => ?_)
                · exact absurd c8 (by decide)
                · refine And.intro (by first | decide | exact mo_bl01 _) ?_
                  exact ((((((hQ.2.2 c1).2.1 c3) ρ2 hr2).2.2 c5).2.2 c7) ρ7 hr7)
            · exact absurd c6 (by decide)
        · exact absurd c4 (by decide)
      · refine And.intro (fun (c4 : ¬ (0 : Int32) = 0) => ?_) (fun (c4 : (0 : Int32) = 0) => ?_)
        · exact absurd c4 (by decide)
        · refine Exists.intro (62 : Int32) (And.intro rfl ?_)
          refine And.intro (show mo_cS σ from ((hQ.2.2 c1).2.2 c3).1) ?_
          refine And.intro (fun (c5 : mo_csg σ (62 : Int32)) => ?_) (fun (c5 : ¬ mo_csg σ (62 : Int32)) => ?_)
          · intro ρ8 hr8
            refine And.intro (fun (c6 : (1 : Int32) = 0) => ?_) (fun (c6 : ¬ (1 : Int32) = 0) => ?_)
            · exact absurd c6 (by decide)
            · refine Exists.intro (61 : Int32) (And.intro rfl ?_)
              refine And.intro (show mo_cS (mo_rowI σ 32 0 ρ8) from ((((hQ.2.2 c1).2.2 c3).2.1 c5) ρ8 hr8).1) ?_
              refine And.intro (fun (c7 : mo_csg (mo_rowI σ 32 0 ρ8) (61 : Int32)) => ?_) (fun (c7 : ¬ mo_csg (mo_rowI σ 32 0 ρ8) (61 : Int32)) => ?_)
              · intro ρ9 hr9
                refine And.intro (fun (c8 : ¬ (0 : Int32) = 0) => ?_) (fun (c8 : (0 : Int32) = 0) => ?_)
                · exact absurd c8 (by decide)
                · refine And.intro (fun (c9 : ¬ (1 : Int32) = 0) => ?_) (fun (c9 : (1 : Int32) = 0) => ?_)
                  · refine And.intro rfl ?_
                    refine And.intro (show mo_cS (mo_rowI (mo_rowI σ 32 0 ρ8) 32 0 ρ9) from ((((((hQ.2.2 c1).2.2 c3).2.1 c5) ρ8 hr8).2.1 c7) ρ9 hr9).1) ?_
                    refine And.intro (fun (c10 : (mo_cver (mo_rowI (mo_rowI σ 32 0 ρ8) 32 0 ρ9)).1) => ?_) (fun (c10 : ¬ (mo_cver (mo_rowI (mo_rowI σ 32 0 ρ8) 32 0 ρ9)).1) => ?_)
                    · intro ρ10 hr10
                      refine And.intro (fun (c11 : ¬ (1 : Int32) = 0) => ?_) (fun (c11 : (1 : Int32) = 0) => ?_)
                      · refine And.intro (fun (c12 : (1 : Int32) = 0) => ?_) (fun (c12 : ¬ (1 : Int32) = 0) => ?_)
                        · exact absurd c12 (by decide)
                        · refine And.intro (fun (c13 : (1 : Int32) = 0) => ?_) (fun (c13 : ¬ (1 : Int32) = 0) => ?_)
                          · exact absurd c13 (by decide)
                          · refine And.intro (fun (c14 : (0 : Int32) = 0) => ?_) (fun (c14 : ¬ (0 : Int32) = 0) => ?_)
                            · refine And.intro (fun (c15 : (1 : Int32) = 0) => ?_) (fun (c15 : ¬ (1 : Int32) = 0) => ?_)
                              · exact absurd c15 (by decide)
                              · refine And.intro (show w < 20 from ((((((((hQ.2.2 c1).2.2 c3).2.1 c5) ρ8 hr8).2.1 c7) ρ9 hr9).2.1 c10) ρ10 hr10).1) ?_
                                refine Exists.intro w (Exists.intro (ρ10 5) (Exists.intro (999999999 : Int32) (And.intro rfl ?_)))
                                refine And.intro (show w < 20 ∧ 0 < (σ.1 39 w 2).toNatClampNeg ∧ mo_le (σ.1 39 w 2) 30 from ((((((((hQ.2.2 c1).2.2 c3).2.1 c5) ρ8 hr8).2.1 c7) ρ9 hr9).2.1 c10) ρ10 hr10).2.1) ?_
                                refine And.intro (by first | decide | exact mo_bl01 _) ?_
                                exact ((((((((hQ.2.2 c1).2.2 c3).2.1 c5) ρ8 hr8).2.1 c7) ρ9 hr9).2.1 c10) ρ10 hr10).2.2
                            · exact absurd c14 (by decide)
                      · exact absurd c11 (by decide)
                    · intro ρ11 hr11
                      refine And.intro (fun (c11 : ¬ (0 : Int32) = 0) => ?_) (fun (c11 : (0 : Int32) = 0) => ?_)
                      · exact absurd c11 (by decide)
                      · refine And.intro (by first | decide | exact mo_bl01 _) ?_
                        exact ((((((((hQ.2.2 c1).2.2 c3).2.1 c5) ρ8 hr8).2.1 c7) ρ9 hr9).2.2 c10) ρ11 hr11)
                  · exact absurd c9 (by decide)
              · refine And.intro (fun (c8 : ¬ (0 : Int32) = 0) => ?_) (fun (c8 : (0 : Int32) = 0) => ?_)
                · exact absurd c8 (by decide)
                · refine And.intro (fun (c9 : ¬ (1 : Int32) = 0) => ?_) (fun (c9 : (1 : Int32) = 0) => ?_)
                  · refine And.intro rfl ?_
                    refine And.intro (show mo_cS (mo_rowI σ 32 0 ρ8) from (((((hQ.2.2 c1).2.2 c3).2.1 c5) ρ8 hr8).2.2 c7).1) ?_
                    refine And.intro (fun (c10 : (mo_cver (mo_rowI σ 32 0 ρ8)).1) => ?_) (fun (c10 : ¬ (mo_cver (mo_rowI σ 32 0 ρ8)).1) => ?_)
                    · intro ρ12 hr12
                      refine And.intro (fun (c11 : ¬ (1 : Int32) = 0) => ?_) (fun (c11 : (1 : Int32) = 0) => ?_)
                      · refine And.intro (fun (c12 : (0 : Int32) = 0) => ?_) (fun (c12 : ¬ (0 : Int32) = 0) => ?_)
                        · refine And.intro (fun (c13 : (0 : Int32) = 0) => ?_) (fun (c13 : ¬ (0 : Int32) = 0) => ?_)
                          · refine And.intro (fun (c14 : (0 : Int32) = 0) => ?_) (fun (c14 : ¬ (0 : Int32) = 0) => ?_)
                            · refine And.intro (fun (c15 : (1 : Int32) = 0) => ?_) (fun (c15 : ¬ (1 : Int32) = 0) => ?_)
                              · exact absurd c15 (by decide)
                              · refine And.intro (show w < 20 from (((((((hQ.2.2 c1).2.2 c3).2.1 c5) ρ8 hr8).2.2 c7).2.1 c10) ρ12 hr12).1) ?_
                                refine Exists.intro w (Exists.intro ((ρ12 5) + (1 : Int32)) (Exists.intro (999999999 : Int32) (And.intro rfl ?_)))
                                refine And.intro (show w < 20 ∧ 0 < (σ.1 39 w 2).toNatClampNeg ∧ mo_le (σ.1 39 w 2) 30 from (((((((hQ.2.2 c1).2.2 c3).2.1 c5) ρ8 hr8).2.2 c7).2.1 c10) ρ12 hr12).2.1) ?_
                                refine And.intro (by first | decide | exact mo_bl01 _) ?_
                                exact (((((((hQ.2.2 c1).2.2 c3).2.1 c5) ρ8 hr8).2.2 c7).2.1 c10) ρ12 hr12).2.2
                            · exact absurd c14 (by decide)
                          · exact absurd c13 (by decide)
                        · exact absurd c12 (by decide)
                      · exact absurd c11 (by decide)
                    · intro ρ13 hr13
                      refine And.intro (fun (c11 : ¬ (0 : Int32) = 0) => ?_) (fun (c11 : (0 : Int32) = 0) => ?_)
                      · exact absurd c11 (by decide)
                      · refine And.intro (by first | decide | exact mo_bl01 _) ?_
                        exact (((((((hQ.2.2 c1).2.2 c3).2.1 c5) ρ8 hr8).2.2 c7).2.2 c10) ρ13 hr13)
                  · exact absurd c9 (by decide)
          · refine And.intro (fun (c6 : (0 : Int32) = 0) => ?_) (fun (c6 : ¬ (0 : Int32) = 0) => ?_)
            · refine Exists.intro (61 : Int32) (And.intro rfl ?_)
              refine And.intro (show mo_cS σ from (((hQ.2.2 c1).2.2 c3).2.2 c5).1) ?_
              refine And.intro (fun (c7 : mo_csg σ (61 : Int32)) => ?_) (fun (c7 : ¬ mo_csg σ (61 : Int32)) => ?_)
              · intro ρ14 hr14
                refine And.intro (fun (c8 : ¬ (0 : Int32) = 0) => ?_) (fun (c8 : (0 : Int32) = 0) => ?_)
                · exact absurd c8 (by decide)
                · refine And.intro (fun (c9 : ¬ (0 : Int32) = 0) => ?_) (fun (c9 : (0 : Int32) = 0) => ?_)
                  · exact absurd c9 (by decide)
                  · refine And.intro (fun (c10 : (1 : Int32) = 0) => ?_) (fun (c10 : ¬ (1 : Int32) = 0) => ?_)
                    · exact absurd c10 (by decide)
                    · refine And.intro rfl ?_
                      refine And.intro (show mo_cS (mo_rowI σ 32 0 ρ14) from (((((hQ.2.2 c1).2.2 c3).2.2 c5).2.1 c7) ρ14 hr14).1) ?_
                      refine And.intro (fun (c11 : (mo_cver (mo_rowI σ 32 0 ρ14)).1) => ?_) (fun (c11 : ¬ (mo_cver (mo_rowI σ 32 0 ρ14)).1) => ?_)
                      · intro ρ15 hr15
                        refine And.intro (fun (c12 : ¬ (1 : Int32) = 0) => ?_) (fun (c12 : (1 : Int32) = 0) => ?_)
                        · refine And.intro (fun (c13 : (1 : Int32) = 0) => ?_) (fun (c13 : ¬ (1 : Int32) = 0) => ?_)
                          · exact absurd c13 (by decide)
                          · refine And.intro (fun (c14 : (1 : Int32) = 0) => ?_) (fun (c14 : ¬ (1 : Int32) = 0) => ?_)
                            · exact absurd c14 (by decide)
                            · refine And.intro (fun (c15 : (0 : Int32) = 0) => ?_) (fun (c15 : ¬ (0 : Int32) = 0) => ?_)
                              · refine And.intro (fun (c16 : (0 : Int32) = 0) => ?_) (fun (c16 : ¬ (0 : Int32) = 0) => ?_)
                                · refine And.intro (show w < 20 from (((((((hQ.2.2 c1).2.2 c3).2.2 c5).2.1 c7) ρ14 hr14).2.1 c11) ρ15 hr15).1) ?_
                                  refine Exists.intro w (Exists.intro (ρ15 5) (Exists.intro (ρ15 5) (And.intro rfl ?_)))
                                  refine And.intro (show w < 20 ∧ 0 < (σ.1 39 w 2).toNatClampNeg ∧ mo_le (σ.1 39 w 2) 30 from (((((((hQ.2.2 c1).2.2 c3).2.2 c5).2.1 c7) ρ14 hr14).2.1 c11) ρ15 hr15).2.1) ?_
                                  refine And.intro (by first | decide | exact mo_bl01 _) ?_
                                  exact (((((((hQ.2.2 c1).2.2 c3).2.2 c5).2.1 c7) ρ14 hr14).2.1 c11) ρ15 hr15).2.2
                                · exact absurd c16 (by decide)
                              · exact absurd c15 (by decide)
                        · exact absurd c12 (by decide)
                      · intro ρ16 hr16
                        refine And.intro (fun (c12 : ¬ (0 : Int32) = 0) => ?_) (fun (c12 : (0 : Int32) = 0) => ?_)
                        · exact absurd c12 (by decide)
                        · refine And.intro (by first | decide | exact mo_bl01 _) ?_
                          exact (((((((hQ.2.2 c1).2.2 c3).2.2 c5).2.1 c7) ρ14 hr14).2.2 c11) ρ16 hr16)
              · refine And.intro (fun (c8 : ¬ (0 : Int32) = 0) => ?_) (fun (c8 : (0 : Int32) = 0) => ?_)
                · exact absurd c8 (by decide)
                · refine And.intro (fun (c9 : ¬ (0 : Int32) = 0) => ?_) (fun (c9 : (0 : Int32) = 0) => ?_)
                  · exact absurd c9 (by decide)
                  · refine And.intro (fun (c10 : (0 : Int32) = 0) => ?_) (fun (c10 : ¬ (0 : Int32) = 0) => ?_)
                    · refine And.intro (by first | decide | exact mo_bl01 _) ?_
                      exact ((((hQ.2.2 c1).2.2 c3).2.2 c5).2.2 c7)
                    · exact absurd c10 (by decide)
            · exact absurd c6 (by decide)
    · exact absurd c2 (by decide)
