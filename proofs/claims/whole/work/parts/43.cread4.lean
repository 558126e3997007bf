def mo_opn (σ : mo_M) (w : Nat) : mo_M := if (σ.1 39 w 2).toNatClampNeg < 30 then mo_wI (mo_wI (mo_wI σ 40 w (σ.1 39 w 2).toNatClampNeg 0) 41 w (σ.1 39 w 2).toNatClampNeg 999999999) 39 w 2 (nI ((σ.1 39 w 2).toNatClampNeg + 1)) else σ
def mo_beg (σ : mo_M) (w : Nat) (a : Int32) : mo_M := mo_wI (mo_wI (mo_wI (mo_wI (mo_wI σ 39 w 3 a) 39 w 2 0) 40 w 0 0) 41 w 0 999999999) 39 w 2 1
def SN_X9_openTerm : mo_S := fun as σ Q => ∃ w : Nat, as = [.inr (.inr (39, w))] ∧ ((w < 20 ∧ mo_le (σ.1 39 w 2) 30) ∧ Q (none) (mo_opn σ w))
theorem mN_X9_openTerm : ∀ (as : List mo_V) (σ : mo_M) (P P' : mo_Q), (∀ x τ, P x τ → P' x τ) → SN_X9_openTerm as σ P → SN_X9_openTerm as σ P' := by
  rintro as σ P P' hm ⟨w, e, hq⟩
  exact ⟨w, e, ⟨hq.1, hm _ _ hq.2⟩⟩

def SN_X9_begin : mo_S := fun as σ Q => ∃ w : Nat, ∃ a : Int32, as = [.inr (.inr (39, w)), .inl a] ∧ ((w < 20) ∧ Q (none) (mo_beg σ w a))
theorem mN_X9_begin : ∀ (as : List mo_V) (σ : mo_M) (P P' : mo_Q), (∀ x τ, P x τ → P' x τ) → SN_X9_begin as σ P → SN_X9_begin as σ P' := by
  rintro as σ P P' hm ⟨w, a, e, hq⟩
  exact ⟨w, a, e, ⟨hq.1, hm _ _ hq.2⟩⟩

theorem ctN_X9_openTerm : mo_ct yX9_openTerm t_X9_openTerm SN_X9_openTerm := mo_ct_imp ct_X9_openTerm (by
  rintro as σ Q ⟨w, rfl, ⟨hw, h1, h2⟩, hq⟩
  refine ⟨w, rfl, hw, fun q => ?_, fun q => ?_⟩
  · rw [h1, show (30 : Int32) = nI 30 from rfl, nI_leI (by omega) (by omega)] at q
    have e : mo_opn σ w = σ := if_neg (by omega)
    rw [e] at hq; exact hq
  · rw [h1, show (30 : Int32) = nI 30 from rfl, nI_leI (by omega) (by omega)] at q
    have e : mo_opn σ w = _ := if_pos (by omega)
    have hv : vp_in (σ.1 39 w 2) 30 := by rw [h1]; exact mo_inN (by omega) (by decide)
    have e1 : σ.1 39 w 2 + (1 : Int32) = nI ((σ.1 39 w 2).toNatClampNeg + 1) := (congrArg (fun z => z + 1) h1).trans (nI_1 _)
    rw [e] at hq
    simp only [hw, hv, e1, true_and]
    exact hq)
theorem ctN_X9_begin : mo_ct yX9_begin t_X9_begin SN_X9_begin := mo_ct_imp ct_X9_begin (by
  rintro as σ Q ⟨w, a, rfl, hw, hq⟩
  have e : (mo_wI (mo_wI σ 39 w 3 a) 39 w 2 (0 : Int32)).1 39 w 2 = 0 := mo_wIg _ _ _ _ _
  have hv : vp_in (0 : Int32) 30 := by unfold vp_in; decide
  have e0 : (0 : Int32).toNatClampNeg = 0 := rfl
  refine ⟨w, a, rfl, ?_⟩
  simp only [hw, e, hv, e0, true_and]
  refine ⟨fun q => absurd q (by decide), fun _ => ?_⟩
  exact hq)
def cs_X7_read : Nat → mo_C := fun j => match j with
  | 0 => (1, true, 31, 7, S_X7_step)
  | 1 => (2, true, 36, 7, S_X7_takeWord)
  | 2 => (2, true, 40, 7, S_X7_takeNumber)
  | 3 => (2, true, 44, 9, SN_X9_begin)
  | 4 => (2, true, 50, 7, S_X7_readTest)
  | 5 => (1, true, 56, 9, SN_X9_openTerm)
  | _ => (0, false, 0, 50, fun _ _ _ => False)
theorem cs_X7_read_ok (g : mo_E) : ∀ j, mo_cok g t_X7_read (cs_X7_read j) ∧ mo_mon (cs_X7_read j) := by
  intro j
  unfold cs_X7_read
  split
  · exact ⟨mo_cokV ct_X7_step (by decide) ⟨_, _, rfl⟩ (by decide +kernel), m_X7_step⟩
  · exact ⟨mo_cokV ct_X7_takeWord (by decide) ⟨_, _, rfl⟩ (by decide +kernel), m_X7_takeWord⟩
  · exact ⟨mo_cokV ct_X7_takeNumber (by decide) ⟨_, _, rfl⟩ (by decide +kernel), m_X7_takeNumber⟩
  · exact ⟨mo_cokV ctN_X9_begin (by decide) ⟨_, _, rfl⟩ (by decide +kernel), mN_X9_begin⟩
  · exact ⟨mo_cokV ct_X7_readTest (by decide) ⟨_, _, rfl⟩ (by decide +kernel), m_X7_readTest⟩
  · exact ⟨mo_cokV ctN_X9_openTerm (by decide) ⟨_, _, rfl⟩ (by decide +kernel), mN_X9_openTerm⟩
  · exact ⟨mo_cok0 g _, mo_mon0⟩

def BT_X7_read (a : Int32) (w : Nat) (k : Nat) (KK : Int32 → mo_M → Prop) (σ : mo_M) (Q : mo_Q) : Prop := (((30 : Int32) ≤ (nI k) → Q (some (.inl (σ.1 32 0 2))) (σ)) ∧ (¬ (30 : Int32) ≤ (nI k) → ((mo_cS σ ∧ w < 20 ∧ 0 < (σ.1 39 w 2).toNatClampNeg ∧ mo_le (σ.1 39 w 2) 30) ∧ (((mo_ctst σ).1 → (∀ ρ1 : Nat → Int32, ∀ x1 : Int32, ∀ y1 : Int32, (mo_cto σ ρ1 (mo_ctst σ).2.1 ∧ (∀ v : Int32, 0 ≤ v → v ≤ 999999999 → ((x1 ≤ v ∧ v ≤ y1) ↔ (σ.1 40 w ((σ.1 39 w 2).toNatClampNeg - 1) ≤ v ∧ v ≤ σ.1 41 w ((σ.1 39 w 2).toNatClampNeg - 1)) ∧ tk_hd (mo_ctst σ).2.2.1 (nI (mo_ctst σ).2.2.2) v))) → ((mo_cS (mo_rowI (mo_wI (mo_wI σ 40 w ((σ.1 39 w 2).toNatClampNeg - 1) x1) 41 w ((σ.1 39 w 2).toNatClampNeg - 1) y1) 32 0 ρ1) ∧ 91 ≤ 92 ∧ 92 ≤ 94) ∧ ((mo_cwd (mo_rowI (mo_wI (mo_wI σ 40 w ((σ.1 39 w 2).toNatClampNeg - 1) x1) 41 w ((σ.1 39 w 2).toNatClampNeg - 1) y1) 32 0 ρ1) 92 → (∀ ρ2 : Nat → Int32, (mo_cto (mo_rowI (mo_wI (mo_wI σ 40 w ((σ.1 39 w 2).toNatClampNeg - 1) x1) 41 w ((σ.1 39 w 2).toNatClampNeg - 1) y1) 32 0 ρ1) ρ2 (mo_cN (mo_rowI (mo_wI (mo_wI σ 40 w ((σ.1 39 w 2).toNatClampNeg - 1) x1) 41 w ((σ.1 39 w 2).toNatClampNeg - 1) y1) 32 0 ρ1)) ∧ ρ2 4 = (mo_rowI (mo_wI (mo_wI σ 40 w ((σ.1 39 w 2).toNatClampNeg - 1) x1) 41 w ((σ.1 39 w 2).toNatClampNeg - 1) y1) 32 0 ρ1).1 32 0 4 ∧ ρ2 5 = (mo_rowI (mo_wI (mo_wI σ 40 w ((σ.1 39 w 2).toNatClampNeg - 1) x1) 41 w ((σ.1 39 w 2).toNatClampNeg - 1) y1) 32 0 ρ1).1 32 0 5) → ((w < 20) ∧ ((w < 20 ∧ mo_le (σ.1 39 w 2) 30) ∧ KK ((nI k) + (1 : Int32)) (mo_opn (mo_rowI (mo_rowI (mo_wI (mo_wI σ 40 w ((σ.1 39 w 2).toNatClampNeg - 1) x1) 41 w ((σ.1 39 w 2).toNatClampNeg - 1) y1) 32 0 ρ1) 32 0 ρ2) w))))) ∧ (¬ mo_cwd (mo_rowI (mo_wI (mo_wI σ 40 w ((σ.1 39 w 2).toNatClampNeg - 1) x1) 41 w ((σ.1 39 w 2).toNatClampNeg - 1) y1) 32 0 ρ1) 92 → ((mo_cS (mo_rowI (mo_wI (mo_wI σ 40 w ((σ.1 39 w 2).toNatClampNeg - 1) x1) 41 w ((σ.1 39 w 2).toNatClampNeg - 1) y1) 32 0 ρ1) ∧ 91 ≤ 93 ∧ 93 ≤ 94) ∧ ((mo_cwd (mo_rowI (mo_wI (mo_wI σ 40 w ((σ.1 39 w 2).toNatClampNeg - 1) x1) 41 w ((σ.1 39 w 2).toNatClampNeg - 1) y1) 32 0 ρ1) 93 → (∀ ρ3 : Nat → Int32, (mo_cto (mo_rowI (mo_wI (mo_wI σ 40 w ((σ.1 39 w 2).toNatClampNeg - 1) x1) 41 w ((σ.1 39 w 2).toNatClampNeg - 1) y1) 32 0 ρ1) ρ3 (mo_cN (mo_rowI (mo_wI (mo_wI σ 40 w ((σ.1 39 w 2).toNatClampNeg - 1) x1) 41 w ((σ.1 39 w 2).toNatClampNeg - 1) y1) 32 0 ρ1)) ∧ ρ3 4 = (mo_rowI (mo_wI (mo_wI σ 40 w ((σ.1 39 w 2).toNatClampNeg - 1) x1) 41 w ((σ.1 39 w 2).toNatClampNeg - 1) y1) 32 0 ρ1).1 32 0 4 ∧ ρ3 5 = (mo_rowI (mo_wI (mo_wI σ 40 w ((σ.1 39 w 2).toNatClampNeg - 1) x1) 41 w ((σ.1 39 w 2).toNatClampNeg - 1) y1) 32 0 ρ1).1 32 0 5) → KK ((nI k) + (1 : Int32)) (mo_rowI (mo_rowI (mo_wI (mo_wI σ 40 w ((σ.1 39 w 2).toNatClampNeg - 1) x1) 41 w ((σ.1 39 w 2).toNatClampNeg - 1) y1) 32 0 ρ1) 32 0 ρ3))) ∧ (¬ mo_cwd (mo_rowI (mo_wI (mo_wI σ 40 w ((σ.1 39 w 2).toNatClampNeg - 1) x1) 41 w ((σ.1 39 w 2).toNatClampNeg - 1) y1) 32 0 ρ1) 93 → ((¬ (ρ1 1) = 0 → Q (some (.inl (ρ1 2))) (mo_rowI (mo_wI (mo_wI σ 40 w ((σ.1 39 w 2).toNatClampNeg - 1) x1) 41 w ((σ.1 39 w 2).toNatClampNeg - 1) y1) 32 0 ρ1)) ∧ ((ρ1 1) = 0 → Q (some (.inl (-1 : Int32))) (mo_rowI (mo_wI (mo_wI σ 40 w ((σ.1 39 w 2).toNatClampNeg - 1) x1) 41 w ((σ.1 39 w 2).toNatClampNeg - 1) y1) 32 0 ρ1))))))))))) ∧ (¬ (mo_ctst σ).1 → (∀ ρ4 : Nat → Int32, (mo_cto σ ρ4 (mo_ctst σ).2.1) → Q (some (.inl (ρ4 2))) (mo_rowI σ 32 0 ρ4)))))))
set_option maxRecDepth 20000 in
set_option maxHeartbeats 4000000 in
theorem bt_X7_read (g : mo_E) (a : Int32) (w : Nat) (k : Nat) (KK : Int32 → mo_M → Prop) (σ : mo_M) (Q : mo_Q) (hB : BT_X7_read a w k KK σ Q) (hKK : ∀ j τ, KK j τ → mo_X g t_X7_read Q 43 [some (.inr (.inr (32, 0))), some (.inl a), some (.inr (.inr (39, w))), some (.inl j)] [] τ) : mo_X g t_X7_read Q 43 [some (.inr (.inr (32, 0))), some (.inl a), some (.inr (.inr (39, w))), some (.inl (nI k))] [] σ := by
  refine mo_go ok_X7_read (cs_X7_read_ok g) [43] 59 ?_
  intro K hK
  refine And.intro (fun (c1 : (30 : Int32) ≤ (nI k)) => ?_) (fun (c1 : ¬ (30 : Int32) ≤ (nI k)) => ?_)
  · exact (hB.1 c1)
  · refine Exists.intro w (And.intro rfl ?_)
    refine And.intro (show mo_cS σ ∧ w < 20 ∧ 0 < (σ.1 39 w 2).toNatClampNeg ∧ mo_le (σ.1 39 w 2) 30 from (hB.2 c1).1) ?_
    refine And.intro (fun (c2 : (mo_ctst σ).1) => ?_) (fun (c2 : ¬ (mo_ctst σ).1) => ?_)
    · intro ρ1 x1 y1 hr1
      refine And.intro (fun (c3 : ¬ (1 : Int32) = 0) => ?_) (fun (c3 : (1 : Int32) = 0) => ?_)
      · refine Exists.intro 92 (And.intro rfl ?_)
        refine And.intro (show mo_cS (mo_rowI (mo_wI (mo_wI σ 40 w ((σ.1 39 w 2).toNatClampNeg - 1) x1) 41 w ((σ.1 39 w 2).toNatClampNeg - 1) y1) 32 0 ρ1) ∧ 91 ≤ 92 ∧ 92 ≤ 94 from (((hB.2 c1).2.1 c2) ρ1 x1 y1 hr1).1) ?_
        refine And.intro (fun (c4 : mo_cwd (mo_rowI (mo_wI (mo_wI σ 40 w ((σ.1 39 w 2).toNatClampNeg - 1) x1) 41 w ((σ.1 39 w 2).toNatClampNeg - 1) y1) 32 0 ρ1) 92) => ?_) (fun (c4 : ¬ mo_cwd (mo_rowI (mo_wI (mo_wI σ 40 w ((σ.1 39 w 2).toNatClampNeg - 1) x1) 41 w ((σ.1 39 w 2).toNatClampNeg - 1) y1) 32 0 ρ1) 92) => ?_)
        · intro ρ2 hr2
          refine And.intro (fun (c5 : (1 : Int32) = 0) => ?_) (fun (c5 : ¬ (1 : Int32) = 0) => ?_)
          · exact absurd c5 (by decide)
          · refine And.intro (show w < 20 from (((((hB.2 c1).2.1 c2) ρ1 x1 y1 hr1).2.1 c4) ρ2 hr2).1) ?_
            refine Exists.intro w (And.intro rfl ?_)
            refine And.intro (show w < 20 ∧ mo_le (σ.1 39 w 2) 30 from (((((hB.2 c1).2.1 c2) ρ1 x1 y1 hr1).2.1 c4) ρ2 hr2).2.1) ?_
            exact hK _ _ _ _ (hKK _ _ (((((hB.2 c1).2.1 c2) ρ1 x1 y1 hr1).2.1 c4) ρ2 hr2).2.2)
        · refine And.intro (fun (c5 : (0 : Int32) = 0) => ?_) (fun (c5 : ¬ (0 : Int32) = 0) => ?_)
          · refine Exists.intro 93 (And.intro rfl ?_)
            refine And.intro (show mo_cS (mo_rowI (mo_wI (mo_wI σ 40 w ((σ.1 39 w 2).toNatClampNeg - 1) x1) 41 w ((σ.1 39 w 2).toNatClampNeg - 1) y1) 32 0 ρ1) ∧ 91 ≤ 93 ∧ 93 ≤ 94 from ((((hB.2 c1).2.1 c2) ρ1 x1 y1 hr1).2.2 c4).1) ?_
            refine And.intro (fun (c6 : mo_cwd (mo_rowI (mo_wI (mo_wI σ 40 w ((σ.1 39 w 2).toNatClampNeg - 1) x1) 41 w ((σ.1 39 w 2).toNatClampNeg - 1) y1) 32 0 ρ1) 93) => ?_) (fun (c6 : ¬ mo_cwd (mo_rowI (mo_wI (mo_wI σ 40 w ((σ.1 39 w 2).toNatClampNeg - 1) x1) 41 w ((σ.1 39 w 2).toNatClampNeg - 1) y1) 32 0 ρ1) 93) => ?_)
            · intro ρ3 hr3
              refine And.intro (fun (c7 : ¬ (1 : Int32) = 0) => ?_) (fun (c7 : (1 : Int32) = 0) => ?_)
              · exact hK _ _ _ _ (hKK _ _ ((((((hB.2 c1).2.1 c2) ρ1 x1 y1 hr1).2.2 c4).2.1 c6) ρ3 hr3))
              · exact absurd c7 (by decide)
            · refine And.intro (fun (c7 : ¬ (0 : Int32) = 0) => ?_) (fun (c7 : (0 : Int32) = 0) => ?_)
              · exact absurd c7 (by decide)
              · refine And.intro (fun (c8 : ¬ (ρ1 1) = 0) => ?_) (fun (c8 : (ρ1 1) = 0) => ?_)
                · exact ((((((hB.2 c1).2.1 c2) ρ1 x1 y1 hr1).2.2 c4).2.2 c6).1 c8)
                · exact ((((((hB.2 c1).2.1 c2) ρ1 x1 y1 hr1).2.2 c4).2.2 c6).2 c8)
          · exact absurd c5 (by decide)
      · exact absurd c3 (by decide)
    · intro ρ4 hr4
      refine And.intro (fun (c3 : ¬ (0 : Int32) = 0) => ?_) (fun (c3 : (0 : Int32) = 0) => ?_)
      · exact absurd c3 (by decide)
      · exact (((hB.2 c1).2.2 c2) ρ4 hr4)
