noncomputable def mo_ask (σ : mo_M) : Nat → Int32 := mo_fo (fun k s => mo_ite (mo_pc (nI (1022 - k)) ≤ mo_pc s ∧ (∀ u, u < 10 → ¬ (¬ mo_bt (nI (1022 - k)).toInt64 (nI u) ∧ ¬ (σ.1 37 0 u &&& (nI (1022 - k) ^^^ (-1 : Int32))) = 0))) (nI (1022 - k)) s) (1023 : Int32)
def cs_X11_calls : Nat → mo_C := fun j => match j with
  | 0 => (1, false, 137, 50, S_X11_isDay)
  | 1 => (2, true, 246, 11, S_X11_raiseQuestions)
  | 2 => (1, false, 229, 50, S_J6_bitCount_0f7a4)
  | 3 => (2, true, 249, 6, S_X6_areSettledBy)
  | _ => (0, false, 0, 50, fun _ _ _ => False)
theorem cs_X11_calls_ok (g : mo_E) : ∀ j, mo_cok g t_X11_calls (cs_X11_calls j) ∧ mo_mon (cs_X11_calls j) := by
  intro j
  unfold cs_X11_calls
  split
  · exact ⟨mo_cokS ct_X11_isDay (by decide +kernel), m_X11_isDay⟩
  · exact ⟨mo_cokV ct_X11_raiseQuestions (by decide) ⟨_, _, rfl⟩ (by decide +kernel), m_X11_raiseQuestions⟩
  · exact ⟨mo_cokS ct_J6_bitCount_0f7a4 (by decide +kernel), m_J6_bitCount_0f7a4⟩
  · exact ⟨mo_cokV ct_X6_areSettledBy (by decide) ⟨_, _, rfl⟩ (by decide +kernel), m_X6_areSettledBy⟩
  · exact ⟨mo_cok0 g _, mo_mon0⟩

set_option maxRecDepth 20000 in
set_option maxHeartbeats 2000000 in
theorem lp_X11_calls (g : mo_E) (σ : mo_M) (Q : mo_Q) (a : Int32) (hQ : Q (some (.inl (mo_ask σ 1023))) σ) : ∀ j : Nat, j ≤ 1023 → mo_X g t_X11_calls Q 22 [some (.inr (.inr (0, 0))), some (.inl a), some (.inl (mo_ask σ (1023 - j))), some (.inl (nI j + (-1 : Int32)))] [] σ := by
  intro j
  induction j with
  | zero =>
    intro _
    refine (show mo_X g t_X11_calls Q 22 [some (.inr (.inr (0, 0))), some (.inl a), some (.inl (mo_ask σ 1023)), some (.inl (-1 : Int32))] [] σ from ?_)
    refine mo_go ok_X11_calls (cs_X11_calls_ok g) [22] 33 ?_
    intro K hK
    refine And.intro (fun (c1 : (-1 : Int32) < 0) => ?_) (fun (c1 : ¬ (-1 : Int32) < 0) => ?_)
    · exact hQ
    · exact absurd c1 (by decide)
  | succ j ih =>
    intro hj
    rw [pk_m1]
    have ej : 1022 - (1023 - (j + 1)) = j := by omega
    refine mo_go ok_X11_calls (cs_X11_calls_ok g) [22] 33 ?_
    intro K hK
    refine And.intro (fun (c1 : (nI j) < 0) => ?_) (fun (c1 : ¬ (nI j) < 0) => ?_)
    · exact absurd c1 (by exact nI_pos (by omega))
    · refine Exists.intro (nI j) (And.intro rfl (And.intro (show True by trivial) ?_))
      refine Exists.intro (mo_ask σ (1023 - (j + 1))) (And.intro rfl (And.intro (show True by trivial) ?_))
      refine And.intro (fun (c2 : (mo_pc (mo_ask σ (1023 - (j + 1)))) < (mo_pc (nI j))) => ?_) (fun (c2 : ¬ (mo_pc (mo_ask σ (1023 - (j + 1)))) < (mo_pc (nI j))) => ?_)
      · (have e : mo_ask σ (1023 - (j + 1) + 1) = mo_ask σ (1023 - (j + 1)) := mo_ite_f (fun q => by rw [ej] at q; exact absurd q.1 (Int32.not_le.mpr c2)); rw [show 1023 - (j + 1) + 1 = 1023 - j from by omega] at e; have hih := ih (by omega); (try rw [ej] at e); rw [e] at hih; exact hK _ _ _ _ hih)
      · refine Exists.intro (nI j) (And.intro rfl (And.intro (show True by trivial) ?_))
        refine And.intro (fun (c3 : (mo_bl (∀ k_, k_ < 10 → ¬ (¬ mo_bt (nI j).toInt64 (nI k_) ∧ ¬ (σ.1 37 0 k_ &&& ((nI j) ^^^ (-1 : Int32))) = 0))) = 0) => ?_) (fun (c3 : ¬ (mo_bl (∀ k_, k_ < 10 → ¬ (¬ mo_bt (nI j).toInt64 (nI k_) ∧ ¬ (σ.1 37 0 k_ &&& ((nI j) ^^^ (-1 : Int32))) = 0))) = 0) => ?_)
        · (have e : mo_ask σ (1023 - (j + 1) + 1) = mo_ask σ (1023 - (j + 1)) := mo_ite_f (fun q => by rw [ej] at q; exact mo_bl0.mp c3 q.2); rw [show 1023 - (j + 1) + 1 = 1023 - j from by omega] at e; have hih := ih (by omega); (try rw [ej] at e); rw [e] at hih; exact hK _ _ _ _ hih)
        · (have e : mo_ask σ (1023 - (j + 1) + 1) = nI (1022 - (1023 - (j + 1))) := mo_ite_t ⟨by rw [ej]; exact Int32.not_lt.mp c2, by rw [ej]; exact mo_blT c3⟩; rw [show 1023 - (j + 1) + 1 = 1023 - j from by omega] at e; have hih := ih (by omega); (try rw [ej] at e); rw [e] at hih; exact hK _ _ _ _ hih)
def S_X11_calls : mo_S := fun as σ Q => ∃ a : Int32, as = [.inr (.inr (0, 0)), .inl a] ∧ (mo_le (σ.1 6 0 5) 200 ∧ ∀ k, k < (σ.1 6 0 5).toNatClampNeg → vp_in (σ.1 7 0 k) 60 ∧ vp_in (σ.1 8 0 k) 60 ∧ vp_in (σ.1 4 0 (σ.1 7 0 k).toNatClampNeg) 30 ∧ vp_in (σ.1 4 0 (σ.1 8 0 k).toNatClampNeg) 30 ∧ vp_in (σ.1 2 0 (σ.1 4 0 (σ.1 7 0 k).toNatClampNeg).toNatClampNeg) 10) ∧ Q (some (.inl (mo_ite (0 ≤ a ∧ a ≤ (10000 : Int32)) (mo_ask (mo_rowI σ 37 0 (mo_fo (fun k r => mo_ite (σ.1 9 0 k = 3 ∧ (σ.1 10 0 k ≤ a ∧ a < σ.1 11 0 k)) (upd r (σ.1 2 0 (σ.1 4 0 (σ.1 7 0 k).toNatClampNeg).toNatClampNeg).toNatClampNeg (r (σ.1 2 0 (σ.1 4 0 (σ.1 7 0 k).toNatClampNeg).toNatClampNeg).toNatClampNeg ||| (1 : Int32) <<< (σ.1 2 0 (σ.1 4 0 (σ.1 8 0 k).toNatClampNeg).toNatClampNeg &&& 31))) r) (mo_fo (fun k r => upd r k 0) (σ.1 37 0) 10) (σ.1 6 0 5).toNatClampNeg)) 1023) (-1 : Int32)))) (mo_ite (0 ≤ a ∧ a ≤ (10000 : Int32)) (mo_rowI σ 37 0 (mo_fo (fun k r => mo_ite (σ.1 9 0 k = 3 ∧ (σ.1 10 0 k ≤ a ∧ a < σ.1 11 0 k)) (upd r (σ.1 2 0 (σ.1 4 0 (σ.1 7 0 k).toNatClampNeg).toNatClampNeg).toNatClampNeg (r (σ.1 2 0 (σ.1 4 0 (σ.1 7 0 k).toNatClampNeg).toNatClampNeg).toNatClampNeg ||| (1 : Int32) <<< (σ.1 2 0 (σ.1 4 0 (σ.1 8 0 k).toNatClampNeg).toNatClampNeg &&& 31))) r) (mo_fo (fun k r => upd r k 0) (σ.1 37 0) 10) (σ.1 6 0 5).toNatClampNeg)) σ)
theorem m_X11_calls : ∀ (as : List mo_V) (σ : mo_M) (P P' : mo_Q), (∀ x τ, P x τ → P' x τ) → S_X11_calls as σ P → S_X11_calls as σ P' := by
  rintro as σ P P' h ⟨a, e, hp, hq⟩
  exact ⟨a, e, hp, h _ _ hq⟩
set_option maxRecDepth 20000 in
set_option maxHeartbeats 2000000 in
theorem ct_X11_calls : mo_ct yX11_calls t_X11_calls S_X11_calls := by
  refine mo_ct_of (by decide) rfl ?_
  rintro g as σ Q ⟨a, rfl, hpre, hQ⟩
  refine ⟨Nat.le_of_ble_eq_true rfl, mo_go ok_X11_calls (cs_X11_calls_ok g) [22] 33 ?_⟩
  intro K hK
  refine Exists.intro a (And.intro rfl (And.intro (show True by trivial) ?_))
  refine And.intro (fun (c1 : ¬ (mo_bl (0 ≤ a ∧ a ≤ (10000 : Int32))) = 0) => ?_) (fun (c1 : (mo_bl (0 ≤ a ∧ a ≤ (10000 : Int32))) = 0) => ?_)
  · refine Exists.intro a (And.intro rfl (And.intro (show mo_le (σ.1 6 0 5) 200 ∧ ∀ k_, k_ < (σ.1 6 0 5).toNatClampNeg → vp_in (σ.1 7 0 k_) 60 ∧ vp_in (σ.1 8 0 k_) 60 ∧ vp_in (σ.1 4 0 (σ.1 7 0 k_).toNatClampNeg) 30 ∧ vp_in (σ.1 4 0 (σ.1 8 0 k_).toNatClampNeg) 30 ∧ vp_in (σ.1 2 0 (σ.1 4 0 (σ.1 7 0 k_).toNatClampNeg).toNatClampNeg) 10 by exact hpre) ?_))
    (rw [mo_ite_t (mo_blT c1), mo_ite_t (mo_blT c1)] at hQ; exact hK _ _ _ _ (lp_X11_calls g _ Q a hQ 1023 (by omega)))
  · exact mo_q hQ (by rw [mo_ite_f (mo_bl0.mp c1)]; rfl) (by rw [mo_ite_f (mo_bl0.mp c1)])
