def mo_hl (σ : mo_M) (a b c f : Int32) : Prop := ∃ u_, u_ < (σ.1 50 0 6).toNatClampNeg ∧ (σ.1 57 0 u_ ≤ f ∧ f < σ.1 58 0 u_) ∧ σ.1 54 0 u_ = a ∧ σ.1 56 0 u_ = c ∧ σ.1 71 0 (σ.1 52 0 (σ.1 55 0 u_).toNatClampNeg).toNatClampNeg = b
def cs_X12_gaps : Nat → mo_C := fun j => match j with
  | 0 => (2, true, 144, 12, S_X12_isMake)
  | 1 => (1, false, 141, 50, S_X12_isDay)
  | 2 => (3, false, 109, 50, S_X12_in)
  | 3 => (2, true, 172, 12, S_X12_gathers)
  | 4 => (5, true, 275, 12, S_X12_hasLink)
  | _ => (0, false, 0, 50, fun _ _ _ => False)
theorem cs_X12_gaps_ok (g : mo_E) : ∀ j, mo_cok g t_X12_gaps (cs_X12_gaps j) ∧ mo_mon (cs_X12_gaps j) := by
  intro j
  unfold cs_X12_gaps
  split
  · exact ⟨mo_cokV ct_X12_isMake (by decide) ⟨_, _, rfl⟩ (by decide +kernel), m_X12_isMake⟩
  · exact ⟨mo_cokS ct_X12_isDay (by decide +kernel), m_X12_isDay⟩
  · exact ⟨mo_cokS ct_X12_in (by decide +kernel), m_X12_in⟩
  · exact ⟨mo_cokV ct_X12_gathers (by decide) ⟨_, _, rfl⟩ (by decide +kernel), m_X12_gathers⟩
  · exact ⟨mo_cokV ct_X12_hasLink (by decide) ⟨_, _, rfl⟩ (by decide +kernel), m_X12_hasLink⟩
  · exact ⟨mo_cok0 g _, mo_mon0⟩
set_option maxRecDepth 20000 in
set_option maxHeartbeats 2000000 in
theorem lp_X12_gaps (g : mo_E) (σ : mo_M) (Q : mo_Q) (a b c : Int32) (n : Nat) (hn : σ.1 50 0 1 = nI n) (hle : n ≤ 30) (hp : mo_le (σ.1 50 0 6) 200 ∧ ∀ u, u < (σ.1 50 0 6).toNatClampNeg → vp_in (σ.1 55 0 u) 60 ∧ vp_in (σ.1 52 0 (σ.1 55 0 u).toNatClampNeg) 30) (hQ : Q (some (.inl (mo_fo (fun k s => mo_ite (mo_hl σ a (nI k) ((1 : Int32) - c) b ∧ ¬ mo_hl σ a (nI k) c b) (s + (1 : Int32)) s) 0 n))) σ) : ∀ (d k : Nat), n < k + d → k ≤ n → (True) → mo_X g t_X12_gaps Q 37 [some (.inr (.inr (50, 0))), some (.inl a), some (.inl b), some (.inl c), some (.inl (mo_fo (fun k s => mo_ite (mo_hl σ a (nI k) ((1 : Int32) - c) b ∧ ¬ mo_hl σ a (nI k) c b) (s + (1 : Int32)) s) 0 k)), some (.inl (nI k))] [] (σ) := by
  intro d
  induction d with
  | zero => intro k h1 h2; omega
  | succ d ih =>
    intro k h1 h2 hinv
    have hkc : (nI k).toNatClampNeg = k := mo_cl (by omega)
    refine mo_go ok_X12_gaps (cs_X12_gaps_ok g) [37] 47 ?_
    intro K hK
    refine And.intro (fun (c1 : (σ.1 50 0 1) ≤ (nI k)) => ?_) (fun (c1 : ¬ (σ.1 50 0 1) ≤ (nI k)) => ?_)
    · have hk : n ≤ k := mo_cge hn (by omega) (by omega) c1
      (have e : k = n := (by omega); subst e; exact hQ)
    · have hk : k < n := mo_clt hn (by omega) (by omega) c1
      refine Exists.intro a (Exists.intro (nI k) (Exists.intro ((1 : Int32) - c) (Exists.intro b (And.intro rfl (And.intro (show mo_le (σ.1 50 0 6) 200 ∧ ∀ u_, u_ < (σ.1 50 0 6).toNatClampNeg → vp_in (σ.1 55 0 u_) 60 ∧ vp_in (σ.1 52 0 (σ.1 55 0 u_).toNatClampNeg) 30 by exact hp) ?_)))))
      refine And.intro (fun (c2 : (mo_bl (mo_hl σ a (nI k) ((1 : Int32) - c) b)) = 0) => ?_) (fun (c2 : ¬ (mo_bl (mo_hl σ a (nI k) ((1 : Int32) - c) b)) = 0) => ?_)
      · (have hih := ih (k + 1) (by omega) (by omega) trivial; have e : mo_fo (fun k s => mo_ite (mo_hl σ a (nI k) ((1 : Int32) - c) b ∧ ¬ mo_hl σ a (nI k) c b) (s + (1 : Int32)) s) 0 (k + 1) = mo_fo (fun k s => mo_ite (mo_hl σ a (nI k) ((1 : Int32) - c) b ∧ ¬ mo_hl σ a (nI k) c b) (s + (1 : Int32)) s) 0 k := mo_ite_f (fun q => mo_bl0.mp c2 q.1); rw [nI_succ, e] at hih; exact hK _ _ _ _ hih)
      · refine Exists.intro a (Exists.intro (nI k) (Exists.intro c (Exists.intro b (And.intro rfl (And.intro (show mo_le (σ.1 50 0 6) 200 ∧ ∀ u_, u_ < (σ.1 50 0 6).toNatClampNeg → vp_in (σ.1 55 0 u_) 60 ∧ vp_in (σ.1 52 0 (σ.1 55 0 u_).toNatClampNeg) 30 by exact hp) ?_)))))
        refine And.intro (fun (c3 : ¬ (mo_bl (mo_hl σ a (nI k) c b)) = 0) => ?_) (fun (c3 : (mo_bl (mo_hl σ a (nI k) c b)) = 0) => ?_)
        · (have hih := ih (k + 1) (by omega) (by omega) trivial; have e : mo_fo (fun k s => mo_ite (mo_hl σ a (nI k) ((1 : Int32) - c) b ∧ ¬ mo_hl σ a (nI k) c b) (s + (1 : Int32)) s) 0 (k + 1) = mo_fo (fun k s => mo_ite (mo_hl σ a (nI k) ((1 : Int32) - c) b ∧ ¬ mo_hl σ a (nI k) c b) (s + (1 : Int32)) s) 0 k := mo_ite_f (fun q => q.2 (mo_blT c3)); rw [nI_succ, e] at hih; exact hK _ _ _ _ hih)
        · (have hih := ih (k + 1) (by omega) (by omega) trivial; have e : mo_fo (fun k s => mo_ite (mo_hl σ a (nI k) ((1 : Int32) - c) b ∧ ¬ mo_hl σ a (nI k) c b) (s + (1 : Int32)) s) 0 (k + 1) = (mo_fo (fun k s => mo_ite (mo_hl σ a (nI k) ((1 : Int32) - c) b ∧ ¬ mo_hl σ a (nI k) c b) (s + (1 : Int32)) s) 0 k) + (1 : Int32) := mo_ite_t ⟨mo_blT c2, mo_bl0.mp c3⟩; rw [nI_succ, e] at hih; exact hK _ _ _ _ hih)
def S_X12_gaps : mo_S := fun as σ Q => ∃ a : Int32, ∃ b : Int32, ∃ c : Int32, as = [.inr (.inr (50, 0)), .inl a, .inl b, .inl c] ∧ ((mo_le (σ.1 50 0 18) 40 ∧ (mo_le (σ.1 50 0 19) 40 ∧ ∀ u, u < (σ.1 50 0 19).toNatClampNeg → vp_in (σ.1 68 0 u) 30 ∧ vp_in (σ.1 69 0 u) 30) ∧ ∀ k, k < (σ.1 50 0 18).toNatClampNeg → vp_in (σ.1 64 0 k) 30 ∧ vp_in (σ.1 65 0 k) 30) ∧ mo_le (σ.1 50 0 1) 30 ∧ (mo_le (σ.1 50 0 6) 200 ∧ ∀ u, u < (σ.1 50 0 6).toNatClampNeg → vp_in (σ.1 55 0 u) 60 ∧ vp_in (σ.1 52 0 (σ.1 55 0 u).toNatClampNeg) 30)) ∧ Q (some (.inl (mo_ite ((0 ≤ a ∧ a ≤ σ.1 50 0 2 - 1) ∧ (0 ≤ b ∧ b ≤ (10000 : Int32)) ∧ (0 ≤ c ∧ c ≤ (1 : Int32))) (mo_fo (fun k s => mo_ite (mo_hl (mo_rowI (mo_wI σ 50 0 28 (mo_gat σ b (σ.1 50 0 18).toNatClampNeg).2) 71 0 (mo_gat σ b (σ.1 50 0 18).toNatClampNeg).1) a (nI k) ((1 : Int32) - c) b ∧ ¬ mo_hl (mo_rowI (mo_wI σ 50 0 28 (mo_gat σ b (σ.1 50 0 18).toNatClampNeg).2) 71 0 (mo_gat σ b (σ.1 50 0 18).toNatClampNeg).1) a (nI k) c b) (s + (1 : Int32)) s) 0 (σ.1 50 0 1).toNatClampNeg) (-1 : Int32)))) (mo_ite ((0 ≤ a ∧ a ≤ σ.1 50 0 2 - 1) ∧ (0 ≤ b ∧ b ≤ (10000 : Int32)) ∧ (0 ≤ c ∧ c ≤ (1 : Int32))) (mo_rowI (mo_wI σ 50 0 28 (mo_gat σ b (σ.1 50 0 18).toNatClampNeg).2) 71 0 (mo_gat σ b (σ.1 50 0 18).toNatClampNeg).1) σ)
theorem m_X12_gaps : ∀ (as : List mo_V) (σ : mo_M) (P P' : mo_Q), (∀ x τ, P x τ → P' x τ) → S_X12_gaps as σ P → S_X12_gaps as σ P' := by
  rintro as σ P P' h ⟨a, b, c, e, hp, hq⟩
  exact ⟨a, b, c, e, hp, h _ _ hq⟩
set_option maxRecDepth 20000 in
set_option maxHeartbeats 2000000 in
theorem ct_X12_gaps : mo_ct yX12_gaps t_X12_gaps S_X12_gaps := by
  refine mo_ct_of (by decide) rfl ?_
  rintro g as σ Q ⟨a, b, c, rfl, hpre, hQ⟩
  refine ⟨Nat.le_of_ble_eq_true rfl, mo_go ok_X12_gaps (cs_X12_gaps_ok g) [37] 47 ?_⟩
  intro K hK
  refine Exists.intro a (And.intro rfl (And.intro (show True by trivial) ?_))
  refine And.intro (fun (c1 : (mo_bl (0 ≤ a ∧ a ≤ σ.1 50 0 2 - 1)) = 0) => ?_) (fun (c1 : ¬ (mo_bl (0 ≤ a ∧ a ≤ σ.1 50 0 2 - 1)) = 0) => ?_)
  · (have hg : ¬ ((0 ≤ a ∧ a ≤ σ.1 50 0 2 - 1) ∧ (0 ≤ b ∧ b ≤ (10000 : Int32)) ∧ (0 ≤ c ∧ c ≤ (1 : Int32))) := (by simp only [mo_bl0, Classical.not_not] at c1; clear hK hQ hpre; grind); exact mo_q hQ (by rw [mo_ite_f hg]; rfl) (by rw [mo_ite_f hg]))
  · refine Exists.intro b (And.intro rfl (And.intro (show True by trivial) ?_))
    refine And.intro (fun (c2 : (mo_bl (0 ≤ b ∧ b ≤ (10000 : Int32))) = 0) => ?_) (fun (c2 : ¬ (mo_bl (0 ≤ b ∧ b ≤ (10000 : Int32))) = 0) => ?_)
    · (have hg : ¬ ((0 ≤ a ∧ a ≤ σ.1 50 0 2 - 1) ∧ (0 ≤ b ∧ b ≤ (10000 : Int32)) ∧ (0 ≤ c ∧ c ≤ (1 : Int32))) := (by simp only [mo_bl0, Classical.not_not] at c1 c2; clear hK hQ hpre; grind); exact mo_q hQ (by rw [mo_ite_f hg]; rfl) (by rw [mo_ite_f hg]))
    · refine Exists.intro c (Exists.intro (0 : Int32) (Exists.intro (1 : Int32) (And.intro rfl (And.intro (show True by trivial) ?_))))
      refine And.intro (fun (c3 : ¬ (mo_bl ((0 : Int32) ≤ c ∧ c ≤ (1 : Int32))) = 0) => ?_) (fun (c3 : (mo_bl ((0 : Int32) ≤ c ∧ c ≤ (1 : Int32))) = 0) => ?_)
      · refine Exists.intro b (And.intro rfl (And.intro (show mo_le (σ.1 50 0 18) 40 ∧ (mo_le (σ.1 50 0 19) 40 ∧ ∀ u_, u_ < (σ.1 50 0 19).toNatClampNeg → vp_in (σ.1 68 0 u_) 30 ∧ vp_in (σ.1 69 0 u_) 30) ∧ ∀ k_, k_ < (σ.1 50 0 18).toNatClampNeg → vp_in (σ.1 64 0 k_) 30 ∧ vp_in (σ.1 65 0 k_) 30 by exact hpre.1) ?_))
        (have hg : (0 ≤ a ∧ a ≤ σ.1 50 0 2 - 1) ∧ (0 ≤ b ∧ b ≤ (10000 : Int32)) ∧ (0 ≤ c ∧ c ≤ (1 : Int32)) := (by simp only [mo_bl0, Classical.not_not] at c1 c2 c3; clear hK hQ hpre; grind); rw [mo_ite_t hg, mo_ite_t hg] at hQ; exact hK _ _ _ _ (lp_X12_gaps g (mo_rowI (mo_wI σ 50 0 28 (mo_gat σ b (σ.1 50 0 18).toNatClampNeg).2) 71 0 (mo_gat σ b (σ.1 50 0 18).toNatClampNeg).1) Q a b c _ hpre.2.1.1 hpre.2.1.2 hpre.2.2 hQ ((σ.1 50 0 1).toNatClampNeg + 1) 0 (by omega) (by omega) trivial))
      · (have hg : ¬ ((0 ≤ a ∧ a ≤ σ.1 50 0 2 - 1) ∧ (0 ≤ b ∧ b ≤ (10000 : Int32)) ∧ (0 ≤ c ∧ c ≤ (1 : Int32))) := (by simp only [mo_bl0, Classical.not_not] at c1 c2 c3; clear hK hQ hpre; grind); exact mo_q hQ (by rw [mo_ite_f hg]; rfl) (by rw [mo_ite_f hg]))
