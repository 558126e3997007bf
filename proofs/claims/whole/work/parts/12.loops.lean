/-! the first place below n with P, or none -/
noncomputable def mo_fst (P : Nat → Prop) : Nat → Option Nat
  | 0 => none
  | n + 1 => match mo_fst P n with
    | some k => some k
    | none => @ite _ (P n) (Classical.propDecidable _) (some n) none
theorem mo_fst_none {P : Nat → Prop} : ∀ {n : Nat}, (∀ j, j < n → ¬ P j) → mo_fst P n = none
  | 0, _ => rfl
  | n + 1, h => by
    rw [mo_fst, mo_fst_none (fun j hj => h j (by omega))]
    exact if_neg (h n (by omega))
theorem mo_fst_some {P : Nat → Prop} {k : Nat} (hk : P k) (h : ∀ j, j < k → ¬ P j) : ∀ {n : Nat}, k < n → mo_fst P n = some k
  | 0, hn => absurd hn (by omega)
  | n + 1, hn => by
    rw [mo_fst]
    by_cases e : k < n
    · rw [mo_fst_some hk h e]
    · have e : k = n := by omega
      subst e
      rw [mo_fst_none h]
      exact if_pos hk
noncomputable def mo_fsI (P : Nat → Prop) (n : Nat) : Int32 := match mo_fst P n with
  | some k => nI k
  | none => -1
theorem mo_fsI_no {P : Nat → Prop} {n : Nat} (h : ∀ j, j < n → ¬ P j) : mo_fsI P n = -1 := by unfold mo_fsI; rw [mo_fst_none h]
theorem mo_fsI_at {P : Nat → Prop} {k n : Nat} (hn : k < n) (hk : P k) (h : ∀ j, j < k → ¬ P j) : mo_fsI P n = nI k := by unfold mo_fsI; rw [mo_fst_some hk h hn]
theorem mo_cge {x : Int32} {k n : Nat} (hx : x = nI n) (hn : n < 1000000) (hk : k < 1000000) (c : x ≤ nI k) : n ≤ k := by
  rw [hx, nI_leI (by omega) (by omega)] at c; exact c
theorem mo_clt {x : Int32} {k n : Nat} (hx : x = nI n) (hn : n < 1000000) (hk : k < 1000000) (c : ¬ x ≤ nI k) : k < n := by
  rw [hx, nI_leI (by omega) (by omega)] at c; omega
/-- a number that a row of n has room for -/
def mo_le (x : Int32) (N : Nat) : Prop := x = nI x.toNatClampNeg ∧ x.toNatClampNeg ≤ N
theorem mo_inN {k N : Nat} (h : k < N) (hN : N < 1000000) : vp_in (nI k) N := vp_in_nI h (by omega)
theorem mo_cl {k : Nat} (h : k < 1000000) : (nI k).toNatClampNeg = k := nI_clamp (by omega)
def S_X3_search : mo_S := fun as σ Q => ∃ p : Int32, ∃ v : Int32, as = [.inr (.inr (3, 0)), .inl p, .inl v] ∧ (mo_le (σ.1 3 0 2) 60) ∧ Q (some (.inl (mo_fsI (fun k => σ.1 4 0 k = p ∧ σ.1 5 0 k = v) (σ.1 3 0 2).toNatClampNeg))) (σ)
theorem m_X3_search : ∀ (as : List mo_V) (σ : mo_M) (P P' : mo_Q), (∀ x τ, P x τ → P' x τ) → S_X3_search as σ P → S_X3_search as σ P' := by
  rintro as σ P P' h ⟨p, v, e, hp, hq⟩
  exact ⟨p, v, e, hp, h _ _ hq⟩
set_option maxRecDepth 20000 in
set_option maxHeartbeats 2000000 in
theorem lp_X3_search (g : mo_E) (σ : mo_M) (Q : mo_Q) (p v : Int32) (n : Nat) (hn : σ.1 3 0 2 = nI n) (hle : n ≤ 60) (hQ : Q (some (.inl (mo_fsI (fun k => σ.1 4 0 k = p ∧ σ.1 5 0 k = v) n))) σ) : ∀ (d k : Nat), n < k + d → k ≤ n → (∀ j, j < k → ¬ (fun k => σ.1 4 0 k = p ∧ σ.1 5 0 k = v) j) → mo_X g t_X3_search Q 2 [some (.inr (.inr (3, 0))), some (.inl p), some (.inl v), some (.inl (nI k))] [] σ := by
  intro d
  induction d with
  | zero => intro k h1 h2; omega
  | succ d ih =>
    intro k h1 h2 hinv
    have hkc : (nI k).toNatClampNeg = k := mo_cl (by omega)
    refine mo_go ok_X3_search (mo_no_ok g _) [2] 25 ?_
    intro K hK
    refine And.intro (fun (c1 : (σ.1 3 0 2) ≤ (nI k)) => ?_) (fun (c1 : ¬ (σ.1 3 0 2) ≤ (nI k)) => ?_)
    · have hk : n ≤ k := mo_cge hn (by omega) (by omega) c1
      exact mo_q hQ (by rw [mo_fsI_no (fun j hj => hinv j (by omega))]; rfl) rfl
    · have hk : k < n := mo_clt hn (by omega) (by omega) c1
      refine And.intro (show vp_in (nI k) 60 by exact mo_inN (by omega) (by decide)) ?_
      refine And.intro (fun (c2 : ¬ (σ.1 4 0 ((nI k).toNatClampNeg)) = p) => ?_) (fun (c2 : (σ.1 4 0 ((nI k).toNatClampNeg)) = p) => ?_)
      · (have hih := ih (k + 1) (by omega) (by omega) (lt_s hinv (by rw [hkc] at c2; simp_all)); rw [nI_succ] at hih; exact hK _ _ _ _ hih)
      · refine And.intro (show vp_in (nI k) 60 by exact mo_inN (by omega) (by decide)) ?_
        refine And.intro (fun (c3 : ¬ (σ.1 5 0 ((nI k).toNatClampNeg)) = v) => ?_) (fun (c3 : (σ.1 5 0 ((nI k).toNatClampNeg)) = v) => ?_)
        · (have hih := ih (k + 1) (by omega) (by omega) (lt_s hinv (by rw [hkc] at c2 c3; simp_all)); rw [nI_succ] at hih; exact hK _ _ _ _ hih)
        · (rw [hkc] at c2 c3; exact mo_q hQ (by rw [mo_fsI_at hk (by simp_all) hinv]) rfl)
set_option maxRecDepth 20000 in
set_option maxHeartbeats 2000000 in
theorem ct_X3_search : mo_ct yX3_search t_X3_search S_X3_search := by
  refine mo_ct_of (by decide) rfl ?_
  rintro g as σ Q ⟨p, v, rfl, hpre, hQ⟩
  refine ⟨Nat.le_of_ble_eq_true rfl, mo_go ok_X3_search (mo_no_ok g _) [2] 25 ?_⟩
  intro K hK
  exact hK _ _ _ _ (lp_X3_search g σ Q p v _ hpre.1 hpre.2 hQ ((σ.1 3 0 2).toNatClampNeg + 1) 0 (by omega) (by omega) (fun j hj => by omega))
def S_X12_found : mo_S := fun as σ Q => ∃ p : Int32, ∃ v : Int32, as = [.inr (.inr (50, 0)), .inl p, .inl v] ∧ (mo_le (σ.1 50 0 2) 60) ∧ Q (some (.inl (mo_fsI (fun k => σ.1 52 0 k = p ∧ σ.1 53 0 k = v) (σ.1 50 0 2).toNatClampNeg))) (σ)
theorem m_X12_found : ∀ (as : List mo_V) (σ : mo_M) (P P' : mo_Q), (∀ x τ, P x τ → P' x τ) → S_X12_found as σ P → S_X12_found as σ P' := by
  rintro as σ P P' h ⟨p, v, e, hp, hq⟩
  exact ⟨p, v, e, hp, h _ _ hq⟩
set_option maxRecDepth 20000 in
set_option maxHeartbeats 2000000 in
theorem lp_X12_found (g : mo_E) (σ : mo_M) (Q : mo_Q) (p v : Int32) (n : Nat) (hn : σ.1 50 0 2 = nI n) (hle : n ≤ 60) (hQ : Q (some (.inl (mo_fsI (fun k => σ.1 52 0 k = p ∧ σ.1 53 0 k = v) n))) σ) : ∀ (d k : Nat), n < k + d → k ≤ n → (∀ j, j < k → ¬ (fun k => σ.1 52 0 k = p ∧ σ.1 53 0 k = v) j) → mo_X g t_X12_found Q 2 [some (.inr (.inr (50, 0))), some (.inl p), some (.inl v), some (.inl (nI k))] [] σ := by
  intro d
  induction d with
  | zero => intro k h1 h2; omega
  | succ d ih =>
    intro k h1 h2 hinv
    have hkc : (nI k).toNatClampNeg = k := mo_cl (by omega)
    refine mo_go ok_X12_found (mo_no_ok g _) [2] 25 ?_
    intro K hK
    refine And.intro (fun (c1 : (σ.1 50 0 2) ≤ (nI k)) => ?_) (fun (c1 : ¬ (σ.1 50 0 2) ≤ (nI k)) => ?_)
    · have hk : n ≤ k := mo_cge hn (by omega) (by omega) c1
      exact mo_q hQ (by rw [mo_fsI_no (fun j hj => hinv j (by omega))]; rfl) rfl
    · have hk : k < n := mo_clt hn (by omega) (by omega) c1
      refine And.intro (show vp_in (nI k) 60 by exact mo_inN (by omega) (by decide)) ?_
      refine And.intro (fun (c2 : ¬ (σ.1 52 0 ((nI k).toNatClampNeg)) = p) => ?_) (fun (c2 : (σ.1 52 0 ((nI k).toNatClampNeg)) = p) => ?_)
      · (have hih := ih (k + 1) (by omega) (by omega) (lt_s hinv (by rw [hkc] at c2; simp_all)); rw [nI_succ] at hih; exact hK _ _ _ _ hih)
      · refine And.intro (show vp_in (nI k) 60 by exact mo_inN (by omega) (by decide)) ?_
        refine And.intro (fun (c3 : ¬ (σ.1 53 0 ((nI k).toNatClampNeg)) = v) => ?_) (fun (c3 : (σ.1 53 0 ((nI k).toNatClampNeg)) = v) => ?_)
        · (have hih := ih (k + 1) (by omega) (by omega) (lt_s hinv (by rw [hkc] at c2 c3; simp_all)); rw [nI_succ] at hih; exact hK _ _ _ _ hih)
        · (rw [hkc] at c2 c3; exact mo_q hQ (by rw [mo_fsI_at hk (by simp_all) hinv]) rfl)
set_option maxRecDepth 20000 in
set_option maxHeartbeats 2000000 in
theorem ct_X12_found : mo_ct yX12_found t_X12_found S_X12_found := by
  refine mo_ct_of (by decide) rfl ?_
  rintro g as σ Q ⟨p, v, rfl, hpre, hQ⟩
  refine ⟨Nat.le_of_ble_eq_true rfl, mo_go ok_X12_found (mo_no_ok g _) [2] 25 ?_⟩
  intro K hK
  exact hK _ _ _ _ (lp_X12_found g σ Q p v _ hpre.1 hpre.2 hQ ((σ.1 50 0 2).toNatClampNeg + 1) 0 (by omega) (by omega) (fun j hj => by omega))
