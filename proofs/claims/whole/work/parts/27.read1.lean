def mo_val (σ : mo_M) (s0 : Nat) : Nat → Int32 := mo_fo (fun k v => if (1000 : Int32) < (v * (10 : Int32) + σ.1 31 0 (s0 + k)) - (48 : Int32) then (1000 : Int32) else (v * (10 : Int32) + σ.1 31 0 (s0 + k)) - (48 : Int32)) 0
def S_X7_valueAtHand : mo_S := fun as σ Q => as = [.inr (.inr (32, 0))] ∧ (σ.1 32 0 2 = nI (σ.1 32 0 2).toNatClampNeg ∧ σ.1 32 0 3 = nI (σ.1 32 0 3).toNatClampNeg ∧ (σ.1 32 0 2).toNatClampNeg ≤ (σ.1 32 0 3).toNatClampNeg ∧ (σ.1 32 0 3).toNatClampNeg ≤ 200) ∧ Q (some (.inl (mo_val σ (σ.1 32 0 2).toNatClampNeg ((σ.1 32 0 3).toNatClampNeg - (σ.1 32 0 2).toNatClampNeg)))) (σ)
theorem m_X7_valueAtHand : ∀ (as : List mo_V) (σ : mo_M) (P P' : mo_Q), (∀ x τ, P x τ → P' x τ) → S_X7_valueAtHand as σ P → S_X7_valueAtHand as σ P' := by
  rintro as σ P P' h ⟨e, hp, hq⟩
  exact ⟨e, hp, h _ _ hq⟩
def cs_X7_valueAtHand : Nat → mo_C := fun j => match j with
  | 0 => (2, false, 98, 50, S_J9_min_7cf53)
  | _ => (0, false, 0, 50, fun _ _ _ => False)
theorem cs_X7_valueAtHand_ok (g : mo_E) : ∀ j, mo_cok g t_X7_valueAtHand (cs_X7_valueAtHand j) ∧ mo_mon (cs_X7_valueAtHand j) := by
  intro j
  unfold cs_X7_valueAtHand
  split
  · exact ⟨ck_J9_min_7cf53 (by decide +kernel), m_J9_min_7cf53⟩
  · exact ⟨mo_cok0 g _, mo_mon0⟩
set_option maxRecDepth 20000 in
set_option maxHeartbeats 2000000 in
theorem lp_X7_valueAtHand (g : mo_E) (σ : mo_M) (Q : mo_Q) (s0 n : Nat) (hn : σ.1 32 0 3 = nI (s0 + n)) (hle : s0 + n ≤ 200) (hQ : Q (some (.inl (mo_val σ s0 n))) σ) : ∀ (d k : Nat), n < k + d → k ≤ n → (True) → mo_X g t_X7_valueAtHand Q 7 [some (.inr (.inr (32, 0))), some (.inl (mo_val σ s0 k)), some (.inl (nI (s0 + k)))] [] (σ) := by
  intro d
  induction d with
  | zero => intro k h1 h2; omega
  | succ d ih =>
    intro k h1 h2 hinv
    have hkc : (nI k).toNatClampNeg = k := mo_cl (by omega)
    have hkc2 : (nI (s0 + k)).toNatClampNeg = s0 + k := mo_cl (by omega)
    refine mo_go ok_X7_valueAtHand (cs_X7_valueAtHand_ok g) [7] 28 ?_
    intro K hK
    refine And.intro (fun (c1 : (σ.1 32 0 3) ≤ (nI (s0 + k))) => ?_) (fun (c1 : ¬ (σ.1 32 0 3) ≤ (nI (s0 + k))) => ?_)
    · have hk : s0 + n ≤ s0 + k := mo_cge hn (by omega) (by omega) c1
      (have e : k = n := (by omega); subst e; exact hQ)
    · have hk : s0 + k < s0 + n := mo_clt hn (by omega) (by omega) c1
      refine And.intro (show vp_in (nI (s0 + k)) 200 by exact mo_inN (by omega) (by decide)) ?_
      refine Exists.intro ((((mo_val σ s0 k) * (10 : Int32)) + (σ.1 31 0 ((nI (s0 + k)).toNatClampNeg))) - (48 : Int32)) (Exists.intro (1000 : Int32) (And.intro rfl (And.intro (show True by trivial) ?_)))
      (have hih := ih (k + 1) (by omega) (by omega) trivial; rw [show s0 + (k + 1) = s0 + k + 1 from rfl, nI_succ] at hih; refine hK _ _ _ _ (show mo_X g t_X7_valueAtHand Q 7 [some (.inr (.inr (32, 0))), some (.inl (if (1000 : Int32) < ((((mo_val σ s0 k) * (10 : Int32)) + (σ.1 31 0 ((nI (s0 + k)).toNatClampNeg))) - (48 : Int32)) then (1000 : Int32) else ((((mo_val σ s0 k) * (10 : Int32)) + (σ.1 31 0 ((nI (s0 + k)).toNatClampNeg))) - (48 : Int32)))), some (.inl ((nI (s0 + k)) + (1 : Int32)))] [] (σ) from ?_); rw [hkc2]; exact hih)
set_option maxRecDepth 20000 in
set_option maxHeartbeats 2000000 in
theorem ct_X7_valueAtHand : mo_ct yX7_valueAtHand t_X7_valueAtHand S_X7_valueAtHand := by
  refine mo_ct_of (by decide) rfl ?_
  rintro g as σ Q ⟨rfl, hpre, hQ⟩
  refine ⟨Nat.le_of_ble_eq_true rfl, mo_go ok_X7_valueAtHand (cs_X7_valueAtHand_ok g) [7] 28 ?_⟩
  intro K hK
  (obtain ⟨p1, p2, p3, p4⟩ := hpre; have h0 := lp_X7_valueAtHand g σ Q (σ.1 32 0 2).toNatClampNeg ((σ.1 32 0 3).toNatClampNeg - (σ.1 32 0 2).toNatClampNeg) (by rw [show (σ.1 32 0 2).toNatClampNeg + ((σ.1 32 0 3).toNatClampNeg - (σ.1 32 0 2).toNatClampNeg) = (σ.1 32 0 3).toNatClampNeg from by omega]; exact p2) (by omega) hQ ((σ.1 32 0 3).toNatClampNeg - (σ.1 32 0 2).toNatClampNeg + 1) 0 (by omega) (by omega) trivial; rw [show nI ((σ.1 32 0 2).toNatClampNeg + 0) = σ.1 32 0 2 from p1.symm] at h0; exact hK _ _ _ _ h0)
