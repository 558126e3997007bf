noncomputable def mo_hold (σ : mo_M) (a b : Int32) : Prop := mo_ite (σ.1 75 0 a.toNatClampNeg = (0 : Int32)) (b < σ.1 76 0 a.toNatClampNeg) (mo_ite (σ.1 75 0 a.toNatClampNeg = (1 : Int32)) (b ≤ σ.1 76 0 a.toNatClampNeg) (mo_ite (σ.1 75 0 a.toNatClampNeg = (2 : Int32)) (σ.1 76 0 a.toNatClampNeg < b) (mo_ite (σ.1 75 0 a.toNatClampNeg = (3 : Int32)) (σ.1 76 0 a.toNatClampNeg ≤ b) (mo_ite (σ.1 75 0 a.toNatClampNeg = (4 : Int32)) (b = σ.1 76 0 a.toNatClampNeg) (True)))))
def S_X12_holds : mo_S := fun as σ Q => ∃ a : Int32, ∃ b : Int32, as = [.inr (.inr (50, 0)), .inl a, .inl b] ∧ (vp_in a 600) ∧ Q (some (.inl (mo_bl (mo_hold σ a b)))) (σ)
theorem m_X12_holds : ∀ (as : List mo_V) (σ : mo_M) (P P' : mo_Q), (∀ x τ, P x τ → P' x τ) → S_X12_holds as σ P → S_X12_holds as σ P' := by
  rintro as σ P P' h ⟨a, b, e, hp, hq⟩
  exact ⟨a, b, e, hp, h _ _ hq⟩
set_option maxRecDepth 20000 in
set_option maxHeartbeats 2000000 in
theorem ct_X12_holds : mo_ct yX12_holds t_X12_holds S_X12_holds := by
  refine mo_ct_of (by decide) rfl ?_
  rintro g as σ Q ⟨a, b, rfl, hpre, hQ⟩
  refine ⟨Nat.le_of_ble_eq_true rfl, mo_go ok_X12_holds (mo_no_ok g _) [] 48 ?_⟩
  intro K hK
  refine And.intro (show vp_in a 600 from hpre) ?_
  refine And.intro (show vp_in a 600 from hpre) ?_
  intro tt ht
  by_cases e0 : σ.1 75 0 a.toNatClampNeg = (0 : Int32)
  · have q : mo_sw 13 (90) (0) (4) #[35, 46, 57, 68, 79] (σ.1 75 0 a.toNatClampNeg) = (48 : Int) := by rw [e0]; decide
    have e : tt = 48 := by have z := ht.symm.trans q; omega
    subst e
    have hh : mo_hold σ a b = (b < σ.1 76 0 a.toNatClampNeg) := by unfold mo_hold; rw [mo_ite_t e0]
    refine And.intro (fun (c1 : (σ.1 76 0 a.toNatClampNeg) ≤ b) => ?_) (fun (c1 : ¬ (σ.1 76 0 a.toNatClampNeg) ≤ b) => ?_)
    · refine And.intro (by first | decide | exact mo_bl01 _) ?_
      exact mo_q hQ (mo_r0 (by rw [hh]; ((try simp only [mo_bl0, Classical.not_not] at c1); (try simp only [Int32.lt_iff_toInt_lt, Int32.le_iff_toInt_le, mo_ieq, Int32.toInt_zero, mo_n1, Nat.reduceAdd] at c1 ⊢); omega))) rfl
    · refine And.intro (by first | decide | exact mo_bl01 _) ?_
      exact mo_q hQ (mo_r1 (by rw [hh]; ((try simp only [mo_bl0, Classical.not_not] at c1); (try simp only [Int32.lt_iff_toInt_lt, Int32.le_iff_toInt_le, mo_ieq, Int32.toInt_zero, mo_n1, Nat.reduceAdd] at c1 ⊢); omega))) rfl
  by_cases e1 : σ.1 75 0 a.toNatClampNeg = (1 : Int32)
  · have q : mo_sw 13 (90) (0) (4) #[35, 46, 57, 68, 79] (σ.1 75 0 a.toNatClampNeg) = (59 : Int) := by rw [e1]; decide
    have e : tt = 59 := by have z := ht.symm.trans q; omega
    subst e
    have hh : mo_hold σ a b = (b ≤ σ.1 76 0 a.toNatClampNeg) := by unfold mo_hold; rw [mo_ite_f e0, mo_ite_t e1]
    refine And.intro (fun (c1 : (σ.1 76 0 a.toNatClampNeg) < b) => ?_) (fun (c1 : ¬ (σ.1 76 0 a.toNatClampNeg) < b) => ?_)
    · refine And.intro (by first | decide | exact mo_bl01 _) ?_
      exact mo_q hQ (mo_r0 (by rw [hh]; ((try simp only [mo_bl0, Classical.not_not] at c1); (try simp only [Int32.lt_iff_toInt_lt, Int32.le_iff_toInt_le, mo_ieq, Int32.toInt_zero, mo_n1, Nat.reduceAdd] at c1 ⊢); omega))) rfl
    · refine And.intro (by first | decide | exact mo_bl01 _) ?_
      exact mo_q hQ (mo_r1 (by rw [hh]; ((try simp only [mo_bl0, Classical.not_not] at c1); (try simp only [Int32.lt_iff_toInt_lt, Int32.le_iff_toInt_le, mo_ieq, Int32.toInt_zero, mo_n1, Nat.reduceAdd] at c1 ⊢); omega))) rfl
  by_cases e2 : σ.1 75 0 a.toNatClampNeg = (2 : Int32)
  · have q : mo_sw 13 (90) (0) (4) #[35, 46, 57, 68, 79] (σ.1 75 0 a.toNatClampNeg) = (70 : Int) := by rw [e2]; decide
    have e : tt = 70 := by have z := ht.symm.trans q; omega
    subst e
    have hh : mo_hold σ a b = (σ.1 76 0 a.toNatClampNeg < b) := by unfold mo_hold; rw [mo_ite_f e0, mo_ite_f e1, mo_ite_t e2]
    refine And.intro (fun (c1 : b ≤ (σ.1 76 0 a.toNatClampNeg)) => ?_) (fun (c1 : ¬ b ≤ (σ.1 76 0 a.toNatClampNeg)) => ?_)
    · refine And.intro (by first | decide | exact mo_bl01 _) ?_
      exact mo_q hQ (mo_r0 (by rw [hh]; ((try simp only [mo_bl0, Classical.not_not] at c1); (try simp only [Int32.lt_iff_toInt_lt, Int32.le_iff_toInt_le, mo_ieq, Int32.toInt_zero, mo_n1, Nat.reduceAdd] at c1 ⊢); omega))) rfl
    · refine And.intro (by first | decide | exact mo_bl01 _) ?_
      exact mo_q hQ (mo_r1 (by rw [hh]; ((try simp only [mo_bl0, Classical.not_not] at c1); (try simp only [Int32.lt_iff_toInt_lt, Int32.le_iff_toInt_le, mo_ieq, Int32.toInt_zero, mo_n1, Nat.reduceAdd] at c1 ⊢); omega))) rfl
  by_cases e3 : σ.1 75 0 a.toNatClampNeg = (3 : Int32)
  · have q : mo_sw 13 (90) (0) (4) #[35, 46, 57, 68, 79] (σ.1 75 0 a.toNatClampNeg) = (81 : Int) := by rw [e3]; decide
    have e : tt = 81 := by have z := ht.symm.trans q; omega
    subst e
    have hh : mo_hold σ a b = (σ.1 76 0 a.toNatClampNeg ≤ b) := by unfold mo_hold; rw [mo_ite_f e0, mo_ite_f e1, mo_ite_f e2, mo_ite_t e3]
    refine And.intro (fun (c1 : b < (σ.1 76 0 a.toNatClampNeg)) => ?_) (fun (c1 : ¬ b < (σ.1 76 0 a.toNatClampNeg)) => ?_)
    · refine And.intro (by first | decide | exact mo_bl01 _) ?_
      exact mo_q hQ (mo_r0 (by rw [hh]; ((try simp only [mo_bl0, Classical.not_not] at c1); (try simp only [Int32.lt_iff_toInt_lt, Int32.le_iff_toInt_le, mo_ieq, Int32.toInt_zero, mo_n1, Nat.reduceAdd] at c1 ⊢); omega))) rfl
    · refine And.intro (by first | decide | exact mo_bl01 _) ?_
      exact mo_q hQ (mo_r1 (by rw [hh]; ((try simp only [mo_bl0, Classical.not_not] at c1); (try simp only [Int32.lt_iff_toInt_lt, Int32.le_iff_toInt_le, mo_ieq, Int32.toInt_zero, mo_n1, Nat.reduceAdd] at c1 ⊢); omega))) rfl
  by_cases e4 : σ.1 75 0 a.toNatClampNeg = (4 : Int32)
  · have q : mo_sw 13 (90) (0) (4) #[35, 46, 57, 68, 79] (σ.1 75 0 a.toNatClampNeg) = (92 : Int) := by rw [e4]; decide
    have e : tt = 92 := by have z := ht.symm.trans q; omega
    subst e
    have hh : mo_hold σ a b = (b = σ.1 76 0 a.toNatClampNeg) := by unfold mo_hold; rw [mo_ite_f e0, mo_ite_f e1, mo_ite_f e2, mo_ite_f e3, mo_ite_t e4]
    refine And.intro (fun (c1 : ¬ b = (σ.1 76 0 a.toNatClampNeg)) => ?_) (fun (c1 : b = (σ.1 76 0 a.toNatClampNeg)) => ?_)
    · refine And.intro (by first | decide | exact mo_bl01 _) ?_
      exact mo_q hQ (mo_r0 (by rw [hh]; ((try simp only [mo_bl0, Classical.not_not] at c1); (try simp only [Int32.lt_iff_toInt_lt, Int32.le_iff_toInt_le, mo_ieq, Int32.toInt_zero, mo_n1, Nat.reduceAdd] at c1 ⊢); omega))) rfl
    · refine And.intro (by first | decide | exact mo_bl01 _) ?_
      exact mo_q hQ (mo_r1 (by rw [hh]; ((try simp only [mo_bl0, Classical.not_not] at c1); (try simp only [Int32.lt_iff_toInt_lt, Int32.le_iff_toInt_le, mo_ieq, Int32.toInt_zero, mo_n1, Nat.reduceAdd] at c1 ⊢); omega))) rfl
  have q : mo_sw 13 (90) (0) (4) #[35, 46, 57, 68, 79] (σ.1 75 0 a.toNatClampNeg) = (103 : Int) := by
    unfold mo_sw
    simp only [mo_ieq] at e0 e1 e2 e3 e4
    rw [if_pos (by have z0 : (0 : Int32).toInt = 0 := (by decide); have z1 : (1 : Int32).toInt = 1 := (by decide); have z2 : (2 : Int32).toInt = 2 := (by decide); have z3 : (3 : Int32).toInt = 3 := (by decide); have z4 : (4 : Int32).toInt = 4 := (by decide); omega)]
    rfl
  have e : tt = 103 := by have z := ht.symm.trans q; omega
  subst e
  have hh : mo_hold σ a b = (True) := by unfold mo_hold; rw [mo_ite_f e0, mo_ite_f e1, mo_ite_f e2, mo_ite_f e3, mo_ite_f e4]
  refine And.intro (by first | decide | exact mo_bl01 _) ?_
  exact mo_q hQ (mo_r1 (by rw [hh]; trivial)) rfl
