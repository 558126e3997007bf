def S_X11_count : mo_S := fun as σ Q => ∃ a : Int32, as = [.inr (.inr (0, 0)), .inl a] ∧ (True) ∧ Q (some (.inl (mo_ite (a = (0 : Int32)) (σ.1 1 0 1) (mo_ite (a = (1 : Int32)) (σ.1 3 0 2) (mo_ite (a = (2 : Int32)) (σ.1 6 0 5) (mo_ite (a = (3 : Int32)) (σ.1 12 0 5) (mo_ite (a = (4 : Int32)) (σ.1 18 0 4) (mo_ite (a = (5 : Int32)) (σ.1 23 0 4) (mo_ite (a = (6 : Int32)) (σ.1 0 0 12) (mo_ite (a = (7 : Int32)) (σ.1 30 0 1) ((-1 : Int32)))))))))))) (σ)
theorem m_X11_count : ∀ (as : List mo_V) (σ : mo_M) (P P' : mo_Q), (∀ x τ, P x τ → P' x τ) → S_X11_count as σ P → S_X11_count as σ P' := by
  rintro as σ P P' h ⟨a, e, hp, hq⟩
  exact ⟨a, e, hp, h _ _ hq⟩
set_option maxRecDepth 20000 in
set_option maxHeartbeats 2000000 in
theorem ct_X11_count : mo_ct yX11_count t_X11_count S_X11_count := by
  refine mo_ct_of (by decide) rfl ?_
  rintro g as σ Q ⟨a, rfl, hpre, hQ⟩
  refine ⟨Nat.le_of_ble_eq_true rfl, mo_go ok_X11_count (mo_no_ok g _) [] 36 ?_⟩
  intro K hK
  intro tt ht
  by_cases e0 : a = (0 : Int32)
  · have q : mo_sw 1 (108) (0) (7) #[47, 55, 63, 71, 79, 87, 95, 100] a = (48 : Int) := by rw [e0]; decide
    have e : tt = 48 := by have z := ht.symm.trans q; omega
    subst e
    exact mo_q hQ (by rw [mo_ite_t e0]; try rfl) rfl
  by_cases e1 : a = (1 : Int32)
  · have q : mo_sw 1 (108) (0) (7) #[47, 55, 63, 71, 79, 87, 95, 100] a = (56 : Int) := by rw [e1]; decide
    have e : tt = 56 := by have z := ht.symm.trans q; omega
    subst e
    exact mo_q hQ (by rw [mo_ite_f e0, mo_ite_t e1]; try rfl) rfl
  by_cases e2 : a = (2 : Int32)
  · have q : mo_sw 1 (108) (0) (7) #[47, 55, 63, 71, 79, 87, 95, 100] a = (64 : Int) := by rw [e2]; decide
    have e : tt = 64 := by have z := ht.symm.trans q; omega
    subst e
    exact mo_q hQ (by rw [mo_ite_f e0, mo_ite_f e1, mo_ite_t e2]; try rfl) rfl
  by_cases e3 : a = (3 : Int32)
  · have q : mo_sw 1 (108) (0) (7) #[47, 55, 63, 71, 79, 87, 95, 100] a = (72 : Int) := by rw [e3]; decide
    have e : tt = 72 := by have z := ht.symm.trans q; omega
    subst e
    exact mo_q hQ (by rw [mo_ite_f e0, mo_ite_f e1, mo_ite_f e2, mo_ite_t e3]; try rfl) rfl
  by_cases e4 : a = (4 : Int32)
  · have q : mo_sw 1 (108) (0) (7) #[47, 55, 63, 71, 79, 87, 95, 100] a = (80 : Int) := by rw [e4]; decide
    have e : tt = 80 := by have z := ht.symm.trans q; omega
    subst e
    exact mo_q hQ (by rw [mo_ite_f e0, mo_ite_f e1, mo_ite_f e2, mo_ite_f e3, mo_ite_t e4]; try rfl) rfl
  by_cases e5 : a = (5 : Int32)
  · have q : mo_sw 1 (108) (0) (7) #[47, 55, 63, 71, 79, 87, 95, 100] a = (88 : Int) := by rw [e5]; decide
    have e : tt = 88 := by have z := ht.symm.trans q; omega
    subst e
    exact mo_q hQ (by rw [mo_ite_f e0, mo_ite_f e1, mo_ite_f e2, mo_ite_f e3, mo_ite_f e4, mo_ite_t e5]; try rfl) rfl
  by_cases e6 : a = (6 : Int32)
  · have q : mo_sw 1 (108) (0) (7) #[47, 55, 63, 71, 79, 87, 95, 100] a = (96 : Int) := by rw [e6]; decide
    have e : tt = 96 := by have z := ht.symm.trans q; omega
    subst e
    exact mo_q hQ (by rw [mo_ite_f e0, mo_ite_f e1, mo_ite_f e2, mo_ite_f e3, mo_ite_f e4, mo_ite_f e5, mo_ite_t e6]; try rfl) rfl
  by_cases e7 : a = (7 : Int32)
  · have q : mo_sw 1 (108) (0) (7) #[47, 55, 63, 71, 79, 87, 95, 100] a = (101 : Int) := by rw [e7]; decide
    have e : tt = 101 := by have z := ht.symm.trans q; omega
    subst e
    exact mo_q hQ (by rw [mo_ite_f e0, mo_ite_f e1, mo_ite_f e2, mo_ite_f e3, mo_ite_f e4, mo_ite_f e5, mo_ite_f e6, mo_ite_t e7]; try rfl) rfl
  have q : mo_sw 1 (108) (0) (7) #[47, 55, 63, 71, 79, 87, 95, 100] a = (109 : Int) := by
    unfold mo_sw
    simp only [mo_ieq] at e0 e1 e2 e3 e4 e5 e6 e7
    rw [if_pos (by have z0 : (0 : Int32).toInt = 0 := (by decide); have z1 : (1 : Int32).toInt = 1 := (by decide); have z2 : (2 : Int32).toInt = 2 := (by decide); have z3 : (3 : Int32).toInt = 3 := (by decide); have z4 : (4 : Int32).toInt = 4 := (by decide); have z5 : (5 : Int32).toInt = 5 := (by decide); have z6 : (6 : Int32).toInt = 6 := (by decide); have z7 : (7 : Int32).toInt = 7 := (by decide); omega)]
    rfl
  have e : tt = 109 := by have z := ht.symm.trans q; omega
  subst e
  exact mo_q hQ (by rw [mo_ite_f e0, mo_ite_f e1, mo_ite_f e2, mo_ite_f e3, mo_ite_f e4, mo_ite_f e5, mo_ite_f e6, mo_ite_f e7]; try rfl) rfl
def S_X12_count : mo_S := fun as σ Q => ∃ a : Int32, as = [.inr (.inr (50, 0)), .inl a] ∧ (True) ∧ Q (some (.inl (mo_ite (a = (0 : Int32)) (σ.1 50 0 1) (mo_ite (a = (1 : Int32)) (σ.1 50 0 2) (mo_ite (a = (2 : Int32)) (σ.1 50 0 6) (mo_ite (a = (3 : Int32)) (σ.1 50 0 12) (mo_ite (a = (4 : Int32)) (σ.1 50 0 18) (mo_ite (a = (5 : Int32)) (σ.1 50 0 19) (mo_ite (a = (6 : Int32)) (σ.1 50 0 36) (mo_ite (a = (7 : Int32)) (σ.1 50 0 30) ((-1 : Int32)))))))))))) (σ)
theorem m_X12_count : ∀ (as : List mo_V) (σ : mo_M) (P P' : mo_Q), (∀ x τ, P x τ → P' x τ) → S_X12_count as σ P → S_X12_count as σ P' := by
  rintro as σ P P' h ⟨a, e, hp, hq⟩
  exact ⟨a, e, hp, h _ _ hq⟩
set_option maxRecDepth 20000 in
set_option maxHeartbeats 2000000 in
theorem ct_X12_count : mo_ct yX12_count t_X12_count S_X12_count := by
  refine mo_ct_of (by decide) rfl ?_
  rintro g as σ Q ⟨a, rfl, hpre, hQ⟩
  refine ⟨Nat.le_of_ble_eq_true rfl, mo_go ok_X12_count (mo_no_ok g _) [] 29 ?_⟩
  intro K hK
  intro tt ht
  by_cases e0 : a = (0 : Int32)
  · have q : mo_sw 1 (87) (0) (7) #[47, 52, 57, 62, 67, 72, 77, 82] a = (48 : Int) := by rw [e0]; decide
    have e : tt = 48 := by have z := ht.symm.trans q; omega
    subst e
    exact mo_q hQ (by rw [mo_ite_t e0]; try rfl) rfl
  by_cases e1 : a = (1 : Int32)
  · have q : mo_sw 1 (87) (0) (7) #[47, 52, 57, 62, 67, 72, 77, 82] a = (53 : Int) := by rw [e1]; decide
    have e : tt = 53 := by have z := ht.symm.trans q; omega
    subst e
    exact mo_q hQ (by rw [mo_ite_f e0, mo_ite_t e1]; try rfl) rfl
  by_cases e2 : a = (2 : Int32)
  · have q : mo_sw 1 (87) (0) (7) #[47, 52, 57, 62, 67, 72, 77, 82] a = (58 : Int) := by rw [e2]; decide
    have e : tt = 58 := by have z := ht.symm.trans q; omega
    subst e
    exact mo_q hQ (by rw [mo_ite_f e0, mo_ite_f e1, mo_ite_t e2]; try rfl) rfl
  by_cases e3 : a = (3 : Int32)
  · have q : mo_sw 1 (87) (0) (7) #[47, 52, 57, 62, 67, 72, 77, 82] a = (63 : Int) := by rw [e3]; decide
    have e : tt = 63 := by have z := ht.symm.trans q; omega
    subst e
    exact mo_q hQ (by rw [mo_ite_f e0, mo_ite_f e1, mo_ite_f e2, mo_ite_t e3]; try rfl) rfl
  by_cases e4 : a = (4 : Int32)
  · have q : mo_sw 1 (87) (0) (7) #[47, 52, 57, 62, 67, 72, 77, 82] a = (68 : Int) := by rw [e4]; decide
    have e : tt = 68 := by have z := ht.symm.trans q; omega
    subst e
    exact mo_q hQ (by rw [mo_ite_f e0, mo_ite_f e1, mo_ite_f e2, mo_ite_f e3, mo_ite_t e4]; try rfl) rfl
  by_cases e5 : a = (5 : Int32)
  · have q : mo_sw 1 (87) (0) (7) #[47, 52, 57, 62, 67, 72, 77, 82] a = (73 : Int) := by rw [e5]; decide
    have e : tt = 73 := by have z := ht.symm.trans q; omega
    subst e
    exact mo_q hQ (by rw [mo_ite_f e0, mo_ite_f e1, mo_ite_f e2, mo_ite_f e3, mo_ite_f e4, mo_ite_t e5]; try rfl) rfl
  by_cases e6 : a = (6 : Int32)
  · have q : mo_sw 1 (87) (0) (7) #[47, 52, 57, 62, 67, 72, 77, 82] a = (78 : Int) := by rw [e6]; decide
    have e : tt = 78 := by have z := ht.symm.trans q; omega
    subst e
    exact mo_q hQ (by rw [mo_ite_f e0, mo_ite_f e1, mo_ite_f e2, mo_ite_f e3, mo_ite_f e4, mo_ite_f e5, mo_ite_t e6]; try rfl) rfl
  by_cases e7 : a = (7 : Int32)
  · have q : mo_sw 1 (87) (0) (7) #[47, 52, 57, 62, 67, 72, 77, 82] a = (83 : Int) := by rw [e7]; decide
    have e : tt = 83 := by have z := ht.symm.trans q; omega
    subst e
    exact mo_q hQ (by rw [mo_ite_f e0, mo_ite_f e1, mo_ite_f e2, mo_ite_f e3, mo_ite_f e4, mo_ite_f e5, mo_ite_f e6, mo_ite_t e7]; try rfl) rfl
  have q : mo_sw 1 (87) (0) (7) #[47, 52, 57, 62, 67, 72, 77, 82] a = (88 : Int) := by
    unfold mo_sw
    simp only [mo_ieq] at e0 e1 e2 e3 e4 e5 e6 e7
    rw [if_pos (by have z0 : (0 : Int32).toInt = 0 := (by decide); have z1 : (1 : Int32).toInt = 1 := (by decide); have z2 : (2 : Int32).toInt = 2 := (by decide); have z3 : (3 : Int32).toInt = 3 := (by decide); have z4 : (4 : Int32).toInt = 4 := (by decide); have z5 : (5 : Int32).toInt = 5 := (by decide); have z6 : (6 : Int32).toInt = 6 := (by decide); have z7 : (7 : Int32).toInt = 7 := (by decide); omega)]
    rfl
  have e : tt = 88 := by have z := ht.symm.trans q; omega
  subst e
  exact mo_q hQ (by rw [mo_ite_f e0, mo_ite_f e1, mo_ite_f e2, mo_ite_f e3, mo_ite_f e4, mo_ite_f e5, mo_ite_f e6, mo_ite_f e7]; try rfl) rfl
