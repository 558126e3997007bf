/-- a bit of a set -/
def mo_bt (s : Int64) (n : Int32) : Prop := ¬ ((s.toUInt64 >>> (n.toInt64.toUInt64 &&& Int64.toUInt64 63)).toInt64 &&& 1) = 0
def S_X11_isWithin : mo_S := fun as σ Q => ∃ n : Int32, ∃ most : Int32, as = [.inl n, .inl most] ∧ (True) ∧ Q (some (.inl (mo_bl (0 ≤ n ∧ n ≤ most)))) (σ)
theorem m_X11_isWithin : ∀ (as : List mo_V) (σ : mo_M) (P P' : mo_Q), (∀ x τ, P x τ → P' x τ) → S_X11_isWithin as σ P → S_X11_isWithin as σ P' := by
  rintro as σ P P' h ⟨n, most, e, hp, hq⟩
  exact ⟨n, most, e, hp, h _ _ hq⟩
set_option maxRecDepth 20000 in
set_option maxHeartbeats 2000000 in
theorem ct_X11_isWithin : mo_ct yX11_isWithin t_X11_isWithin S_X11_isWithin := by
  refine mo_ct_of (by decide) rfl ?_
  rintro g as σ Q ⟨n, most, rfl, hpre, hQ⟩
  refine ⟨Nat.le_of_ble_eq_true rfl, mo_go ok_X11_isWithin (mo_no_ok g _) [] 10 ?_⟩
  intro K hK
  refine And.intro (fun (c1 : n < 0) => ?_) (fun (c1 : ¬ n < 0) => ?_)
  · refine And.intro (by first | decide | exact mo_bl01 _) ?_
    exact mo_q hQ (mo_r0 (by ((try simp only [mo_bl0, Classical.not_not] at c1); (try simp only [Int32.lt_iff_toInt_lt, Int32.le_iff_toInt_le, mo_ieq, Int32.toInt_zero, mo_n1, Nat.reduceAdd] at c1 ⊢); omega))) rfl
  · refine And.intro (fun (c2 : most < n) => ?_) (fun (c2 : ¬ most < n) => ?_)
    · refine And.intro (by first | decide | exact mo_bl01 _) ?_
      exact mo_q hQ (mo_r0 (by ((try simp only [mo_bl0, Classical.not_not] at c1 c2); (try simp only [Int32.lt_iff_toInt_lt, Int32.le_iff_toInt_le, mo_ieq, Int32.toInt_zero, mo_n1, Nat.reduceAdd] at c1 c2 ⊢); omega))) rfl
    · refine And.intro (by first | decide | exact mo_bl01 _) ?_
      exact mo_q hQ (mo_r1 (by ((try simp only [mo_bl0, Classical.not_not] at c1 c2); (try simp only [Int32.lt_iff_toInt_lt, Int32.le_iff_toInt_le, mo_ieq, Int32.toInt_zero, mo_n1, Nat.reduceAdd] at c1 c2 ⊢); omega))) rfl
def S_X11_isDay : mo_S := fun as σ Q => ∃ n : Int32, as = [.inl n] ∧ (True) ∧ Q (some (.inl (mo_bl (0 ≤ n ∧ n ≤ (10000 : Int32))))) (σ)
theorem m_X11_isDay : ∀ (as : List mo_V) (σ : mo_M) (P P' : mo_Q), (∀ x τ, P x τ → P' x τ) → S_X11_isDay as σ P → S_X11_isDay as σ P' := by
  rintro as σ P P' h ⟨n, e, hp, hq⟩
  exact ⟨n, e, hp, h _ _ hq⟩
def cs_X11_isDay : Nat → mo_C := fun j => match j with
  | 0 => (2, false, 101, 50, S_X11_isWithin)
  | _ => (0, false, 0, 50, fun _ _ _ => False)
theorem cs_X11_isDay_ok (g : mo_E) : ∀ j, mo_cok g t_X11_isDay (cs_X11_isDay j) ∧ mo_mon (cs_X11_isDay j) := by
  intro j
  unfold cs_X11_isDay
  split
  · exact ⟨mo_cokS ct_X11_isWithin (by decide +kernel), m_X11_isWithin⟩
  · exact ⟨mo_cok0 g _, mo_mon0⟩
set_option maxRecDepth 20000 in
set_option maxHeartbeats 2000000 in
theorem ct_X11_isDay : mo_ct yX11_isDay t_X11_isDay S_X11_isDay := by
  refine mo_ct_of (by decide) rfl ?_
  rintro g as σ Q ⟨n, rfl, hpre, hQ⟩
  refine ⟨Nat.le_of_ble_eq_true rfl, mo_go ok_X11_isDay (cs_X11_isDay_ok g) [] 5 ?_⟩
  intro K hK
  refine Exists.intro n (Exists.intro (10000 : Int32) (And.intro rfl (And.intro (show True by trivial) ?_)))
  refine And.intro (by first | decide | exact mo_bl01 _) ?_
  exact hQ
def S_X11_refuse : mo_S := fun as σ Q => ∃ n : Int32, as = [.inr (.inr (0, 0)), .inl n] ∧ (True) ∧ Q (some (.inl (n))) (mo_wI σ 0 0 14 n)
theorem m_X11_refuse : ∀ (as : List mo_V) (σ : mo_M) (P P' : mo_Q), (∀ x τ, P x τ → P' x τ) → S_X11_refuse as σ P → S_X11_refuse as σ P' := by
  rintro as σ P P' h ⟨n, e, hp, hq⟩
  exact ⟨n, e, hp, h _ _ hq⟩
set_option maxRecDepth 20000 in
set_option maxHeartbeats 2000000 in
theorem ct_X11_refuse : mo_ct yX11_refuse t_X11_refuse S_X11_refuse := by
  refine mo_ct_of (by decide) rfl ?_
  rintro g as σ Q ⟨n, rfl, hpre, hQ⟩
  refine ⟨Nat.le_of_ble_eq_true rfl, mo_go ok_X11_refuse (mo_no_ok g _) [] 6 ?_⟩
  intro K hK
  exact hQ
def S_X11_accept : mo_S := fun as σ Q => ∃ n : Int32, as = [.inr (.inr (0, 0)), .inl n] ∧ (True) ∧ Q (some (.inl (n))) (mo_wI σ 0 0 14 0)
theorem m_X11_accept : ∀ (as : List mo_V) (σ : mo_M) (P P' : mo_Q), (∀ x τ, P x τ → P' x τ) → S_X11_accept as σ P → S_X11_accept as σ P' := by
  rintro as σ P P' h ⟨n, e, hp, hq⟩
  exact ⟨n, e, hp, h _ _ hq⟩
set_option maxRecDepth 20000 in
set_option maxHeartbeats 2000000 in
theorem ct_X11_accept : mo_ct yX11_accept t_X11_accept S_X11_accept := by
  refine mo_ct_of (by decide) rfl ?_
  rintro g as σ Q ⟨n, rfl, hpre, hQ⟩
  refine ⟨Nat.le_of_ble_eq_true rfl, mo_go ok_X11_accept (mo_no_ok g _) [] 6 ?_⟩
  intro K hK
  exact hQ
def S_X11_isPart : mo_S := fun as σ Q => ∃ n : Int32, as = [.inr (.inr (0, 0)), .inl n] ∧ (True) ∧ Q (some (.inl (mo_bl (0 ≤ n ∧ n < σ.1 1 0 1)))) (σ)
theorem m_X11_isPart : ∀ (as : List mo_V) (σ : mo_M) (P P' : mo_Q), (∀ x τ, P x τ → P' x τ) → S_X11_isPart as σ P → S_X11_isPart as σ P' := by
  rintro as σ P P' h ⟨n, e, hp, hq⟩
  exact ⟨n, e, hp, h _ _ hq⟩
set_option maxRecDepth 20000 in
set_option maxHeartbeats 2000000 in
theorem ct_X11_isPart : mo_ct yX11_isPart t_X11_isPart S_X11_isPart := by
  refine mo_ct_of (by decide) rfl ?_
  rintro g as σ Q ⟨n, rfl, hpre, hQ⟩
  refine ⟨Nat.le_of_ble_eq_true rfl, mo_go ok_X11_isPart (mo_no_ok g _) [] 12 ?_⟩
  intro K hK
  refine And.intro (fun (c1 : n < 0) => ?_) (fun (c1 : ¬ n < 0) => ?_)
  · refine And.intro (by first | decide | exact mo_bl01 _) ?_
    exact mo_q hQ (mo_r0 (by ((try simp only [mo_bl0, Classical.not_not] at c1); (try simp only [Int32.lt_iff_toInt_lt, Int32.le_iff_toInt_le, mo_ieq, Int32.toInt_zero, mo_n1, Nat.reduceAdd] at c1 ⊢); omega))) rfl
  · refine And.intro (fun (c2 : (σ.1 1 0 1) ≤ n) => ?_) (fun (c2 : ¬ (σ.1 1 0 1) ≤ n) => ?_)
    · refine And.intro (by first | decide | exact mo_bl01 _) ?_
      exact mo_q hQ (mo_r0 (by ((try simp only [mo_bl0, Classical.not_not] at c1 c2); (try simp only [Int32.lt_iff_toInt_lt, Int32.le_iff_toInt_le, mo_ieq, Int32.toInt_zero, mo_n1, Nat.reduceAdd] at c1 c2 ⊢); omega))) rfl
    · refine And.intro (by first | decide | exact mo_bl01 _) ?_
      exact mo_q hQ (mo_r1 (by ((try simp only [mo_bl0, Classical.not_not] at c1 c2); (try simp only [Int32.lt_iff_toInt_lt, Int32.le_iff_toInt_le, mo_ieq, Int32.toInt_zero, mo_n1, Nat.reduceAdd] at c1 c2 ⊢); omega))) rfl
def S_X11_isMake : mo_S := fun as σ Q => ∃ n : Int32, as = [.inr (.inr (0, 0)), .inl n] ∧ (True) ∧ Q (some (.inl (mo_bl (0 ≤ n ∧ n < σ.1 3 0 2)))) (σ)
theorem m_X11_isMake : ∀ (as : List mo_V) (σ : mo_M) (P P' : mo_Q), (∀ x τ, P x τ → P' x τ) → S_X11_isMake as σ P → S_X11_isMake as σ P' := by
  rintro as σ P P' h ⟨n, e, hp, hq⟩
  exact ⟨n, e, hp, h _ _ hq⟩
set_option maxRecDepth 20000 in
set_option maxHeartbeats 2000000 in
theorem ct_X11_isMake : mo_ct yX11_isMake t_X11_isMake S_X11_isMake := by
  refine mo_ct_of (by decide) rfl ?_
  rintro g as σ Q ⟨n, rfl, hpre, hQ⟩
  refine ⟨Nat.le_of_ble_eq_true rfl, mo_go ok_X11_isMake (mo_no_ok g _) [] 12 ?_⟩
  intro K hK
  refine And.intro (fun (c1 : n < 0) => ?_) (fun (c1 : ¬ n < 0) => ?_)
  · refine And.intro (by first | decide | exact mo_bl01 _) ?_
    exact mo_q hQ (mo_r0 (by ((try simp only [mo_bl0, Classical.not_not] at c1); (try simp only [Int32.lt_iff_toInt_lt, Int32.le_iff_toInt_le, mo_ieq, Int32.toInt_zero, mo_n1, Nat.reduceAdd] at c1 ⊢); omega))) rfl
  · refine And.intro (fun (c2 : (σ.1 3 0 2) ≤ n) => ?_) (fun (c2 : ¬ (σ.1 3 0 2) ≤ n) => ?_)
    · refine And.intro (by first | decide | exact mo_bl01 _) ?_
      exact mo_q hQ (mo_r0 (by ((try simp only [mo_bl0, Classical.not_not] at c1 c2); (try simp only [Int32.lt_iff_toInt_lt, Int32.le_iff_toInt_le, mo_ieq, Int32.toInt_zero, mo_n1, Nat.reduceAdd] at c1 c2 ⊢); omega))) rfl
    · refine And.intro (by first | decide | exact mo_bl01 _) ?_
      exact mo_q hQ (mo_r1 (by ((try simp only [mo_bl0, Classical.not_not] at c1 c2); (try simp only [Int32.lt_iff_toInt_lt, Int32.le_iff_toInt_le, mo_ieq, Int32.toInt_zero, mo_n1, Nat.reduceAdd] at c1 c2 ⊢); omega))) rfl
def S_X11_isLink : mo_S := fun as σ Q => ∃ n : Int32, as = [.inr (.inr (0, 0)), .inl n] ∧ (True) ∧ Q (some (.inl (mo_bl (0 ≤ n ∧ n < σ.1 6 0 5)))) (σ)
theorem m_X11_isLink : ∀ (as : List mo_V) (σ : mo_M) (P P' : mo_Q), (∀ x τ, P x τ → P' x τ) → S_X11_isLink as σ P → S_X11_isLink as σ P' := by
  rintro as σ P P' h ⟨n, e, hp, hq⟩
  exact ⟨n, e, hp, h _ _ hq⟩
set_option maxRecDepth 20000 in
set_option maxHeartbeats 2000000 in
theorem ct_X11_isLink : mo_ct yX11_isLink t_X11_isLink S_X11_isLink := by
  refine mo_ct_of (by decide) rfl ?_
  rintro g as σ Q ⟨n, rfl, hpre, hQ⟩
  refine ⟨Nat.le_of_ble_eq_true rfl, mo_go ok_X11_isLink (mo_no_ok g _) [] 12 ?_⟩
  intro K hK
  refine And.intro (fun (c1 : n < 0) => ?_) (fun (c1 : ¬ n < 0) => ?_)
  · refine And.intro (by first | decide | exact mo_bl01 _) ?_
    exact mo_q hQ (mo_r0 (by ((try simp only [mo_bl0, Classical.not_not] at c1); (try simp only [Int32.lt_iff_toInt_lt, Int32.le_iff_toInt_le, mo_ieq, Int32.toInt_zero, mo_n1, Nat.reduceAdd] at c1 ⊢); omega))) rfl
  · refine And.intro (fun (c2 : (σ.1 6 0 5) ≤ n) => ?_) (fun (c2 : ¬ (σ.1 6 0 5) ≤ n) => ?_)
    · refine And.intro (by first | decide | exact mo_bl01 _) ?_
      exact mo_q hQ (mo_r0 (by ((try simp only [mo_bl0, Classical.not_not] at c1 c2); (try simp only [Int32.lt_iff_toInt_lt, Int32.le_iff_toInt_le, mo_ieq, Int32.toInt_zero, mo_n1, Nat.reduceAdd] at c1 c2 ⊢); omega))) rfl
    · refine And.intro (by first | decide | exact mo_bl01 _) ?_
      exact mo_q hQ (mo_r1 (by ((try simp only [mo_bl0, Classical.not_not] at c1 c2); (try simp only [Int32.lt_iff_toInt_lt, Int32.le_iff_toInt_le, mo_ieq, Int32.toInt_zero, mo_n1, Nat.reduceAdd] at c1 c2 ⊢); omega))) rfl
def S_X11_isWarning : mo_S := fun as σ Q => ∃ n : Int32, as = [.inr (.inr (0, 0)), .inl n] ∧ (True) ∧ Q (some (.inl (mo_bl (0 ≤ n ∧ n < σ.1 0 0 12)))) (σ)
theorem m_X11_isWarning : ∀ (as : List mo_V) (σ : mo_M) (P P' : mo_Q), (∀ x τ, P x τ → P' x τ) → S_X11_isWarning as σ P → S_X11_isWarning as σ P' := by
  rintro as σ P P' h ⟨n, e, hp, hq⟩
  exact ⟨n, e, hp, h _ _ hq⟩
set_option maxRecDepth 20000 in
set_option maxHeartbeats 2000000 in
theorem ct_X11_isWarning : mo_ct yX11_isWarning t_X11_isWarning S_X11_isWarning := by
  refine mo_ct_of (by decide) rfl ?_
  rintro g as σ Q ⟨n, rfl, hpre, hQ⟩
  refine ⟨Nat.le_of_ble_eq_true rfl, mo_go ok_X11_isWarning (mo_no_ok g _) [] 11 ?_⟩
  intro K hK
  refine And.intro (fun (c1 : n < 0) => ?_) (fun (c1 : ¬ n < 0) => ?_)
  · refine And.intro (by first | decide | exact mo_bl01 _) ?_
    exact mo_q hQ (mo_r0 (by ((try simp only [mo_bl0, Classical.not_not] at c1); (try simp only [Int32.lt_iff_toInt_lt, Int32.le_iff_toInt_le, mo_ieq, Int32.toInt_zero, mo_n1, Nat.reduceAdd] at c1 ⊢); omega))) rfl
  · refine And.intro (fun (c2 : (σ.1 0 0 12) ≤ n) => ?_) (fun (c2 : ¬ (σ.1 0 0 12) ≤ n) => ?_)
    · refine And.intro (by first | decide | exact mo_bl01 _) ?_
      exact mo_q hQ (mo_r0 (by ((try simp only [mo_bl0, Classical.not_not] at c1 c2); (try simp only [Int32.lt_iff_toInt_lt, Int32.le_iff_toInt_le, mo_ieq, Int32.toInt_zero, mo_n1, Nat.reduceAdd] at c1 c2 ⊢); omega))) rfl
    · refine And.intro (by first | decide | exact mo_bl01 _) ?_
      exact mo_q hQ (mo_r1 (by ((try simp only [mo_bl0, Classical.not_not] at c1 c2); (try simp only [Int32.lt_iff_toInt_lt, Int32.le_iff_toInt_le, mo_ieq, Int32.toInt_zero, mo_n1, Nat.reduceAdd] at c1 c2 ⊢); omega))) rfl
def S_X11_status : mo_S := fun as σ Q => as = [.inr (.inr (0, 0))] ∧ (True) ∧ Q (some (.inl (σ.1 0 0 14))) (σ)
theorem m_X11_status : ∀ (as : List mo_V) (σ : mo_M) (P P' : mo_Q), (∀ x τ, P x τ → P' x τ) → S_X11_status as σ P → S_X11_status as σ P' := by
  rintro as σ P P' h ⟨e, hp, hq⟩
  exact ⟨e, hp, h _ _ hq⟩
set_option maxRecDepth 20000 in
set_option maxHeartbeats 2000000 in
theorem ct_X11_status : mo_ct yX11_status t_X11_status S_X11_status := by
  refine mo_ct_of (by decide) rfl ?_
  rintro g as σ Q ⟨rfl, hpre, hQ⟩
  refine ⟨Nat.le_of_ble_eq_true rfl, mo_go ok_X11_status (mo_no_ok g _) [] 4 ?_⟩
  intro K hK
  exact hQ
def S_X11_fault : mo_S := fun as σ Q => as = [.inr (.inr (0, 0))] ∧ (True) ∧ Q (some (.inl (σ.1 0 0 13))) (σ)
theorem m_X11_fault : ∀ (as : List mo_V) (σ : mo_M) (P P' : mo_Q), (∀ x τ, P x τ → P' x τ) → S_X11_fault as σ P → S_X11_fault as σ P' := by
  rintro as σ P P' h ⟨e, hp, hq⟩
  exact ⟨e, hp, h _ _ hq⟩
set_option maxRecDepth 20000 in
set_option maxHeartbeats 2000000 in
theorem ct_X11_fault : mo_ct yX11_fault t_X11_fault S_X11_fault := by
  refine mo_ct_of (by decide) rfl ?_
  rintro g as σ Q ⟨rfl, hpre, hQ⟩
  refine ⟨Nat.le_of_ble_eq_true rfl, mo_go ok_X11_fault (mo_no_ok g _) [] 4 ?_⟩
  intro K hK
  exact hQ
def S_X11_isVersion : mo_S := fun as σ Q => ∃ a : Int32, ∃ b : Int32, ∃ c : Int32, as = [.inl a, .inl b, .inl c] ∧ (True) ∧ Q (some (.inl (mo_bl ((0 ≤ a ∧ a ≤ (999 : Int32)) ∧ (0 ≤ b ∧ b ≤ (999 : Int32)) ∧ (0 ≤ c ∧ c ≤ (999 : Int32)))))) (σ)
theorem m_X11_isVersion : ∀ (as : List mo_V) (σ : mo_M) (P P' : mo_Q), (∀ x τ, P x τ → P' x τ) → S_X11_isVersion as σ P → S_X11_isVersion as σ P' := by
  rintro as σ P P' h ⟨a, b, c, e, hp, hq⟩
  exact ⟨a, b, c, e, hp, h _ _ hq⟩
def cs_X11_isVersion : Nat → mo_C := fun j => match j with
  | 0 => (2, false, 101, 50, S_X11_isWithin)
  | _ => (0, false, 0, 50, fun _ _ _ => False)
theorem cs_X11_isVersion_ok (g : mo_E) : ∀ j, mo_cok g t_X11_isVersion (cs_X11_isVersion j) ∧ mo_mon (cs_X11_isVersion j) := by
  intro j
  unfold cs_X11_isVersion
  split
  · exact ⟨mo_cokS ct_X11_isWithin (by decide +kernel), m_X11_isWithin⟩
  · exact ⟨mo_cok0 g _, mo_mon0⟩
set_option maxRecDepth 20000 in
set_option maxHeartbeats 2000000 in
theorem ct_X11_isVersion : mo_ct yX11_isVersion t_X11_isVersion S_X11_isVersion := by
  refine mo_ct_of (by decide) rfl ?_
  rintro g as σ Q ⟨a, b, c, rfl, hpre, hQ⟩
  refine ⟨Nat.le_of_ble_eq_true rfl, mo_go ok_X11_isVersion (cs_X11_isVersion_ok g) [] 17 ?_⟩
  intro K hK
  refine Exists.intro a (Exists.intro (999 : Int32) (And.intro rfl (And.intro (show True by trivial) ?_)))
  refine And.intro (fun (c1 : (mo_bl (0 ≤ a ∧ a ≤ (999 : Int32))) = 0) => ?_) (fun (c1 : ¬ (mo_bl (0 ≤ a ∧ a ≤ (999 : Int32))) = 0) => ?_)
  · refine And.intro (by first | decide | exact mo_bl01 _) ?_
    exact mo_q hQ (mo_r0 (by ((try simp only [mo_bl0, Classical.not_not] at c1); (try simp only [Int32.lt_iff_toInt_lt, Int32.le_iff_toInt_le, mo_ieq, Int32.toInt_zero, mo_n1, Nat.reduceAdd] at c1 ⊢); omega))) rfl
  · refine Exists.intro b (Exists.intro (999 : Int32) (And.intro rfl (And.intro (show True by trivial) ?_)))
    refine And.intro (fun (c2 : (mo_bl (0 ≤ b ∧ b ≤ (999 : Int32))) = 0) => ?_) (fun (c2 : ¬ (mo_bl (0 ≤ b ∧ b ≤ (999 : Int32))) = 0) => ?_)
    · refine And.intro (by first | decide | exact mo_bl01 _) ?_
      exact mo_q hQ (mo_r0 (by ((try simp only [mo_bl0, Classical.not_not] at c1 c2); (try simp only [Int32.lt_iff_toInt_lt, Int32.le_iff_toInt_le, mo_ieq, Int32.toInt_zero, mo_n1, Nat.reduceAdd] at c1 c2 ⊢); omega))) rfl
    · refine Exists.intro c (Exists.intro (999 : Int32) (And.intro rfl (And.intro (show True by trivial) ?_)))
      refine And.intro (fun (c3 : (mo_bl (0 ≤ c ∧ c ≤ (999 : Int32))) = 0) => ?_) (fun (c3 : ¬ (mo_bl (0 ≤ c ∧ c ≤ (999 : Int32))) = 0) => ?_)
      · refine And.intro (by first | decide | exact mo_bl01 _) ?_
        exact mo_q hQ (mo_r0 (by ((try simp only [mo_bl0, Classical.not_not] at c1 c2 c3); (try simp only [Int32.lt_iff_toInt_lt, Int32.le_iff_toInt_le, mo_ieq, Int32.toInt_zero, mo_n1, Nat.reduceAdd] at c1 c2 c3 ⊢); omega))) rfl
      · refine And.intro (by first | decide | exact mo_bl01 _) ?_
        exact mo_q hQ (mo_r1 (by ((try simp only [mo_bl0, Classical.not_not] at c1 c2 c3); (try simp only [Int32.lt_iff_toInt_lt, Int32.le_iff_toInt_le, mo_ieq, Int32.toInt_zero, mo_n1, Nat.reduceAdd] at c1 c2 c3 ⊢); omega))) rfl
def S_X12_in : mo_S := fun as σ Q => ∃ v : Int32, ∃ low : Int32, ∃ high : Int32, as = [.inl v, .inl low, .inl high] ∧ (True) ∧ Q (some (.inl (mo_bl (low ≤ v ∧ v ≤ high)))) (σ)
theorem m_X12_in : ∀ (as : List mo_V) (σ : mo_M) (P P' : mo_Q), (∀ x τ, P x τ → P' x τ) → S_X12_in as σ P → S_X12_in as σ P' := by
  rintro as σ P P' h ⟨v, low, high, e, hp, hq⟩
  exact ⟨v, low, high, e, hp, h _ _ hq⟩
set_option maxRecDepth 20000 in
set_option maxHeartbeats 2000000 in
theorem ct_X12_in : mo_ct yX12_in t_X12_in S_X12_in := by
  refine mo_ct_of (by decide) rfl ?_
  rintro g as σ Q ⟨v, low, high, rfl, hpre, hQ⟩
  refine ⟨Nat.le_of_ble_eq_true rfl, mo_go ok_X12_in (mo_no_ok g _) [] 11 ?_⟩
  intro K hK
  refine And.intro (fun (c1 : v < low) => ?_) (fun (c1 : ¬ v < low) => ?_)
  · refine And.intro (by first | decide | exact mo_bl01 _) ?_
    exact mo_q hQ (mo_r0 (by ((try simp only [mo_bl0, Classical.not_not] at c1); (try simp only [Int32.lt_iff_toInt_lt, Int32.le_iff_toInt_le, mo_ieq, Int32.toInt_zero, mo_n1, Nat.reduceAdd] at c1 ⊢); omega))) rfl
  · refine And.intro (fun (c2 : high < v) => ?_) (fun (c2 : ¬ high < v) => ?_)
    · refine And.intro (by first | decide | exact mo_bl01 _) ?_
      exact mo_q hQ (mo_r0 (by ((try simp only [mo_bl0, Classical.not_not] at c1 c2); (try simp only [Int32.lt_iff_toInt_lt, Int32.le_iff_toInt_le, mo_ieq, Int32.toInt_zero, mo_n1, Nat.reduceAdd] at c1 c2 ⊢); omega))) rfl
    · refine And.intro (by first | decide | exact mo_bl01 _) ?_
      exact mo_q hQ (mo_r1 (by ((try simp only [mo_bl0, Classical.not_not] at c1 c2); (try simp only [Int32.lt_iff_toInt_lt, Int32.le_iff_toInt_le, mo_ieq, Int32.toInt_zero, mo_n1, Nat.reduceAdd] at c1 c2 ⊢); omega))) rfl
def S_X12_isDay : mo_S := fun as σ Q => ∃ n : Int32, as = [.inl n] ∧ (True) ∧ Q (some (.inl (mo_bl (0 ≤ n ∧ n ≤ (10000 : Int32))))) (σ)
theorem m_X12_isDay : ∀ (as : List mo_V) (σ : mo_M) (P P' : mo_Q), (∀ x τ, P x τ → P' x τ) → S_X12_isDay as σ P → S_X12_isDay as σ P' := by
  rintro as σ P P' h ⟨n, e, hp, hq⟩
  exact ⟨n, e, hp, h _ _ hq⟩
def cs_X12_isDay : Nat → mo_C := fun j => match j with
  | 0 => (3, false, 109, 50, S_X12_in)
  | _ => (0, false, 0, 50, fun _ _ _ => False)
theorem cs_X12_isDay_ok (g : mo_E) : ∀ j, mo_cok g t_X12_isDay (cs_X12_isDay j) ∧ mo_mon (cs_X12_isDay j) := by
  intro j
  unfold cs_X12_isDay
  split
  · exact ⟨mo_cokS ct_X12_in (by decide +kernel), m_X12_in⟩
  · exact ⟨mo_cok0 g _, mo_mon0⟩
set_option maxRecDepth 20000 in
set_option maxHeartbeats 2000000 in
theorem ct_X12_isDay : mo_ct yX12_isDay t_X12_isDay S_X12_isDay := by
  refine mo_ct_of (by decide) rfl ?_
  rintro g as σ Q ⟨n, rfl, hpre, hQ⟩
  refine ⟨Nat.le_of_ble_eq_true rfl, mo_go ok_X12_isDay (cs_X12_isDay_ok g) [] 6 ?_⟩
  intro K hK
  refine Exists.intro n (Exists.intro (0 : Int32) (Exists.intro (10000 : Int32) (And.intro rfl (And.intro (show True by trivial) ?_))))
  refine And.intro (by first | decide | exact mo_bl01 _) ?_
  exact hQ
def S_X12_status : mo_S := fun as σ Q => as = [.inr (.inr (50, 0))] ∧ (True) ∧ Q (some (.inl (σ.1 50 0 0))) (σ)
theorem m_X12_status : ∀ (as : List mo_V) (σ : mo_M) (P P' : mo_Q), (∀ x τ, P x τ → P' x τ) → S_X12_status as σ P → S_X12_status as σ P' := by
  rintro as σ P P' h ⟨e, hp, hq⟩
  exact ⟨e, hp, h _ _ hq⟩
set_option maxRecDepth 20000 in
set_option maxHeartbeats 2000000 in
theorem ct_X12_status : mo_ct yX12_status t_X12_status S_X12_status := by
  refine mo_ct_of (by decide) rfl ?_
  rintro g as σ Q ⟨rfl, hpre, hQ⟩
  refine ⟨Nat.le_of_ble_eq_true rfl, mo_go ok_X12_status (mo_no_ok g _) [] 4 ?_⟩
  intro K hK
  exact hQ
def S_X12_fault : mo_S := fun as σ Q => as = [.inr (.inr (50, 0))] ∧ (True) ∧ Q (some (.inl (σ.1 50 0 34))) (σ)
theorem m_X12_fault : ∀ (as : List mo_V) (σ : mo_M) (P P' : mo_Q), (∀ x τ, P x τ → P' x τ) → S_X12_fault as σ P → S_X12_fault as σ P' := by
  rintro as σ P P' h ⟨e, hp, hq⟩
  exact ⟨e, hp, h _ _ hq⟩
set_option maxRecDepth 20000 in
set_option maxHeartbeats 2000000 in
theorem ct_X12_fault : mo_ct yX12_fault t_X12_fault S_X12_fault := by
  refine mo_ct_of (by decide) rfl ?_
  rintro g as σ Q ⟨rfl, hpre, hQ⟩
  refine ⟨Nat.le_of_ble_eq_true rfl, mo_go ok_X12_fault (mo_no_ok g _) [] 4 ?_⟩
  intro K hK
  exact hQ
def S_X12_isPart : mo_S := fun as σ Q => ∃ n : Int32, as = [.inr (.inr (50, 0)), .inl n] ∧ (True) ∧ Q (some (.inl (mo_bl (0 ≤ n ∧ n ≤ σ.1 50 0 1 - 1)))) (σ)
theorem m_X12_isPart : ∀ (as : List mo_V) (σ : mo_M) (P P' : mo_Q), (∀ x τ, P x τ → P' x τ) → S_X12_isPart as σ P → S_X12_isPart as σ P' := by
  rintro as σ P P' h ⟨n, e, hp, hq⟩
  exact ⟨n, e, hp, h _ _ hq⟩
def cs_X12_isPart : Nat → mo_C := fun j => match j with
  | 0 => (3, false, 109, 50, S_X12_in)
  | _ => (0, false, 0, 50, fun _ _ _ => False)
theorem cs_X12_isPart_ok (g : mo_E) : ∀ j, mo_cok g t_X12_isPart (cs_X12_isPart j) ∧ mo_mon (cs_X12_isPart j) := by
  intro j
  unfold cs_X12_isPart
  split
  · exact ⟨mo_cokS ct_X12_in (by decide +kernel), m_X12_in⟩
  · exact ⟨mo_cok0 g _, mo_mon0⟩
set_option maxRecDepth 20000 in
set_option maxHeartbeats 2000000 in
theorem ct_X12_isPart : mo_ct yX12_isPart t_X12_isPart S_X12_isPart := by
  refine mo_ct_of (by decide) rfl ?_
  rintro g as σ Q ⟨n, rfl, hpre, hQ⟩
  refine ⟨Nat.le_of_ble_eq_true rfl, mo_go ok_X12_isPart (cs_X12_isPart_ok g) [] 9 ?_⟩
  intro K hK
  refine Exists.intro n (Exists.intro (0 : Int32) (Exists.intro ((σ.1 50 0 1) - (1 : Int32)) (And.intro rfl (And.intro (show True by trivial) ?_))))
  refine And.intro (by first | decide | exact mo_bl01 _) ?_
  exact hQ
def S_X12_isMake : mo_S := fun as σ Q => ∃ n : Int32, as = [.inr (.inr (50, 0)), .inl n] ∧ (True) ∧ Q (some (.inl (mo_bl (0 ≤ n ∧ n ≤ σ.1 50 0 2 - 1)))) (σ)
theorem m_X12_isMake : ∀ (as : List mo_V) (σ : mo_M) (P P' : mo_Q), (∀ x τ, P x τ → P' x τ) → S_X12_isMake as σ P → S_X12_isMake as σ P' := by
  rintro as σ P P' h ⟨n, e, hp, hq⟩
  exact ⟨n, e, hp, h _ _ hq⟩
def cs_X12_isMake : Nat → mo_C := fun j => match j with
  | 0 => (3, false, 109, 50, S_X12_in)
  | _ => (0, false, 0, 50, fun _ _ _ => False)
theorem cs_X12_isMake_ok (g : mo_E) : ∀ j, mo_cok g t_X12_isMake (cs_X12_isMake j) ∧ mo_mon (cs_X12_isMake j) := by
  intro j
  unfold cs_X12_isMake
  split
  · exact ⟨mo_cokS ct_X12_in (by decide +kernel), m_X12_in⟩
  · exact ⟨mo_cok0 g _, mo_mon0⟩
set_option maxRecDepth 20000 in
set_option maxHeartbeats 2000000 in
theorem ct_X12_isMake : mo_ct yX12_isMake t_X12_isMake S_X12_isMake := by
  refine mo_ct_of (by decide) rfl ?_
  rintro g as σ Q ⟨n, rfl, hpre, hQ⟩
  refine ⟨Nat.le_of_ble_eq_true rfl, mo_go ok_X12_isMake (cs_X12_isMake_ok g) [] 9 ?_⟩
  intro K hK
  refine Exists.intro n (Exists.intro (0 : Int32) (Exists.intro ((σ.1 50 0 2) - (1 : Int32)) (And.intro rfl (And.intro (show True by trivial) ?_))))
  refine And.intro (by first | decide | exact mo_bl01 _) ?_
  exact hQ
def S_X12_isWarning : mo_S := fun as σ Q => ∃ n : Int32, as = [.inr (.inr (50, 0)), .inl n] ∧ (True) ∧ Q (some (.inl (mo_bl (0 ≤ n ∧ n ≤ σ.1 50 0 36 - 1)))) (σ)
theorem m_X12_isWarning : ∀ (as : List mo_V) (σ : mo_M) (P P' : mo_Q), (∀ x τ, P x τ → P' x τ) → S_X12_isWarning as σ P → S_X12_isWarning as σ P' := by
  rintro as σ P P' h ⟨n, e, hp, hq⟩
  exact ⟨n, e, hp, h _ _ hq⟩
def cs_X12_isWarning : Nat → mo_C := fun j => match j with
  | 0 => (3, false, 109, 50, S_X12_in)
  | _ => (0, false, 0, 50, fun _ _ _ => False)
theorem cs_X12_isWarning_ok (g : mo_E) : ∀ j, mo_cok g t_X12_isWarning (cs_X12_isWarning j) ∧ mo_mon (cs_X12_isWarning j) := by
  intro j
  unfold cs_X12_isWarning
  split
  · exact ⟨mo_cokS ct_X12_in (by decide +kernel), m_X12_in⟩
  · exact ⟨mo_cok0 g _, mo_mon0⟩
set_option maxRecDepth 20000 in
set_option maxHeartbeats 2000000 in
theorem ct_X12_isWarning : mo_ct yX12_isWarning t_X12_isWarning S_X12_isWarning := by
  refine mo_ct_of (by decide) rfl ?_
  rintro g as σ Q ⟨n, rfl, hpre, hQ⟩
  refine ⟨Nat.le_of_ble_eq_true rfl, mo_go ok_X12_isWarning (cs_X12_isWarning_ok g) [] 9 ?_⟩
  intro K hK
  refine Exists.intro n (Exists.intro (0 : Int32) (Exists.intro ((σ.1 50 0 36) - (1 : Int32)) (And.intro rfl (And.intro (show True by trivial) ?_))))
  refine And.intro (by first | decide | exact mo_bl01 _) ?_
  exact hQ
def S_X12_isSite : mo_S := fun as σ Q => ∃ n : Int32, as = [.inl n] ∧ (True) ∧ Q (some (.inl (mo_bl (0 ≤ n ∧ n ≤ (29 : Int32))))) (σ)
theorem m_X12_isSite : ∀ (as : List mo_V) (σ : mo_M) (P P' : mo_Q), (∀ x τ, P x τ → P' x τ) → S_X12_isSite as σ P → S_X12_isSite as σ P' := by
  rintro as σ P P' h ⟨n, e, hp, hq⟩
  exact ⟨n, e, hp, h _ _ hq⟩
def cs_X12_isSite : Nat → mo_C := fun j => match j with
  | 0 => (3, false, 109, 50, S_X12_in)
  | _ => (0, false, 0, 50, fun _ _ _ => False)
theorem cs_X12_isSite_ok (g : mo_E) : ∀ j, mo_cok g t_X12_isSite (cs_X12_isSite j) ∧ mo_mon (cs_X12_isSite j) := by
  intro j
  unfold cs_X12_isSite
  split
  · exact ⟨mo_cokS ct_X12_in (by decide +kernel), m_X12_in⟩
  · exact ⟨mo_cok0 g _, mo_mon0⟩
set_option maxRecDepth 20000 in
set_option maxHeartbeats 2000000 in
theorem ct_X12_isSite : mo_ct yX12_isSite t_X12_isSite S_X12_isSite := by
  refine mo_ct_of (by decide) rfl ?_
  rintro g as σ Q ⟨n, rfl, hpre, hQ⟩
  refine ⟨Nat.le_of_ble_eq_true rfl, mo_go ok_X12_isSite (cs_X12_isSite_ok g) [] 6 ?_⟩
  intro K hK
  refine Exists.intro n (Exists.intro (0 : Int32) (Exists.intro (29 : Int32) (And.intro rfl (And.intro (show True by trivial) ?_))))
  refine And.intro (by first | decide | exact mo_bl01 _) ?_
  exact hQ
def S_X12_versionOf : mo_S := fun as σ Q => ∃ a : Int32, ∃ b : Int32, ∃ c : Int32, as = [.inl a, .inl b, .inl c] ∧ (True) ∧ Q (some (.inl ((a * (1000 : Int32) + b) * (1000 : Int32) + c))) (σ)
theorem m_X12_versionOf : ∀ (as : List mo_V) (σ : mo_M) (P P' : mo_Q), (∀ x τ, P x τ → P' x τ) → S_X12_versionOf as σ P → S_X12_versionOf as σ P' := by
  rintro as σ P P' h ⟨a, b, c, e, hp, hq⟩
  exact ⟨a, b, c, e, hp, h _ _ hq⟩
set_option maxRecDepth 20000 in
set_option maxHeartbeats 2000000 in
theorem ct_X12_versionOf : mo_ct yX12_versionOf t_X12_versionOf S_X12_versionOf := by
  refine mo_ct_of (by decide) rfl ?_
  rintro g as σ Q ⟨a, b, c, rfl, hpre, hQ⟩
  refine ⟨Nat.le_of_ble_eq_true rfl, mo_go ok_X12_versionOf (mo_no_ok g _) [] 11 ?_⟩
  intro K hK
  exact hQ
def S_X12_areGood : mo_S := fun as σ Q => ∃ a : Int32, ∃ b : Int32, ∃ c : Int32, as = [.inl a, .inl b, .inl c] ∧ (True) ∧ Q (some (.inl (mo_bl ((0 ≤ a ∧ a ≤ (999 : Int32)) ∧ (0 ≤ b ∧ b ≤ (999 : Int32)) ∧ (0 ≤ c ∧ c ≤ (999 : Int32)))))) (σ)
theorem m_X12_areGood : ∀ (as : List mo_V) (σ : mo_M) (P P' : mo_Q), (∀ x τ, P x τ → P' x τ) → S_X12_areGood as σ P → S_X12_areGood as σ P' := by
  rintro as σ P P' h ⟨a, b, c, e, hp, hq⟩
  exact ⟨a, b, c, e, hp, h _ _ hq⟩
def cs_X12_areGood : Nat → mo_C := fun j => match j with
  | 0 => (3, false, 109, 50, S_X12_in)
  | _ => (0, false, 0, 50, fun _ _ _ => False)
theorem cs_X12_areGood_ok (g : mo_E) : ∀ j, mo_cok g t_X12_areGood (cs_X12_areGood j) ∧ mo_mon (cs_X12_areGood j) := by
  intro j
  unfold cs_X12_areGood
  split
  · exact ⟨mo_cokS ct_X12_in (by decide +kernel), m_X12_in⟩
  · exact ⟨mo_cok0 g _, mo_mon0⟩
set_option maxRecDepth 20000 in
set_option maxHeartbeats 2000000 in
theorem ct_X12_areGood : mo_ct yX12_areGood t_X12_areGood S_X12_areGood := by
  refine mo_ct_of (by decide) rfl ?_
  rintro g as σ Q ⟨a, b, c, rfl, hpre, hQ⟩
  refine ⟨Nat.le_of_ble_eq_true rfl, mo_go ok_X12_areGood (cs_X12_areGood_ok g) [] 20 ?_⟩
  intro K hK
  refine Exists.intro a (Exists.intro (0 : Int32) (Exists.intro (999 : Int32) (And.intro rfl (And.intro (show True by trivial) ?_))))
  refine And.intro (fun (c1 : (mo_bl ((0 : Int32) ≤ a ∧ a ≤ (999 : Int32))) = 0) => ?_) (fun (c1 : ¬ (mo_bl ((0 : Int32) ≤ a ∧ a ≤ (999 : Int32))) = 0) => ?_)
  · refine And.intro (by first | decide | exact mo_bl01 _) ?_
    exact mo_q hQ (mo_r0 (by ((try simp only [mo_bl0, Classical.not_not] at c1); (try simp only [Int32.lt_iff_toInt_lt, Int32.le_iff_toInt_le, mo_ieq, Int32.toInt_zero, mo_n1, Nat.reduceAdd] at c1 ⊢); omega))) rfl
  · refine Exists.intro b (Exists.intro (0 : Int32) (Exists.intro (999 : Int32) (And.intro rfl (And.intro (show True by trivial) ?_))))
    refine And.intro (fun (c2 : (mo_bl ((0 : Int32) ≤ b ∧ b ≤ (999 : Int32))) = 0) => ?_) (fun (c2 : ¬ (mo_bl ((0 : Int32) ≤ b ∧ b ≤ (999 : Int32))) = 0) => ?_)
    · refine And.intro (by first | decide | exact mo_bl01 _) ?_
      exact mo_q hQ (mo_r0 (by ((try simp only [mo_bl0, Classical.not_not] at c1 c2); (try simp only [Int32.lt_iff_toInt_lt, Int32.le_iff_toInt_le, mo_ieq, Int32.toInt_zero, mo_n1, Nat.reduceAdd] at c1 c2 ⊢); omega))) rfl
    · refine Exists.intro c (Exists.intro (0 : Int32) (Exists.intro (999 : Int32) (And.intro rfl (And.intro (show True by trivial) ?_))))
      refine And.intro (fun (c3 : (mo_bl ((0 : Int32) ≤ c ∧ c ≤ (999 : Int32))) = 0) => ?_) (fun (c3 : ¬ (mo_bl ((0 : Int32) ≤ c ∧ c ≤ (999 : Int32))) = 0) => ?_)
      · refine And.intro (by first | decide | exact mo_bl01 _) ?_
        exact mo_q hQ (mo_r0 (by ((try simp only [mo_bl0, Classical.not_not] at c1 c2 c3); (try simp only [Int32.lt_iff_toInt_lt, Int32.le_iff_toInt_le, mo_ieq, Int32.toInt_zero, mo_n1, Nat.reduceAdd] at c1 c2 c3 ⊢); omega))) rfl
      · refine And.intro (by first | decide | exact mo_bl01 _) ?_
        exact mo_q hQ (mo_r1 (by ((try simp only [mo_bl0, Classical.not_not] at c1 c2 c3); (try simp only [Int32.lt_iff_toInt_lt, Int32.le_iff_toInt_le, mo_ieq, Int32.toInt_zero, mo_n1, Nat.reduceAdd] at c1 c2 c3 ⊢); omega))) rfl
def S_X12_good : mo_S := fun as σ Q => as = [.inr (.inr (50, 0))] ∧ (True) ∧ Q (some (.inl (mo_bl (σ.1 50 0 35 = (-1 : Int32))))) (σ)
theorem m_X12_good : ∀ (as : List mo_V) (σ : mo_M) (P P' : mo_Q), (∀ x τ, P x τ → P' x τ) → S_X12_good as σ P → S_X12_good as σ P' := by
  rintro as σ P P' h ⟨e, hp, hq⟩
  exact ⟨e, hp, h _ _ hq⟩
set_option maxRecDepth 20000 in
set_option maxHeartbeats 2000000 in
theorem ct_X12_good : mo_ct yX12_good t_X12_good S_X12_good := by
  refine mo_ct_of (by decide) rfl ?_
  rintro g as σ Q ⟨rfl, hpre, hQ⟩
  refine ⟨Nat.le_of_ble_eq_true rfl, mo_go ok_X12_good (mo_no_ok g _) [] 9 ?_⟩
  intro K hK
  refine And.intro (fun (c1 : ¬ (σ.1 50 0 35) = (-1 : Int32)) => ?_) (fun (c1 : (σ.1 50 0 35) = (-1 : Int32)) => ?_)
  · refine And.intro (by first | decide | exact mo_bl01 _) ?_
    exact mo_q hQ (mo_r0 (by ((try simp only [mo_bl0, Classical.not_not] at c1); (try simp only [Int32.lt_iff_toInt_lt, Int32.le_iff_toInt_le, mo_ieq, Int32.toInt_zero, mo_n1, Nat.reduceAdd] at c1 ⊢); omega))) rfl
  · refine And.intro (by first | decide | exact mo_bl01 _) ?_
    exact mo_q hQ (mo_r1 (by ((try simp only [mo_bl0, Classical.not_not] at c1); (try simp only [Int32.lt_iff_toInt_lt, Int32.le_iff_toInt_le, mo_ieq, Int32.toInt_zero, mo_n1, Nat.reduceAdd] at c1 ⊢); omega))) rfl
def S_X2_isCut : mo_S := fun as σ Q => ∃ n : Int32, as = [.inr (.inr (6, 0)), .inl n] ∧ (vp_in n 200) ∧ Q (some (.inl (mo_bl (¬ σ.1 11 0 n.toNatClampNeg = (10001 : Int32))))) (σ)
theorem m_X2_isCut : ∀ (as : List mo_V) (σ : mo_M) (P P' : mo_Q), (∀ x τ, P x τ → P' x τ) → S_X2_isCut as σ P → S_X2_isCut as σ P' := by
  rintro as σ P P' h ⟨n, e, hp, hq⟩
  exact ⟨n, e, hp, h _ _ hq⟩
set_option maxRecDepth 20000 in
set_option maxHeartbeats 2000000 in
theorem ct_X2_isCut : mo_ct yX2_isCut t_X2_isCut S_X2_isCut := by
  refine mo_ct_of (by decide) rfl ?_
  rintro g as σ Q ⟨n, rfl, hpre, hQ⟩
  refine ⟨Nat.le_of_ble_eq_true rfl, mo_go ok_X2_isCut (mo_no_ok g _) [] 11 ?_⟩
  intro K hK
  refine And.intro (show vp_in n 200 by exact hpre) ?_
  refine And.intro (fun (c1 : (σ.1 11 0 n.toNatClampNeg) = (10001 : Int32)) => ?_) (fun (c1 : ¬ (σ.1 11 0 n.toNatClampNeg) = (10001 : Int32)) => ?_)
  · refine And.intro (by first | decide | exact mo_bl01 _) ?_
    exact mo_q hQ (mo_r0 (by ((try simp only [mo_bl0, Classical.not_not] at c1); (try simp only [Int32.lt_iff_toInt_lt, Int32.le_iff_toInt_le, mo_ieq, Int32.toInt_zero, mo_n1, Nat.reduceAdd] at c1 ⊢); omega))) rfl
  · refine And.intro (by first | decide | exact mo_bl01 _) ?_
    exact mo_q hQ (mo_r1 (by ((try simp only [mo_bl0, Classical.not_not] at c1); (try simp only [Int32.lt_iff_toInt_lt, Int32.le_iff_toInt_le, mo_ieq, Int32.toInt_zero, mo_n1, Nat.reduceAdd] at c1 ⊢); omega))) rfl
def S_X2_isLive : mo_S := fun as σ Q => ∃ n : Int32, ∃ day : Int32, as = [.inr (.inr (6, 0)), .inl n, .inl day] ∧ (vp_in n 200) ∧ Q (some (.inl (mo_bl (σ.1 10 0 n.toNatClampNeg ≤ day ∧ day < σ.1 11 0 n.toNatClampNeg)))) (σ)
theorem m_X2_isLive : ∀ (as : List mo_V) (σ : mo_M) (P P' : mo_Q), (∀ x τ, P x τ → P' x τ) → S_X2_isLive as σ P → S_X2_isLive as σ P' := by
  rintro as σ P P' h ⟨n, day, e, hp, hq⟩
  exact ⟨n, day, e, hp, h _ _ hq⟩
set_option maxRecDepth 20000 in
set_option maxHeartbeats 2000000 in
theorem ct_X2_isLive : mo_ct yX2_isLive t_X2_isLive S_X2_isLive := by
  refine mo_ct_of (by decide) rfl ?_
  rintro g as σ Q ⟨n, day, rfl, hpre, hQ⟩
  refine ⟨Nat.le_of_ble_eq_true rfl, mo_go ok_X2_isLive (mo_no_ok g _) [] 17 ?_⟩
  intro K hK
  refine And.intro (show vp_in n 200 by exact hpre) ?_
  refine And.intro (fun (c1 : day < (σ.1 10 0 n.toNatClampNeg)) => ?_) (fun (c1 : ¬ day < (σ.1 10 0 n.toNatClampNeg)) => ?_)
  · refine And.intro (by first | decide | exact mo_bl01 _) ?_
    exact mo_q hQ (mo_r0 (by ((try simp only [mo_bl0, Classical.not_not] at c1); (try simp only [Int32.lt_iff_toInt_lt, Int32.le_iff_toInt_le, mo_ieq, Int32.toInt_zero, mo_n1, Nat.reduceAdd] at c1 ⊢); omega))) rfl
  · refine And.intro (show vp_in n 200 by exact hpre) ?_
    refine And.intro (fun (c2 : (σ.1 11 0 n.toNatClampNeg) ≤ day) => ?_) (fun (c2 : ¬ (σ.1 11 0 n.toNatClampNeg) ≤ day) => ?_)
    · refine And.intro (by first | decide | exact mo_bl01 _) ?_
      exact mo_q hQ (mo_r0 (by ((try simp only [mo_bl0, Classical.not_not] at c1 c2); (try simp only [Int32.lt_iff_toInt_lt, Int32.le_iff_toInt_le, mo_ieq, Int32.toInt_zero, mo_n1, Nat.reduceAdd] at c1 c2 ⊢); omega))) rfl
    · refine And.intro (by first | decide | exact mo_bl01 _) ?_
      exact mo_q hQ (mo_r1 (by ((try simp only [mo_bl0, Classical.not_not] at c1 c2); (try simp only [Int32.lt_iff_toInt_lt, Int32.le_iff_toInt_le, mo_ieq, Int32.toInt_zero, mo_n1, Nat.reduceAdd] at c1 c2 ⊢); omega))) rfl
def S_X12_is : mo_S := fun as σ Q => ∃ n : Int32, ∃ day : Int32, as = [.inr (.inr (50, 0)), .inl n, .inl day] ∧ (vp_in n 200) ∧ Q (some (.inl (mo_bl (σ.1 57 0 n.toNatClampNeg ≤ day ∧ day < σ.1 58 0 n.toNatClampNeg)))) (σ)
theorem m_X12_is : ∀ (as : List mo_V) (σ : mo_M) (P P' : mo_Q), (∀ x τ, P x τ → P' x τ) → S_X12_is as σ P → S_X12_is as σ P' := by
  rintro as σ P P' h ⟨n, day, e, hp, hq⟩
  exact ⟨n, day, e, hp, h _ _ hq⟩
set_option maxRecDepth 20000 in
set_option maxHeartbeats 2000000 in
theorem ct_X12_is : mo_ct yX12_is t_X12_is S_X12_is := by
  refine mo_ct_of (by decide) rfl ?_
  rintro g as σ Q ⟨n, day, rfl, hpre, hQ⟩
  refine ⟨Nat.le_of_ble_eq_true rfl, mo_go ok_X12_is (mo_no_ok g _) [] 17 ?_⟩
  intro K hK
  refine And.intro (show vp_in n 200 by exact hpre) ?_
  refine And.intro (fun (c1 : day < (σ.1 57 0 n.toNatClampNeg)) => ?_) (fun (c1 : ¬ day < (σ.1 57 0 n.toNatClampNeg)) => ?_)
  · refine And.intro (by first | decide | exact mo_bl01 _) ?_
    exact mo_q hQ (mo_r0 (by ((try simp only [mo_bl0, Classical.not_not] at c1); (try simp only [Int32.lt_iff_toInt_lt, Int32.le_iff_toInt_le, mo_ieq, Int32.toInt_zero, mo_n1, Nat.reduceAdd] at c1 ⊢); omega))) rfl
  · refine And.intro (show vp_in n 200 by exact hpre) ?_
    refine And.intro (fun (c2 : (σ.1 58 0 n.toNatClampNeg) ≤ day) => ?_) (fun (c2 : ¬ (σ.1 58 0 n.toNatClampNeg) ≤ day) => ?_)
    · refine And.intro (by first | decide | exact mo_bl01 _) ?_
      exact mo_q hQ (mo_r0 (by ((try simp only [mo_bl0, Classical.not_not] at c1 c2); (try simp only [Int32.lt_iff_toInt_lt, Int32.le_iff_toInt_le, mo_ieq, Int32.toInt_zero, mo_n1, Nat.reduceAdd] at c1 c2 ⊢); omega))) rfl
    · refine And.intro (by first | decide | exact mo_bl01 _) ?_
      exact mo_q hQ (mo_r1 (by ((try simp only [mo_bl0, Classical.not_not] at c1 c2); (try simp only [Int32.lt_iff_toInt_lt, Int32.le_iff_toInt_le, mo_ieq, Int32.toInt_zero, mo_n1, Nat.reduceAdd] at c1 c2 ⊢); omega))) rfl
def S_X5_add : mo_S := fun as σ Q => ∃ v : Int32, as = [.inr (.inr (1, 0)), .inl v] ∧ (vp_in (σ.1 1 0 1) 30) ∧ Q (some (.inl (σ.1 1 0 1 + 1 - 1))) (mo_wI (mo_wI σ 2 0 (σ.1 1 0 1).toNatClampNeg v) 1 0 1 (σ.1 1 0 1 + 1))
theorem m_X5_add : ∀ (as : List mo_V) (σ : mo_M) (P P' : mo_Q), (∀ x τ, P x τ → P' x τ) → S_X5_add as σ P → S_X5_add as σ P' := by
  rintro as σ P P' h ⟨v, e, hp, hq⟩
  exact ⟨v, e, hp, h _ _ hq⟩
set_option maxRecDepth 20000 in
set_option maxHeartbeats 2000000 in
theorem ct_X5_add : mo_ct yX5_add t_X5_add S_X5_add := by
  refine mo_ct_of (by decide) rfl ?_
  rintro g as σ Q ⟨v, rfl, hpre, hQ⟩
  refine ⟨Nat.le_of_ble_eq_true rfl, mo_go ok_X5_add (mo_no_ok g _) [] 18 ?_⟩
  intro K hK
  refine And.intro (show vp_in (σ.1 1 0 1) 30 by exact hpre) ?_
  exact hQ
def S_X3_add : mo_S := fun as σ Q => ∃ v : Int32, ∃ u : Int32, as = [.inr (.inr (3, 0)), .inl v, .inl u] ∧ (vp_in (σ.1 3 0 2) 60) ∧ Q (some (.inl (σ.1 3 0 2 + 1 - 1))) (mo_wI (mo_wI (mo_wI σ 4 0 (σ.1 3 0 2).toNatClampNeg v) 5 0 (σ.1 3 0 2).toNatClampNeg u) 3 0 2 (σ.1 3 0 2 + 1))
theorem m_X3_add : ∀ (as : List mo_V) (σ : mo_M) (P P' : mo_Q), (∀ x τ, P x τ → P' x τ) → S_X3_add as σ P → S_X3_add as σ P' := by
  rintro as σ P P' h ⟨v, u, e, hp, hq⟩
  exact ⟨v, u, e, hp, h _ _ hq⟩
set_option maxRecDepth 20000 in
set_option maxHeartbeats 2000000 in
theorem ct_X3_add : mo_ct yX3_add t_X3_add S_X3_add := by
  refine mo_ct_of (by decide) rfl ?_
  rintro g as σ Q ⟨v, u, rfl, hpre, hQ⟩
  refine ⟨Nat.le_of_ble_eq_true rfl, mo_go ok_X3_add (mo_no_ok g _) [] 24 ?_⟩
  intro K hK
  refine And.intro (show vp_in (σ.1 3 0 2) 60 by exact hpre) ?_
  refine And.intro (show vp_in (σ.1 3 0 2) 60 by exact hpre) ?_
  exact hQ
def S_X2_add : mo_S := fun as σ Q => ∃ a : Int32, ∃ b : Int32, ∃ c : Int32, ∃ d : Int32, as = [.inr (.inr (6, 0)), .inl a, .inl b, .inl c, .inl d] ∧ (vp_in (σ.1 6 0 5) 200) ∧ Q (some (.inl (σ.1 6 0 5 + 1 - 1))) (mo_wI (mo_wI (mo_wI (mo_wI (mo_wI (mo_wI (σ) 7 0 (σ.1 6 0 5).toNatClampNeg a) 8 0 (σ.1 6 0 5).toNatClampNeg b) 9 0 (σ.1 6 0 5).toNatClampNeg c) 10 0 (σ.1 6 0 5).toNatClampNeg d) 11 0 (σ.1 6 0 5).toNatClampNeg 10001) 6 0 5 (σ.1 6 0 5 + 1))
theorem m_X2_add : ∀ (as : List mo_V) (σ : mo_M) (P P' : mo_Q), (∀ x τ, P x τ → P' x τ) → S_X2_add as σ P → S_X2_add as σ P' := by
  rintro as σ P P' h ⟨a, b, c, d, e, hp, hq⟩
  exact ⟨a, b, c, d, e, hp, h _ _ hq⟩
set_option maxRecDepth 20000 in
set_option maxHeartbeats 2000000 in
theorem ct_X2_add : mo_ct yX2_add t_X2_add S_X2_add := by
  refine mo_ct_of (by decide) rfl ?_
  rintro g as σ Q ⟨a, b, c, d, rfl, hpre, hQ⟩
  refine ⟨Nat.le_of_ble_eq_true rfl, mo_go ok_X2_add (mo_no_ok g _) [] 42 ?_⟩
  intro K hK
  refine And.intro (show vp_in (σ.1 6 0 5) 200 by exact hpre) ?_
  refine And.intro (show vp_in (σ.1 6 0 5) 200 by exact hpre) ?_
  refine And.intro (show vp_in (σ.1 6 0 5) 200 by exact hpre) ?_
  refine And.intro (show vp_in (σ.1 6 0 5) 200 by exact hpre) ?_
  refine And.intro (show vp_in (σ.1 6 0 5) 200 by exact hpre) ?_
  exact hQ
def S_X1_add : mo_S := fun as σ Q => ∃ a : Int32, ∃ b : Int32, ∃ c : Int32, ∃ d : Int32, ∃ f : Int32, as = [.inr (.inr (12, 0)), .inl a, .inl b, .inl c, .inl d, .inl f] ∧ (vp_in (σ.1 12 0 5) 100) ∧ Q (some (.inl (σ.1 12 0 5 + 1))) (mo_wI (mo_wI (mo_wI (mo_wI (mo_wI (mo_wI (σ) 13 0 (σ.1 12 0 5).toNatClampNeg a) 14 0 (σ.1 12 0 5).toNatClampNeg b) 15 0 (σ.1 12 0 5).toNatClampNeg c) 16 0 (σ.1 12 0 5).toNatClampNeg d) 17 0 (σ.1 12 0 5).toNatClampNeg f) 12 0 5 (σ.1 12 0 5 + 1))
theorem m_X1_add : ∀ (as : List mo_V) (σ : mo_M) (P P' : mo_Q), (∀ x τ, P x τ → P' x τ) → S_X1_add as σ P → S_X1_add as σ P' := by
  rintro as σ P P' h ⟨a, b, c, d, f, e, hp, hq⟩
  exact ⟨a, b, c, d, f, e, hp, h _ _ hq⟩
set_option maxRecDepth 20000 in
set_option maxHeartbeats 2000000 in
theorem ct_X1_add : mo_ct yX1_add t_X1_add S_X1_add := by
  refine mo_ct_of (by decide) rfl ?_
  rintro g as σ Q ⟨a, b, c, d, f, rfl, hpre, hQ⟩
  refine ⟨Nat.le_of_ble_eq_true rfl, mo_go ok_X1_add (mo_no_ok g _) [] 40 ?_⟩
  intro K hK
  refine And.intro (show vp_in (σ.1 12 0 5) 100 by exact hpre) ?_
  refine And.intro (show vp_in (σ.1 12 0 5) 100 by exact hpre) ?_
  refine And.intro (show vp_in (σ.1 12 0 5) 100 by exact hpre) ?_
  refine And.intro (show vp_in (σ.1 12 0 5) 100 by exact hpre) ?_
  refine And.intro (show vp_in (σ.1 12 0 5) 100 by exact hpre) ?_
  exact hQ
def S_X12_ends : mo_S := fun as σ Q => ∃ v : Int32, as = [.inr (.inr (50, 0)), .inl v] ∧ (True) ∧ Q (some (.inl (v))) (mo_wI σ 50 0 0 (if v < 0 then v else 0))
theorem m_X12_ends : ∀ (as : List mo_V) (σ : mo_M) (P P' : mo_Q), (∀ x τ, P x τ → P' x τ) → S_X12_ends as σ P → S_X12_ends as σ P' := by
  rintro as σ P P' h ⟨v, e, hp, hq⟩
  exact ⟨v, e, hp, h _ _ hq⟩
set_option maxRecDepth 20000 in
set_option maxHeartbeats 2000000 in
theorem ct_X12_ends : mo_ct yX12_ends t_X12_ends S_X12_ends := by
  refine mo_ct_of (by decide) rfl ?_
  rintro g as σ Q ⟨v, rfl, hpre, hQ⟩
  refine ⟨Nat.le_of_ble_eq_true rfl, mo_go ok_X12_ends (mo_no_ok g _) [] 10 ?_⟩
  intro K hK
  refine And.intro (fun (c1 : 0 ≤ v) => ?_) (fun (c1 : ¬ 0 ≤ v) => ?_)
  · exact mo_q hQ (by first | rfl | (rw [if_pos (by ((try simp only [mo_bl0, Classical.not_not] at c1); (try simp only [Int32.lt_iff_toInt_lt, Int32.le_iff_toInt_le, mo_ieq, Int32.toInt_zero, mo_n1, Nat.reduceAdd] at c1 ⊢); omega))]; try rfl) | (rw [if_neg (by ((try simp only [mo_bl0, Classical.not_not] at c1); (try simp only [Int32.lt_iff_toInt_lt, Int32.le_iff_toInt_le, mo_ieq, Int32.toInt_zero, mo_n1, Nat.reduceAdd] at c1 ⊢); omega))]; try rfl)) (by first | rfl | (rw [if_pos (by ((try simp only [mo_bl0, Classical.not_not] at c1); (try simp only [Int32.lt_iff_toInt_lt, Int32.le_iff_toInt_le, mo_ieq, Int32.toInt_zero, mo_n1, Nat.reduceAdd] at c1 ⊢); omega))]; try rfl) | (rw [if_neg (by ((try simp only [mo_bl0, Classical.not_not] at c1); (try simp only [Int32.lt_iff_toInt_lt, Int32.le_iff_toInt_le, mo_ieq, Int32.toInt_zero, mo_n1, Nat.reduceAdd] at c1 ⊢); omega))]; try rfl))
  · exact mo_q hQ (by first | rfl | (rw [if_pos (by ((try simp only [mo_bl0, Classical.not_not] at c1); (try simp only [Int32.lt_iff_toInt_lt, Int32.le_iff_toInt_le, mo_ieq, Int32.toInt_zero, mo_n1, Nat.reduceAdd] at c1 ⊢); omega))]; try rfl) | (rw [if_neg (by ((try simp only [mo_bl0, Classical.not_not] at c1); (try simp only [Int32.lt_iff_toInt_lt, Int32.le_iff_toInt_le, mo_ieq, Int32.toInt_zero, mo_n1, Nat.reduceAdd] at c1 ⊢); omega))]; try rfl)) (by first | rfl | (rw [if_pos (by ((try simp only [mo_bl0, Classical.not_not] at c1); (try simp only [Int32.lt_iff_toInt_lt, Int32.le_iff_toInt_le, mo_ieq, Int32.toInt_zero, mo_n1, Nat.reduceAdd] at c1 ⊢); omega))]; try rfl) | (rw [if_neg (by ((try simp only [mo_bl0, Classical.not_not] at c1); (try simp only [Int32.lt_iff_toInt_lt, Int32.le_iff_toInt_le, mo_ieq, Int32.toInt_zero, mo_n1, Nat.reduceAdd] at c1 ⊢); omega))]; try rfl))
def S_X12_isIn : mo_S := fun as σ Q => ∃ k : Int32, ∃ low : Int32, ∃ high : Int32, as = [.inr (.inr (50, 0)), .inl k, .inl low, .inl high] ∧ (k < σ.1 50 0 31 → vp_in k 200) ∧ Q (some (.inl (mo_bl (k < σ.1 50 0 31 ∧ low ≤ σ.1 72 0 k.toNatClampNeg ∧ σ.1 72 0 k.toNatClampNeg ≤ high)))) (σ)
theorem m_X12_isIn : ∀ (as : List mo_V) (σ : mo_M) (P P' : mo_Q), (∀ x τ, P x τ → P' x τ) → S_X12_isIn as σ P → S_X12_isIn as σ P' := by
  rintro as σ P P' h ⟨k, low, high, e, hp, hq⟩
  exact ⟨k, low, high, e, hp, h _ _ hq⟩
set_option maxRecDepth 20000 in
set_option maxHeartbeats 2000000 in
theorem ct_X12_isIn : mo_ct yX12_isIn t_X12_isIn S_X12_isIn := by
  refine mo_ct_of (by decide) rfl ?_
  rintro g as σ Q ⟨k, low, high, rfl, hpre, hQ⟩
  refine ⟨Nat.le_of_ble_eq_true rfl, mo_go ok_X12_isIn (mo_no_ok g _) [] 21 ?_⟩
  intro K hK
  refine And.intro (fun (c1 : (σ.1 50 0 31) ≤ k) => ?_) (fun (c1 : ¬ (σ.1 50 0 31) ≤ k) => ?_)
  · refine And.intro (by first | decide | exact mo_bl01 _) ?_
    exact mo_q hQ (mo_r0 (by ((try simp only [mo_bl0, Classical.not_not] at c1); (try simp only [Int32.lt_iff_toInt_lt, Int32.le_iff_toInt_le, mo_ieq, Int32.toInt_zero, mo_n1, Nat.reduceAdd] at c1 ⊢); omega))) rfl
  · refine And.intro (show vp_in k 200 by exact hpre (by ((try simp only [mo_bl0, Classical.not_not] at c1); (try simp only [Int32.lt_iff_toInt_lt, Int32.le_iff_toInt_le, mo_ieq, Int32.toInt_zero, mo_n1, Nat.reduceAdd] at c1 ⊢); omega))) ?_
    refine And.intro (fun (c2 : (σ.1 72 0 k.toNatClampNeg) < low) => ?_) (fun (c2 : ¬ (σ.1 72 0 k.toNatClampNeg) < low) => ?_)
    · refine And.intro (by first | decide | exact mo_bl01 _) ?_
      exact mo_q hQ (mo_r0 (by ((try simp only [mo_bl0, Classical.not_not] at c1 c2); (try simp only [Int32.lt_iff_toInt_lt, Int32.le_iff_toInt_le, mo_ieq, Int32.toInt_zero, mo_n1, Nat.reduceAdd] at c1 c2 ⊢); omega))) rfl
    · refine And.intro (show vp_in k 200 by exact hpre (by ((try simp only [mo_bl0, Classical.not_not] at c1); (try simp only [Int32.lt_iff_toInt_lt, Int32.le_iff_toInt_le, mo_ieq, Int32.toInt_zero, mo_n1, Nat.reduceAdd] at c1 ⊢); omega))) ?_
      refine And.intro (fun (c3 : high < (σ.1 72 0 k.toNatClampNeg)) => ?_) (fun (c3 : ¬ high < (σ.1 72 0 k.toNatClampNeg)) => ?_)
      · refine And.intro (by first | decide | exact mo_bl01 _) ?_
        exact mo_q hQ (mo_r0 (by ((try simp only [mo_bl0, Classical.not_not] at c1 c2 c3); (try simp only [Int32.lt_iff_toInt_lt, Int32.le_iff_toInt_le, mo_ieq, Int32.toInt_zero, mo_n1, Nat.reduceAdd] at c1 c2 c3 ⊢); omega))) rfl
      · refine And.intro (by first | decide | exact mo_bl01 _) ?_
        exact mo_q hQ (mo_r1 (by ((try simp only [mo_bl0, Classical.not_not] at c1 c2 c3); (try simp only [Int32.lt_iff_toInt_lt, Int32.le_iff_toInt_le, mo_ieq, Int32.toInt_zero, mo_n1, Nat.reduceAdd] at c1 c2 c3 ⊢); omega))) rfl
def S_X12_isSign : mo_S := fun as σ Q => ∃ c : Int32, as = [.inr (.inr (50, 0)), .inl c] ∧ (σ.1 50 0 32 < σ.1 50 0 31 → vp_in (σ.1 50 0 32) 200) ∧ Q (some (.inl (mo_bl (σ.1 50 0 32 < σ.1 50 0 31 ∧ σ.1 72 0 (σ.1 50 0 32).toNatClampNeg = c)))) (σ)
theorem m_X12_isSign : ∀ (as : List mo_V) (σ : mo_M) (P P' : mo_Q), (∀ x τ, P x τ → P' x τ) → S_X12_isSign as σ P → S_X12_isSign as σ P' := by
  rintro as σ P P' h ⟨c, e, hp, hq⟩
  exact ⟨c, e, hp, h _ _ hq⟩
set_option maxRecDepth 20000 in
set_option maxHeartbeats 2000000 in
theorem ct_X12_isSign : mo_ct yX12_isSign t_X12_isSign S_X12_isSign := by
  refine mo_ct_of (by decide) rfl ?_
  rintro g as σ Q ⟨c, rfl, hpre, hQ⟩
  refine ⟨Nat.le_of_ble_eq_true rfl, mo_go ok_X12_isSign (mo_no_ok g _) [] 17 ?_⟩
  intro K hK
  refine And.intro (fun (c1 : (σ.1 50 0 31) ≤ (σ.1 50 0 32)) => ?_) (fun (c1 : ¬ (σ.1 50 0 31) ≤ (σ.1 50 0 32)) => ?_)
  · refine And.intro (by first | decide | exact mo_bl01 _) ?_
    exact mo_q hQ (mo_r0 (by ((try simp only [mo_bl0, Classical.not_not] at c1); (try simp only [Int32.lt_iff_toInt_lt, Int32.le_iff_toInt_le, mo_ieq, Int32.toInt_zero, mo_n1, Nat.reduceAdd] at c1 ⊢); omega))) rfl
  · refine And.intro (show vp_in (σ.1 50 0 32) 200 by exact hpre (by ((try simp only [mo_bl0, Classical.not_not] at c1); (try simp only [Int32.lt_iff_toInt_lt, Int32.le_iff_toInt_le, mo_ieq, Int32.toInt_zero, mo_n1, Nat.reduceAdd] at c1 ⊢); omega))) ?_
    refine And.intro (fun (c2 : ¬ (σ.1 72 0 ((σ.1 50 0 32).toNatClampNeg)) = c) => ?_) (fun (c2 : (σ.1 72 0 ((σ.1 50 0 32).toNatClampNeg)) = c) => ?_)
    · refine And.intro (by first | decide | exact mo_bl01 _) ?_
      exact mo_q hQ (mo_r0 (by ((try simp only [mo_bl0, Classical.not_not] at c1 c2); (try simp only [Int32.lt_iff_toInt_lt, Int32.le_iff_toInt_le, mo_ieq, Int32.toInt_zero, mo_n1, Nat.reduceAdd] at c1 c2 ⊢); omega))) rfl
    · refine And.intro (by first | decide | exact mo_bl01 _) ?_
      exact mo_q hQ (mo_r1 (by ((try simp only [mo_bl0, Classical.not_not] at c1 c2); (try simp only [Int32.lt_iff_toInt_lt, Int32.le_iff_toInt_le, mo_ieq, Int32.toInt_zero, mo_n1, Nat.reduceAdd] at c1 c2 ⊢); omega))) rfl
def S_X12_hitOf : mo_S := fun as σ Q => ∃ m : Int32, as = [.inr (.inr (50, 0)), .inl m] ∧ (vp_in m 60) ∧ Q (some (.inl (if ¬ σ.1 80 0 m.toNatClampNeg = (-1 : Int32) then 2 else if ¬ σ.1 81 0 m.toNatClampNeg = (-1 : Int32) then 1 else 0))) (σ)
theorem m_X12_hitOf : ∀ (as : List mo_V) (σ : mo_M) (P P' : mo_Q), (∀ x τ, P x τ → P' x τ) → S_X12_hitOf as σ P → S_X12_hitOf as σ P' := by
  rintro as σ P P' h ⟨m, e, hp, hq⟩
  exact ⟨m, e, hp, h _ _ hq⟩
set_option maxRecDepth 20000 in
set_option maxHeartbeats 2000000 in
theorem ct_X12_hitOf : mo_ct yX12_hitOf t_X12_hitOf S_X12_hitOf := by
  refine mo_ct_of (by decide) rfl ?_
  rintro g as σ Q ⟨m, rfl, hpre, hQ⟩
  refine ⟨Nat.le_of_ble_eq_true rfl, mo_go ok_X12_hitOf (mo_no_ok g _) [] 19 ?_⟩
  intro K hK
  refine And.intro (show vp_in m 60 by exact hpre) ?_
  refine And.intro (fun (c1 : (σ.1 80 0 m.toNatClampNeg) = (-1 : Int32)) => ?_) (fun (c1 : ¬ (σ.1 80 0 m.toNatClampNeg) = (-1 : Int32)) => ?_)
  · refine And.intro (show vp_in m 60 by exact hpre) ?_
    refine And.intro (fun (c2 : (σ.1 81 0 m.toNatClampNeg) = (-1 : Int32)) => ?_) (fun (c2 : ¬ (σ.1 81 0 m.toNatClampNeg) = (-1 : Int32)) => ?_)
    · exact mo_q hQ (by simp [c1, c2]; try rfl) rfl
    · exact mo_q hQ (by simp [c1, c2]; try rfl) rfl
  · exact mo_q hQ (by simp [c1]; try rfl) rfl
def S_X11_makerOf : mo_S := fun as σ Q => ∃ m : Int32, as = [.inr (.inr (0, 0)), .inl m] ∧ (vp_in m 60 ∧ vp_in (σ.1 4 0 m.toNatClampNeg) 30) ∧ Q (some (.inl (σ.1 2 0 (σ.1 4 0 m.toNatClampNeg).toNatClampNeg))) (σ)
theorem m_X11_makerOf : ∀ (as : List mo_V) (σ : mo_M) (P P' : mo_Q), (∀ x τ, P x τ → P' x τ) → S_X11_makerOf as σ P → S_X11_makerOf as σ P' := by
  rintro as σ P P' h ⟨m, e, hp, hq⟩
  exact ⟨m, e, hp, h _ _ hq⟩
set_option maxRecDepth 20000 in
set_option maxHeartbeats 2000000 in
theorem ct_X11_makerOf : mo_ct yX11_makerOf t_X11_makerOf S_X11_makerOf := by
  refine mo_ct_of (by decide) rfl ?_
  rintro g as σ Q ⟨m, rfl, hpre, hQ⟩
  refine ⟨Nat.le_of_ble_eq_true rfl, mo_go ok_X11_makerOf (mo_no_ok g _) [] 11 ?_⟩
  intro K hK
  refine And.intro (show vp_in m 60 by exact hpre.1) ?_
  refine And.intro (show vp_in (σ.1 4 0 m.toNatClampNeg) 30 by exact hpre.2) ?_
  exact hQ
def S_X11_contains : mo_S := fun as σ Q => ∃ s : Int64, ∃ n : Int32, as = [.inr (.inl s), .inl n] ∧ (True) ∧ Q (some (.inl (mo_bl (mo_bt s n)))) (σ)
theorem m_X11_contains : ∀ (as : List mo_V) (σ : mo_M) (P P' : mo_Q), (∀ x τ, P x τ → P' x τ) → S_X11_contains as σ P → S_X11_contains as σ P' := by
  rintro as σ P P' h ⟨s, n, e, hp, hq⟩
  exact ⟨s, n, e, hp, h _ _ hq⟩
set_option maxRecDepth 20000 in
set_option maxHeartbeats 2000000 in
theorem ct_X11_contains : mo_ct yX11_contains t_X11_contains S_X11_contains := by
  refine mo_ct_of (by decide) rfl ?_
  rintro g as σ Q ⟨s, n, rfl, hpre, hQ⟩
  refine ⟨Nat.le_of_ble_eq_true rfl, mo_go ok_X11_contains (mo_no_ok g _) [] 13 ?_⟩
  intro K hK
  refine And.intro (fun (c1 : (lg_cmp (((s.toUInt64 >>> (n.toInt64.toUInt64 &&& Int64.toUInt64 63)).toInt64) &&& (1 : Int64)) (0 : Int64)) = 0) => ?_) (fun (c1 : ¬ (lg_cmp (((s.toUInt64 >>> (n.toInt64.toUInt64 &&& Int64.toUInt64 63)).toInt64) &&& (1 : Int64)) (0 : Int64)) = 0) => ?_)
  · refine And.intro (by first | decide | exact mo_bl01 _) ?_
    exact mo_q hQ (mo_r0 (by rw [lg_cmp_eq] at c1; exact fun q => q c1)) rfl
  · refine And.intro (by first | decide | exact mo_bl01 _) ?_
    exact mo_q hQ (mo_r1 (by rw [lg_cmp_eq] at c1; exact c1)) rfl
def S_X11_versionOf : mo_S := fun as σ Q => ∃ a : Int32, ∃ b : Int32, ∃ c : Int32, as = [.inl a, .inl b, .inl c] ∧ (True) ∧ Q (some (.inl (a * (1000000 : Int32) + b * (1000 : Int32) + c * (1 : Int32)))) (σ)
theorem m_X11_versionOf : ∀ (as : List mo_V) (σ : mo_M) (P P' : mo_Q), (∀ x τ, P x τ → P' x τ) → S_X11_versionOf as σ P → S_X11_versionOf as σ P' := by
  rintro as σ P P' h ⟨a, b, c, e, hp, hq⟩
  exact ⟨a, b, c, e, hp, h _ _ hq⟩
set_option maxRecDepth 20000 in
set_option maxHeartbeats 2000000 in
theorem ct_X11_versionOf : mo_ct yX11_versionOf t_X11_versionOf S_X11_versionOf := by
  refine mo_ct_of (by decide) rfl ?_
  rintro g as σ Q ⟨a, b, c, rfl, hpre, hQ⟩
  refine ⟨Nat.le_of_ble_eq_true rfl, mo_go ok_X11_versionOf (mo_no_ok g _) [] 19 ?_⟩
  intro K hK
  refine And.intro (show vp_in (0 : Int32) 3 by exact vp_in_nI (n := 0) (by decide) (by decide)) ?_
  refine And.intro (show vp_in (1 : Int32) 3 by exact vp_in_nI (n := 1) (by decide) (by decide)) ?_
  refine And.intro (show vp_in (2 : Int32) 3 by exact vp_in_nI (n := 2) (by decide) (by decide)) ?_
  exact hQ
def S_X11_end : mo_S := fun as σ Q => ∃ n : Int32, as = [.inr (.inr (0, 0)), .inl n] ∧ (True) ∧ Q (some (.inl (if n < 0 ∨ σ.1 30 0 1 < n then (-1 : Int32) else n))) (if n < 0 ∨ σ.1 30 0 1 < n then σ else mo_wI σ 30 0 1 n)
theorem m_X11_end : ∀ (as : List mo_V) (σ : mo_M) (P P' : mo_Q), (∀ x τ, P x τ → P' x τ) → S_X11_end as σ P → S_X11_end as σ P' := by
  rintro as σ P P' h ⟨n, e, hp, hq⟩
  exact ⟨n, e, hp, h _ _ hq⟩
set_option maxRecDepth 20000 in
set_option maxHeartbeats 2000000 in
theorem ct_X11_end : mo_ct yX11_end t_X11_end S_X11_end := by
  refine mo_ct_of (by decide) rfl ?_
  rintro g as σ Q ⟨n, rfl, hpre, hQ⟩
  refine ⟨Nat.le_of_ble_eq_true rfl, mo_go ok_X11_end (mo_no_ok g _) [] 16 ?_⟩
  intro K hK
  refine And.intro (fun (c1 : n < 0) => ?_) (fun (c1 : ¬ n < 0) => ?_)
  · exact mo_q hQ (by first | rfl | (rw [if_pos (by ((try simp only [mo_bl0, Classical.not_not] at c1); (try simp only [Int32.lt_iff_toInt_lt, Int32.le_iff_toInt_le, mo_ieq, Int32.toInt_zero, mo_n1, Nat.reduceAdd] at c1 ⊢); omega))]; try rfl) | (rw [if_neg (by ((try simp only [mo_bl0, Classical.not_not] at c1); (try simp only [Int32.lt_iff_toInt_lt, Int32.le_iff_toInt_le, mo_ieq, Int32.toInt_zero, mo_n1, Nat.reduceAdd] at c1 ⊢); omega))]; try rfl)) (by first | rfl | (rw [if_pos (by ((try simp only [mo_bl0, Classical.not_not] at c1); (try simp only [Int32.lt_iff_toInt_lt, Int32.le_iff_toInt_le, mo_ieq, Int32.toInt_zero, mo_n1, Nat.reduceAdd] at c1 ⊢); omega))]; try rfl) | (rw [if_neg (by ((try simp only [mo_bl0, Classical.not_not] at c1); (try simp only [Int32.lt_iff_toInt_lt, Int32.le_iff_toInt_le, mo_ieq, Int32.toInt_zero, mo_n1, Nat.reduceAdd] at c1 ⊢); omega))]; try rfl))
  · refine And.intro (fun (c2 : n ≤ (σ.1 30 0 1)) => ?_) (fun (c2 : ¬ n ≤ (σ.1 30 0 1)) => ?_)
    · exact mo_q hQ (by first | rfl | (rw [if_pos (by ((try simp only [mo_bl0, Classical.not_not] at c1 c2); (try simp only [Int32.lt_iff_toInt_lt, Int32.le_iff_toInt_le, mo_ieq, Int32.toInt_zero, mo_n1, Nat.reduceAdd] at c1 c2 ⊢); omega))]; try rfl) | (rw [if_neg (by ((try simp only [mo_bl0, Classical.not_not] at c1 c2); (try simp only [Int32.lt_iff_toInt_lt, Int32.le_iff_toInt_le, mo_ieq, Int32.toInt_zero, mo_n1, Nat.reduceAdd] at c1 c2 ⊢); omega))]; try rfl)) (by first | rfl | (rw [if_pos (by ((try simp only [mo_bl0, Classical.not_not] at c1 c2); (try simp only [Int32.lt_iff_toInt_lt, Int32.le_iff_toInt_le, mo_ieq, Int32.toInt_zero, mo_n1, Nat.reduceAdd] at c1 c2 ⊢); omega))]; try rfl) | (rw [if_neg (by ((try simp only [mo_bl0, Classical.not_not] at c1 c2); (try simp only [Int32.lt_iff_toInt_lt, Int32.le_iff_toInt_le, mo_ieq, Int32.toInt_zero, mo_n1, Nat.reduceAdd] at c1 c2 ⊢); omega))]; try rfl))
    · exact mo_q hQ (by first | rfl | (rw [if_pos (by ((try simp only [mo_bl0, Classical.not_not] at c1 c2); (try simp only [Int32.lt_iff_toInt_lt, Int32.le_iff_toInt_le, mo_ieq, Int32.toInt_zero, mo_n1, Nat.reduceAdd] at c1 c2 ⊢); omega))]; try rfl) | (rw [if_neg (by ((try simp only [mo_bl0, Classical.not_not] at c1 c2); (try simp only [Int32.lt_iff_toInt_lt, Int32.le_iff_toInt_le, mo_ieq, Int32.toInt_zero, mo_n1, Nat.reduceAdd] at c1 c2 ⊢); omega))]; try rfl)) (by first | rfl | (rw [if_pos (by ((try simp only [mo_bl0, Classical.not_not] at c1 c2); (try simp only [Int32.lt_iff_toInt_lt, Int32.le_iff_toInt_le, mo_ieq, Int32.toInt_zero, mo_n1, Nat.reduceAdd] at c1 c2 ⊢); omega))]; try rfl) | (rw [if_neg (by ((try simp only [mo_bl0, Classical.not_not] at c1 c2); (try simp only [Int32.lt_iff_toInt_lt, Int32.le_iff_toInt_le, mo_ieq, Int32.toInt_zero, mo_n1, Nat.reduceAdd] at c1 c2 ⊢); omega))]; try rfl))
def S_X12_end : mo_S := fun as σ Q => ∃ n : Int32, as = [.inr (.inr (50, 0)), .inl n] ∧ (True) ∧ Q (some (.inl (if 0 ≤ n ∧ n ≤ σ.1 50 0 30 then n else (-1 : Int32)))) (if 0 ≤ n ∧ n ≤ σ.1 50 0 30 then mo_wI σ 50 0 30 n else σ)
theorem m_X12_end : ∀ (as : List mo_V) (σ : mo_M) (P P' : mo_Q), (∀ x τ, P x τ → P' x τ) → S_X12_end as σ P → S_X12_end as σ P' := by
  rintro as σ P P' h ⟨n, e, hp, hq⟩
  exact ⟨n, e, hp, h _ _ hq⟩
def cs_X12_end : Nat → mo_C := fun j => match j with
  | 0 => (3, false, 109, 50, S_X12_in)
  | _ => (0, false, 0, 50, fun _ _ _ => False)
theorem cs_X12_end_ok (g : mo_E) : ∀ j, mo_cok g t_X12_end (cs_X12_end j) ∧ mo_mon (cs_X12_end j) := by
  intro j
  unfold cs_X12_end
  split
  · exact ⟨mo_cokS ct_X12_in (by decide +kernel), m_X12_in⟩
  · exact ⟨mo_cok0 g _, mo_mon0⟩
set_option maxRecDepth 20000 in
set_option maxHeartbeats 2000000 in
theorem ct_X12_end : mo_ct yX12_end t_X12_end S_X12_end := by
  refine mo_ct_of (by decide) rfl ?_
  rintro g as σ Q ⟨n, rfl, hpre, hQ⟩
  refine ⟨Nat.le_of_ble_eq_true rfl, mo_go ok_X12_end (cs_X12_end_ok g) [] 14 ?_⟩
  intro K hK
  refine Exists.intro n (Exists.intro (0 : Int32) (Exists.intro (σ.1 50 0 30) (And.intro rfl (And.intro (show True by trivial) ?_))))
  refine And.intro (fun (c1 : ¬ (mo_bl ((0 : Int32) ≤ n ∧ n ≤ (σ.1 50 0 30))) = 0) => ?_) (fun (c1 : (mo_bl ((0 : Int32) ≤ n ∧ n ≤ (σ.1 50 0 30))) = 0) => ?_)
  · exact mo_q hQ (by first | rfl | (rw [if_pos (by ((try simp only [mo_bl0, Classical.not_not] at c1); (try simp only [Int32.lt_iff_toInt_lt, Int32.le_iff_toInt_le, mo_ieq, Int32.toInt_zero, mo_n1, Nat.reduceAdd] at c1 ⊢); omega))]; try rfl) | (rw [if_neg (by ((try simp only [mo_bl0, Classical.not_not] at c1); (try simp only [Int32.lt_iff_toInt_lt, Int32.le_iff_toInt_le, mo_ieq, Int32.toInt_zero, mo_n1, Nat.reduceAdd] at c1 ⊢); omega))]; try rfl)) (by first | rfl | (rw [if_pos (by ((try simp only [mo_bl0, Classical.not_not] at c1); (try simp only [Int32.lt_iff_toInt_lt, Int32.le_iff_toInt_le, mo_ieq, Int32.toInt_zero, mo_n1, Nat.reduceAdd] at c1 ⊢); omega))]; try rfl) | (rw [if_neg (by ((try simp only [mo_bl0, Classical.not_not] at c1); (try simp only [Int32.lt_iff_toInt_lt, Int32.le_iff_toInt_le, mo_ieq, Int32.toInt_zero, mo_n1, Nat.reduceAdd] at c1 ⊢); omega))]; try rfl))
  · exact mo_q hQ (by first | rfl | (rw [if_pos (by ((try simp only [mo_bl0, Classical.not_not] at c1); (try simp only [Int32.lt_iff_toInt_lt, Int32.le_iff_toInt_le, mo_ieq, Int32.toInt_zero, mo_n1, Nat.reduceAdd] at c1 ⊢); omega))]; try rfl) | (rw [if_neg (by ((try simp only [mo_bl0, Classical.not_not] at c1); (try simp only [Int32.lt_iff_toInt_lt, Int32.le_iff_toInt_le, mo_ieq, Int32.toInt_zero, mo_n1, Nat.reduceAdd] at c1 ⊢); omega))]; try rfl)) (by first | rfl | (rw [if_pos (by ((try simp only [mo_bl0, Classical.not_not] at c1); (try simp only [Int32.lt_iff_toInt_lt, Int32.le_iff_toInt_le, mo_ieq, Int32.toInt_zero, mo_n1, Nat.reduceAdd] at c1 ⊢); omega))]; try rfl) | (rw [if_neg (by ((try simp only [mo_bl0, Classical.not_not] at c1); (try simp only [Int32.lt_iff_toInt_lt, Int32.le_iff_toInt_le, mo_ieq, Int32.toInt_zero, mo_n1, Nat.reduceAdd] at c1 ⊢); omega))]; try rfl))
