def S_X4_isLive : mo_S := fun as σ Q => ∃ o : Nat, ∃ n : Int32, ∃ day : Int32, as = [.inr (.inr (o, 0)), .inl n, .inl day] ∧ ((o = 18 ∨ o = 23) ∧ vp_in n 40) ∧ Q (some (.inl (mo_bl (σ.1 (o + 4) 0 n.toNatClampNeg ≤ day ∧ σ.1 (o + 3) 0 n.toNatClampNeg = 0)))) (σ)
theorem m_X4_isLive : ∀ (as : List mo_V) (σ : mo_M) (P P' : mo_Q), (∀ x τ, P x τ → P' x τ) → S_X4_isLive as σ P → S_X4_isLive as σ P' := by
  rintro as σ P P' h ⟨o, n, day, e, hp, hq⟩
  exact ⟨o, n, day, e, hp, h _ _ hq⟩
set_option maxRecDepth 20000 in
set_option maxHeartbeats 2000000 in
theorem ct_X4_isLive : mo_ct yX4_isLive t_X4_isLive S_X4_isLive := by
  refine mo_ct_of (by decide) rfl ?_
  rintro g as σ Q ⟨o, n, day, rfl, ⟨ho, hpre⟩, hQ⟩
  rcases ho with rfl | rfl
  · refine ⟨Nat.le_of_ble_eq_true rfl, mo_go ok_X4_isLive (mo_no_ok g _) [] 16 ?_⟩
    intro K hK
    refine And.intro (show vp_in n 40 by exact hpre) ?_
    refine And.intro (fun (c1 : day < (σ.1 22 0 n.toNatClampNeg)) => ?_) (fun (c1 : ¬ day < (σ.1 22 0 n.toNatClampNeg)) => ?_)
    · refine And.intro (by first | decide | exact mo_bl01 _) ?_
      exact mo_q hQ (mo_r0 (by ((try simp only [mo_bl0, Classical.not_not] at c1); (try simp only [Int32.lt_iff_toInt_lt, Int32.le_iff_toInt_le, mo_ieq, Int32.toInt_zero, mo_n1, Nat.reduceAdd] at c1 ⊢); omega))) rfl
    · refine And.intro (show vp_in n 40 by exact hpre) ?_
      refine And.intro (fun (c2 : ¬ (σ.1 21 0 n.toNatClampNeg) = 0) => ?_) (fun (c2 : (σ.1 21 0 n.toNatClampNeg) = 0) => ?_)
      · refine And.intro (by first | decide | exact mo_bl01 _) ?_
        exact mo_q hQ (mo_r0 (by ((try simp only [mo_bl0, Classical.not_not] at c1 c2); (try simp only [Int32.lt_iff_toInt_lt, Int32.le_iff_toInt_le, mo_ieq, Int32.toInt_zero, mo_n1, Nat.reduceAdd] at c1 c2 ⊢); omega))) rfl
      · refine And.intro (by first | decide | exact mo_bl01 _) ?_
        exact mo_q hQ (mo_r1 (by ((try simp only [mo_bl0, Classical.not_not] at c1 c2); (try simp only [Int32.lt_iff_toInt_lt, Int32.le_iff_toInt_le, mo_ieq, Int32.toInt_zero, mo_n1, Nat.reduceAdd] at c1 c2 ⊢); omega))) rfl
  · refine ⟨Nat.le_of_ble_eq_true rfl, mo_go ok_X4_isLive (mo_no_ok g _) [] 16 ?_⟩
    intro K hK
    refine And.intro (show vp_in n 40 by exact hpre) ?_
    refine And.intro (fun (c1 : day < (σ.1 27 0 n.toNatClampNeg)) => ?_) (fun (c1 : ¬ day < (σ.1 27 0 n.toNatClampNeg)) => ?_)
    · refine And.intro (by first | decide | exact mo_bl01 _) ?_
      exact mo_q hQ (mo_r0 (by ((try simp only [mo_bl0, Classical.not_not] at c1); (try simp only [Int32.lt_iff_toInt_lt, Int32.le_iff_toInt_le, mo_ieq, Int32.toInt_zero, mo_n1, Nat.reduceAdd] at c1 ⊢); omega))) rfl
    · refine And.intro (show vp_in n 40 by exact hpre) ?_
      refine And.intro (fun (c2 : ¬ (σ.1 26 0 n.toNatClampNeg) = 0) => ?_) (fun (c2 : (σ.1 26 0 n.toNatClampNeg) = 0) => ?_)
      · refine And.intro (by first | decide | exact mo_bl01 _) ?_
        exact mo_q hQ (mo_r0 (by ((try simp only [mo_bl0, Classical.not_not] at c1 c2); (try simp only [Int32.lt_iff_toInt_lt, Int32.le_iff_toInt_le, mo_ieq, Int32.toInt_zero, mo_n1, Nat.reduceAdd] at c1 c2 ⊢); omega))) rfl
      · refine And.intro (by first | decide | exact mo_bl01 _) ?_
        exact mo_q hQ (mo_r1 (by ((try simp only [mo_bl0, Classical.not_not] at c1 c2); (try simp only [Int32.lt_iff_toInt_lt, Int32.le_iff_toInt_le, mo_ieq, Int32.toInt_zero, mo_n1, Nat.reduceAdd] at c1 c2 ⊢); omega))) rfl
def S_X4_add : mo_S := fun as σ Q => ∃ o : Nat, ∃ a : Int32, ∃ b : Int32, ∃ c : Int32, as = [.inr (.inr (o, 0)), .inl a, .inl b, .inl c] ∧ ((o = 18 ∨ o = 23) ∧ vp_in (σ.1 o 0 4) 40) ∧ Q (some (.inl (σ.1 o 0 4 + 1 - 1))) (mo_wI (mo_wI (mo_wI (mo_wI σ (o + 1) 0 (σ.1 o 0 4).toNatClampNeg a) (o + 2) 0 (σ.1 o 0 4).toNatClampNeg b) (o + 4) 0 (σ.1 o 0 4).toNatClampNeg c) o 0 4 (σ.1 o 0 4 + 1))
theorem m_X4_add : ∀ (as : List mo_V) (σ : mo_M) (P P' : mo_Q), (∀ x τ, P x τ → P' x τ) → S_X4_add as σ P → S_X4_add as σ P' := by
  rintro as σ P P' h ⟨o, a, b, c, e, hp, hq⟩
  exact ⟨o, a, b, c, e, hp, h _ _ hq⟩
set_option maxRecDepth 20000 in
set_option maxHeartbeats 2000000 in
theorem ct_X4_add : mo_ct yX4_add t_X4_add S_X4_add := by
  refine mo_ct_of (by decide) rfl ?_
  rintro g as σ Q ⟨o, a, b, c, rfl, ⟨ho, hpre⟩, hQ⟩
  rcases ho with rfl | rfl
  · refine ⟨Nat.le_of_ble_eq_true rfl, mo_go ok_X4_add (mo_no_ok g _) [] 30 ?_⟩
    intro K hK
    refine And.intro (show vp_in (σ.1 18 0 4) 40 by exact hpre) ?_
    refine And.intro (show vp_in (σ.1 18 0 4) 40 by exact hpre) ?_
    refine And.intro (show vp_in (σ.1 18 0 4) 40 by exact hpre) ?_
    exact hQ
  · refine ⟨Nat.le_of_ble_eq_true rfl, mo_go ok_X4_add (mo_no_ok g _) [] 30 ?_⟩
    intro K hK
    refine And.intro (show vp_in (σ.1 23 0 4) 40 by exact hpre) ?_
    refine And.intro (show vp_in (σ.1 23 0 4) 40 by exact hpre) ?_
    refine And.intro (show vp_in (σ.1 23 0 4) 40 by exact hpre) ?_
    exact hQ
def S_X4_hasOneWithin : mo_S := fun as σ Q => ∃ m : Int32, ∃ day : Int32, as = [.inr (.inr (23, 0)), .inl m, .inl day] ∧ (mo_le (σ.1 23 0 4) 40) ∧ Q (some (.inl (mo_bl (∃ k, k < (σ.1 23 0 4).toNatClampNeg ∧ (σ.1 27 0 k ≤ day ∧ σ.1 26 0 k = 0) ∧ mo_bt m.toInt64 (σ.1 24 0 k) ∧ mo_bt m.toInt64 (σ.1 25 0 k))))) (σ)
theorem m_X4_hasOneWithin : ∀ (as : List mo_V) (σ : mo_M) (P P' : mo_Q), (∀ x τ, P x τ → P' x τ) → S_X4_hasOneWithin as σ P → S_X4_hasOneWithin as σ P' := by
  rintro as σ P P' h ⟨m, day, e, hp, hq⟩
  exact ⟨m, day, e, hp, h _ _ hq⟩
def cs_X4_hasOneWithin : Nat → mo_C := fun j => match j with
  | 0 => (3, true, 29, 4, S_X4_isLive)
  | 1 => (2, false, 33, 50, S_X11_contains)
  | _ => (0, false, 0, 50, fun _ _ _ => False)
theorem cs_X4_hasOneWithin_ok (g : mo_E) : ∀ j, mo_cok g t_X4_hasOneWithin (cs_X4_hasOneWithin j) ∧ mo_mon (cs_X4_hasOneWithin j) := by
  intro j
  unfold cs_X4_hasOneWithin
  split
  · exact ⟨mo_cokV ct_X4_isLive (by decide) ⟨_, _, rfl⟩ (by decide +kernel), m_X4_isLive⟩
  · exact ⟨mo_cokN ct_X11_contains (by simp [mo_nw, t_X4_hasOneWithin]) (by decide +kernel), m_X11_contains⟩
  · exact ⟨mo_cok0 g _, mo_mon0⟩
set_option maxRecDepth 20000 in
set_option maxHeartbeats 2000000 in
theorem lp_X4_hasOneWithin (g : mo_E) (σ : mo_M) (Q : mo_Q) (m day : Int32) (n : Nat) (hn : σ.1 23 0 4 = nI n) (hle : n ≤ 40) (hQ : Q (some (.inl (mo_bl (∃ k, k < n ∧ (σ.1 27 0 k ≤ day ∧ σ.1 26 0 k = 0) ∧ mo_bt m.toInt64 (σ.1 24 0 k) ∧ mo_bt m.toInt64 (σ.1 25 0 k))))) σ) : ∀ (d k : Nat), n < k + d → k ≤ n → (∀ j, j < k → ¬ (fun k => (σ.1 27 0 k ≤ day ∧ σ.1 26 0 k = 0) ∧ mo_bt m.toInt64 (σ.1 24 0 k) ∧ mo_bt m.toInt64 (σ.1 25 0 k)) j) → mo_X g t_X4_hasOneWithin Q 2 [some (.inr (.inr (23, 0))), some (.inl m), some (.inl day), some (.inl (nI k))] [] (σ) := by
  intro d
  induction d with
  | zero => intro k h1 h2; omega
  | succ d ih =>
    intro k h1 h2 hinv
    have hkc : (nI k).toNatClampNeg = k := mo_cl (by omega)
    refine mo_go ok_X4_hasOneWithin (cs_X4_hasOneWithin_ok g) [2] 34 ?_
    intro K hK
    refine And.intro (fun (c1 : (σ.1 23 0 4) ≤ (nI k)) => ?_) (fun (c1 : ¬ (σ.1 23 0 4) ≤ (nI k)) => ?_)
    · have hk : n ≤ k := mo_cge hn (by omega) (by omega) c1
      refine And.intro (by first | decide | exact mo_bl01 _) ?_
      exact mo_q hQ (mo_r0 (fun q => by obtain ⟨j, hj, q⟩ := q; exact hinv j (by omega) q)) rfl
    · have hk : k < n := mo_clt hn (by omega) (by omega) c1
      refine Exists.intro 23 (Exists.intro (nI k) (Exists.intro day (And.intro rfl (And.intro (show (23 = 18 ∨ 23 = 23) ∧ vp_in (nI k) 40 by exact ⟨Or.inr rfl, mo_inN (by omega) (by decide)⟩) ?_))))
      refine And.intro (fun (c2 : (mo_bl (σ.1 27 0 (nI k).toNatClampNeg ≤ day ∧ σ.1 26 0 (nI k).toNatClampNeg = 0)) = 0) => ?_) (fun (c2 : ¬ (mo_bl (σ.1 27 0 (nI k).toNatClampNeg ≤ day ∧ σ.1 26 0 (nI k).toNatClampNeg = 0)) = 0) => ?_)
      · (have hih := ih (k + 1) (by omega) (by omega) (lt_s hinv (by ((try simp only [hkc, mo_bl0, Classical.not_not, ← Int32.not_lt] at c2 ⊢); (try clear ih); (try clear hih); clear hK hQ; grind))); rw [nI_succ] at hih; exact hK _ _ _ _ hih)
      · refine And.intro (show vp_in (nI k) 40 by exact mo_inN (by omega) (by decide)) ?_
        refine Exists.intro m.toInt64 (Exists.intro (σ.1 24 0 ((nI k).toNatClampNeg)) (And.intro rfl (And.intro (show True by trivial) ?_)))
        refine And.intro (fun (c3 : (mo_bl (mo_bt m.toInt64 (σ.1 24 0 ((nI k).toNatClampNeg)))) = 0) => ?_) (fun (c3 : ¬ (mo_bl (mo_bt m.toInt64 (σ.1 24 0 ((nI k).toNatClampNeg)))) = 0) => ?_)
        · (have hih := ih (k + 1) (by omega) (by omega) (lt_s hinv (by ((try simp only [hkc, mo_bl0, Classical.not_not, ← Int32.not_lt] at c2 c3 ⊢); (try clear ih); (try clear hih); clear hK hQ; grind))); rw [nI_succ] at hih; exact hK _ _ _ _ hih)
        · refine And.intro (show vp_in (nI k) 40 by exact mo_inN (by omega) (by decide)) ?_
          refine Exists.intro m.toInt64 (Exists.intro (σ.1 25 0 ((nI k).toNatClampNeg)) (And.intro rfl (And.intro (show True by trivial) ?_)))
          refine And.intro (fun (c4 : (mo_bl (mo_bt m.toInt64 (σ.1 25 0 ((nI k).toNatClampNeg)))) = 0) => ?_) (fun (c4 : ¬ (mo_bl (mo_bt m.toInt64 (σ.1 25 0 ((nI k).toNatClampNeg)))) = 0) => ?_)
          · (have hih := ih (k + 1) (by omega) (by omega) (lt_s hinv (by ((try simp only [hkc, mo_bl0, Classical.not_not, ← Int32.not_lt] at c2 c3 c4 ⊢); (try clear ih); (try clear hih); clear hK hQ; grind))); rw [nI_succ] at hih; exact hK _ _ _ _ hih)
          · refine And.intro (by first | decide | exact mo_bl01 _) ?_
            exact mo_q hQ (mo_r1 ⟨k, hk, by ((try simp only [hkc, mo_bl0, Classical.not_not, ← Int32.not_lt] at c2 c3 c4 ⊢); (try clear ih); (try clear hih); clear hK hQ; grind)⟩) rfl
set_option maxRecDepth 20000 in
set_option maxHeartbeats 2000000 in
theorem ct_X4_hasOneWithin : mo_ct yX4_hasOneWithin t_X4_hasOneWithin S_X4_hasOneWithin := by
  refine mo_ct_of (by decide) rfl ?_
  rintro g as σ Q ⟨m, day, rfl, hpre, hQ⟩
  refine ⟨Nat.le_of_ble_eq_true rfl, mo_go ok_X4_hasOneWithin (cs_X4_hasOneWithin_ok g) [2] 34 ?_⟩
  intro K hK
  exact hK _ _ _ _ (lp_X4_hasOneWithin g σ Q m day _ hpre.1 hpre.2 hQ ((σ.1 23 0 4).toNatClampNeg + 1) 0 (by omega) (by omega) (fun j hj => by omega))
def S_X6_clear : mo_S := fun as σ Q => as = [.inr (.inr (36, 0))] ∧ (True) ∧ Q (none) (mo_rowI σ 37 0 (mo_fo (fun k r => upd r k 0) (σ.1 37 0) 10))
theorem m_X6_clear : ∀ (as : List mo_V) (σ : mo_M) (P P' : mo_Q), (∀ x τ, P x τ → P' x τ) → S_X6_clear as σ P → S_X6_clear as σ P' := by
  rintro as σ P P' h ⟨e, hp, hq⟩
  exact ⟨e, hp, h _ _ hq⟩
def cs_X6_clear : Nat → mo_C := fun j => match j with
  | 0 => (2, false, 15, 50, S_J7_fill_53178)
  | _ => (0, false, 0, 50, fun _ _ _ => False)
theorem cs_X6_clear_ok (g : mo_E) : ∀ j, mo_cok g t_X6_clear (cs_X6_clear j) ∧ mo_mon (cs_X6_clear j) := by
  intro j
  unfold cs_X6_clear
  split
  · exact ⟨mo_cokS ct_J7_fill_53178 (by decide +kernel), m_J7_fill_53178⟩
  · exact ⟨mo_cok0 g _, mo_mon0⟩
set_option maxRecDepth 20000 in
set_option maxHeartbeats 2000000 in
theorem ct_X6_clear : mo_ct yX6_clear t_X6_clear S_X6_clear := by
  refine mo_ct_of (by decide) rfl ?_
  rintro g as σ Q ⟨rfl, hpre, hQ⟩
  refine ⟨Nat.le_of_ble_eq_true rfl, mo_go ok_X6_clear (cs_X6_clear_ok g) [] 6 ?_⟩
  intro K hK
  refine Exists.intro (0 : Int32) (And.intro rfl (And.intro (show True by trivial) ?_))
  exact hQ
def S_X6_add : mo_S := fun as σ Q => ∃ a : Int32, ∃ b : Int32, as = [.inr (.inr (36, 0)), .inl a, .inl b] ∧ (vp_in a 10) ∧ Q (none) (mo_wI σ 37 0 a.toNatClampNeg (σ.1 37 0 a.toNatClampNeg ||| (1 : Int32) <<< (b &&& 31)))
theorem m_X6_add : ∀ (as : List mo_V) (σ : mo_M) (P P' : mo_Q), (∀ x τ, P x τ → P' x τ) → S_X6_add as σ P → S_X6_add as σ P' := by
  rintro as σ P P' h ⟨a, b, e, hp, hq⟩
  exact ⟨a, b, e, hp, h _ _ hq⟩
set_option maxRecDepth 20000 in
set_option maxHeartbeats 2000000 in
theorem ct_X6_add : mo_ct yX6_add t_X6_add S_X6_add := by
  refine mo_ct_of (by decide) rfl ?_
  rintro g as σ Q ⟨a, b, rfl, hpre, hQ⟩
  refine ⟨Nat.le_of_ble_eq_true rfl, mo_go ok_X6_add (mo_no_ok g _) [] 12 ?_⟩
  intro K hK
  refine And.intro (show vp_in a 10 by exact hpre) ?_
  refine And.intro (show vp_in a 10 by exact hpre) ?_
  exact hQ
def S_X6_areSettledBy : mo_S := fun as σ Q => ∃ a : Int32, as = [.inr (.inr (36, 0)), .inl a] ∧ (True) ∧ Q (some (.inl (mo_bl (∀ k, k < 10 → ¬ (¬ mo_bt a.toInt64 (nI k) ∧ ¬ (σ.1 37 0 k &&& (a ^^^ (-1 : Int32))) = 0))))) (σ)
theorem m_X6_areSettledBy : ∀ (as : List mo_V) (σ : mo_M) (P P' : mo_Q), (∀ x τ, P x τ → P' x τ) → S_X6_areSettledBy as σ P → S_X6_areSettledBy as σ P' := by
  rintro as σ P P' h ⟨a, e, hp, hq⟩
  exact ⟨a, e, hp, h _ _ hq⟩
def cs_X6_areSettledBy : Nat → mo_C := fun j => match j with
  | 0 => (2, false, 21, 50, S_X11_contains)
  | _ => (0, false, 0, 50, fun _ _ _ => False)
theorem cs_X6_areSettledBy_ok (g : mo_E) : ∀ j, mo_cok g t_X6_areSettledBy (cs_X6_areSettledBy j) ∧ mo_mon (cs_X6_areSettledBy j) := by
  intro j
  unfold cs_X6_areSettledBy
  split
  · exact ⟨mo_cokN ct_X11_contains (by simp [mo_nw, t_X6_areSettledBy]) (by decide +kernel), m_X11_contains⟩
  · exact ⟨mo_cok0 g _, mo_mon0⟩
set_option maxRecDepth 20000 in
set_option maxHeartbeats 2000000 in
theorem lp_X6_areSettledBy (g : mo_E) (σ : mo_M) (Q : mo_Q) (a : Int32) (n : Nat) (hn : (10 : Int32) = nI n) (hle : n ≤ 10) (hQ : Q (some (.inl (mo_bl (∀ k, k < n → ¬ (¬ mo_bt a.toInt64 (nI k) ∧ ¬ (σ.1 37 0 k &&& (a ^^^ (-1 : Int32))) = 0))))) σ) : ∀ (d k : Nat), n < k + d → k ≤ n → (∀ j, j < k → ¬ (fun k => ¬ mo_bt a.toInt64 (nI k) ∧ ¬ (σ.1 37 0 k &&& (a ^^^ (-1 : Int32))) = 0) j) → mo_X g t_X6_areSettledBy Q 2 [some (.inr (.inr (36, 0))), some (.inl a), some (.inl (nI k))] [] (σ) := by
  intro d
  induction d with
  | zero => intro k h1 h2; omega
  | succ d ih =>
    intro k h1 h2 hinv
    have hkc : (nI k).toNatClampNeg = k := mo_cl (by omega)
    refine mo_go ok_X6_areSettledBy (cs_X6_areSettledBy_ok g) [2] 26 ?_
    intro K hK
    refine And.intro (fun (c1 : (10 : Int32) ≤ (nI k)) => ?_) (fun (c1 : ¬ (10 : Int32) ≤ (nI k)) => ?_)
    · have hk : n ≤ k := mo_cge hn (by omega) (by omega) c1
      refine And.intro (by first | decide | exact mo_bl01 _) ?_
      exact mo_q hQ (mo_r1 (fun j hj => hinv j (by omega))) rfl
    · have hk : k < n := mo_clt hn (by omega) (by omega) c1
      refine Exists.intro a.toInt64 (Exists.intro (nI k) (And.intro rfl (And.intro (show True by trivial) ?_)))
      refine And.intro (fun (c2 : ¬ (mo_bl (mo_bt a.toInt64 (nI k))) = 0) => ?_) (fun (c2 : (mo_bl (mo_bt a.toInt64 (nI k))) = 0) => ?_)
      · (have hih := ih (k + 1) (by omega) (by omega) (lt_s hinv (by ((try simp only [hkc, mo_bl0, Classical.not_not, ← Int32.not_lt] at c2 ⊢); (try clear ih); (try clear hih); clear hK hQ; grind))); rw [nI_succ] at hih; exact hK _ _ _ _ hih)
      · refine And.intro (show vp_in (nI k) 10 by exact mo_inN (by omega) (by decide)) ?_
        refine And.intro (fun (c3 : ((σ.1 37 0 ((nI k).toNatClampNeg)) &&& (a ^^^ (-1 : Int32))) = 0) => ?_) (fun (c3 : ¬ ((σ.1 37 0 ((nI k).toNatClampNeg)) &&& (a ^^^ (-1 : Int32))) = 0) => ?_)
        · (have hih := ih (k + 1) (by omega) (by omega) (lt_s hinv (by ((try simp only [hkc, mo_bl0, Classical.not_not, ← Int32.not_lt] at c2 c3 ⊢); (try clear ih); (try clear hih); clear hK hQ; grind))); rw [nI_succ] at hih; exact hK _ _ _ _ hih)
        · refine And.intro (by first | decide | exact mo_bl01 _) ?_
          exact mo_q hQ (mo_r0 (fun q => q k hk (by ((try simp only [hkc, mo_bl0, Classical.not_not, ← Int32.not_lt] at c2 c3 ⊢); (try clear ih); (try clear hih); clear hK hQ; grind)))) rfl
set_option maxRecDepth 20000 in
set_option maxHeartbeats 2000000 in
theorem ct_X6_areSettledBy : mo_ct yX6_areSettledBy t_X6_areSettledBy S_X6_areSettledBy := by
  refine mo_ct_of (by decide) rfl ?_
  rintro g as σ Q ⟨a, rfl, hpre, hQ⟩
  refine ⟨Nat.le_of_ble_eq_true rfl, mo_go ok_X6_areSettledBy (cs_X6_areSettledBy_ok g) [2] 26 ?_⟩
  intro K hK
  exact hK _ _ _ _ (lp_X6_areSettledBy g σ Q a 10 rfl (by omega) hQ 11 0 (by omega) (by omega) (fun j hj => by omega))
def S_X1_isOf : mo_S := fun as σ Q => ∃ j : Int32, ∃ s : Int64, ∃ c : Int32, as = [.inr (.inr (12, 0)), .inl j, .inr (.inl s), .inl c] ∧ (vp_in j 100) ∧ Q (some (.inl (mo_bl (σ.1 17 0 j.toNatClampNeg ≤ c ∧ mo_bt s (σ.1 14 0 j.toNatClampNeg))))) (σ)
theorem m_X1_isOf : ∀ (as : List mo_V) (σ : mo_M) (P P' : mo_Q), (∀ x τ, P x τ → P' x τ) → S_X1_isOf as σ P → S_X1_isOf as σ P' := by
  rintro as σ P P' h ⟨j, s, c, e, hp, hq⟩
  exact ⟨j, s, c, e, hp, h _ _ hq⟩
def cs_X1_isOf : Nat → mo_C := fun j => match j with
  | 0 => (2, false, 35, 50, S_X11_contains)
  | _ => (0, false, 0, 50, fun _ _ _ => False)
theorem cs_X1_isOf_ok (g : mo_E) : ∀ j, mo_cok g t_X1_isOf (cs_X1_isOf j) ∧ mo_mon (cs_X1_isOf j) := by
  intro j
  unfold cs_X1_isOf
  split
  · exact ⟨mo_cokN ct_X11_contains (by simp [mo_nw, t_X1_isOf]) (by decide +kernel), m_X11_contains⟩
  · exact ⟨mo_cok0 g _, mo_mon0⟩
set_option maxRecDepth 20000 in
set_option maxHeartbeats 2000000 in
theorem ct_X1_isOf : mo_ct yX1_isOf t_X1_isOf S_X1_isOf := by
  refine mo_ct_of (by decide) rfl ?_
  rintro g as σ Q ⟨j, s, c, rfl, hpre, hQ⟩
  refine ⟨Nat.le_of_ble_eq_true rfl, mo_go ok_X1_isOf (cs_X1_isOf_ok g) [] 18 ?_⟩
  intro K hK
  refine And.intro (show vp_in j 100 by exact hpre) ?_
  refine And.intro (fun (c1 : c < (σ.1 17 0 j.toNatClampNeg)) => ?_) (fun (c1 : ¬ c < (σ.1 17 0 j.toNatClampNeg)) => ?_)
  · refine And.intro (by first | decide | exact mo_bl01 _) ?_
    exact mo_q hQ (mo_r0 (by ((try simp only [mo_bl0, Classical.not_not, ← Int32.not_lt] at c1 ⊢); clear hK hQ; grind))) rfl
  · refine And.intro (show vp_in j 100 by exact hpre) ?_
    refine Exists.intro s (Exists.intro (σ.1 14 0 j.toNatClampNeg) (And.intro rfl (And.intro (show True by trivial) ?_)))
    refine And.intro (fun (c2 : (mo_bl (mo_bt s (σ.1 14 0 j.toNatClampNeg))) = 0) => ?_) (fun (c2 : ¬ (mo_bl (mo_bt s (σ.1 14 0 j.toNatClampNeg))) = 0) => ?_)
    · refine And.intro (by first | decide | exact mo_bl01 _) ?_
      exact mo_q hQ (mo_r0 (by ((try simp only [mo_bl0, Classical.not_not, ← Int32.not_lt] at c1 c2 ⊢); clear hK hQ; grind))) rfl
    · refine And.intro (by first | decide | exact mo_bl01 _) ?_
      exact mo_q hQ (mo_r1 (by ((try simp only [mo_bl0, Classical.not_not, ← Int32.not_lt] at c1 c2 ⊢); clear hK hQ; grind))) rfl
def S_X1_sitesWith : mo_S := fun as σ Q => ∃ s : Int64, ∃ day : Int32, ∃ c : Int32, as = [.inr (.inr (12, 0)), .inr (.inl s), .inl day, .inl c] ∧ (mo_le (σ.1 12 0 5) 100) ∧ Q (some (.inl (mo_fo (fun k a => mo_ite ((σ.1 17 0 k ≤ c ∧ mo_bt s (σ.1 14 0 k)) ∧ σ.1 15 0 k ≤ day ∧ day ≤ σ.1 16 0 k) (a ||| (1 : Int32) <<< (σ.1 13 0 k &&& 31)) a) 0 (σ.1 12 0 5).toNatClampNeg))) (σ)
theorem m_X1_sitesWith : ∀ (as : List mo_V) (σ : mo_M) (P P' : mo_Q), (∀ x τ, P x τ → P' x τ) → S_X1_sitesWith as σ P → S_X1_sitesWith as σ P' := by
  rintro as σ P P' h ⟨s, day, c, e, hp, hq⟩
  exact ⟨s, day, c, e, hp, h _ _ hq⟩
def cs_X1_sitesWith : Nat → mo_C := fun j => match j with
  | 0 => (4, true, 31, 1, S_X1_isOf)
  | _ => (0, false, 0, 50, fun _ _ _ => False)
theorem cs_X1_sitesWith_ok (g : mo_E) : ∀ j, mo_cok g t_X1_sitesWith (cs_X1_sitesWith j) ∧ mo_mon (cs_X1_sitesWith j) := by
  intro j
  unfold cs_X1_sitesWith
  split
  · exact ⟨mo_cokV ct_X1_isOf (by decide) ⟨_, _, rfl⟩ (by decide +kernel), m_X1_isOf⟩
  · exact ⟨mo_cok0 g _, mo_mon0⟩
set_option maxRecDepth 20000 in
set_option maxHeartbeats 2000000 in
theorem lp_X1_sitesWith (g : mo_E) (σ : mo_M) (Q : mo_Q) (s : Int64) (day c : Int32) (n : Nat) (hn : σ.1 12 0 5 = nI n) (hle : n ≤ 100) (hQ : Q (some (.inl (mo_fo (fun k a => mo_ite ((σ.1 17 0 k ≤ c ∧ mo_bt s (σ.1 14 0 k)) ∧ σ.1 15 0 k ≤ day ∧ day ≤ σ.1 16 0 k) (a ||| (1 : Int32) <<< (σ.1 13 0 k &&& 31)) a) 0 n))) σ) : ∀ (d k : Nat), n < k + d → k ≤ n → (True) → mo_X g t_X1_sitesWith Q 6 [some (.inr (.inr (12, 0))), some (.inr (.inl s)), none, some (.inl day), some (.inl c), some (.inl (mo_fo (fun k a => mo_ite ((σ.1 17 0 k ≤ c ∧ mo_bt s (σ.1 14 0 k)) ∧ σ.1 15 0 k ≤ day ∧ day ≤ σ.1 16 0 k) (a ||| (1 : Int32) <<< (σ.1 13 0 k &&& 31)) a) 0 k)), some (.inl (nI k))] [] (σ) := by
  intro d
  induction d with
  | zero => intro k h1 h2; omega
  | succ d ih =>
    intro k h1 h2 hinv
    have hkc : (nI k).toNatClampNeg = k := mo_cl (by omega)
    refine mo_go ok_X1_sitesWith (cs_X1_sitesWith_ok g) [6] 40 ?_
    intro K hK
    refine And.intro (fun (c1 : (σ.1 12 0 5) ≤ (nI k)) => ?_) (fun (c1 : ¬ (σ.1 12 0 5) ≤ (nI k)) => ?_)
    · have hk : n ≤ k := mo_cge hn (by omega) (by omega) c1
      (have e : k = n := (by omega); subst e; exact hQ)
    · have hk : k < n := mo_clt hn (by omega) (by omega) c1
      refine Exists.intro (nI k) (Exists.intro s (Exists.intro c (And.intro rfl (And.intro (show vp_in (nI k) 100 by exact mo_inN (by omega) (by decide)) ?_))))
      refine And.intro (fun (c2 : (mo_bl (σ.1 17 0 (nI k).toNatClampNeg ≤ c ∧ mo_bt s (σ.1 14 0 (nI k).toNatClampNeg))) = 0) => ?_) (fun (c2 : ¬ (mo_bl (σ.1 17 0 (nI k).toNatClampNeg ≤ c ∧ mo_bt s (σ.1 14 0 (nI k).toNatClampNeg))) = 0) => ?_)
      · (have hih := ih (k + 1) (by omega) (by omega) trivial; have e : mo_fo (fun k a => mo_ite ((σ.1 17 0 k ≤ c ∧ mo_bt s (σ.1 14 0 k)) ∧ σ.1 15 0 k ≤ day ∧ day ≤ σ.1 16 0 k) (a ||| (1 : Int32) <<< (σ.1 13 0 k &&& 31)) a) 0 (k + 1) = mo_fo (fun k a => mo_ite ((σ.1 17 0 k ≤ c ∧ mo_bt s (σ.1 14 0 k)) ∧ σ.1 15 0 k ≤ day ∧ day ≤ σ.1 16 0 k) (a ||| (1 : Int32) <<< (σ.1 13 0 k &&& 31)) a) 0 k := mo_ite_f (by ((try simp only [hkc, mo_bl0, Classical.not_not, ← Int32.not_lt] at c2 ⊢); (try clear ih); (try clear hih); clear hK hQ; grind)); rw [nI_succ, e] at hih; refine hK _ _ _ _ (show mo_X g t_X1_sitesWith Q 6 [some (.inr (.inr (12, 0))), some (.inr (.inl s)), none, some (.inl day), some (.inl c), some (.inl (mo_fo (fun k a => mo_ite ((σ.1 17 0 k ≤ c ∧ mo_bt s (σ.1 14 0 k)) ∧ σ.1 15 0 k ≤ day ∧ day ≤ σ.1 16 0 k) (a ||| (1 : Int32) <<< (σ.1 13 0 k &&& 31)) a) 0 k)), some (.inl ((nI k) + (1 : Int32)))] [] (σ) from ?_); (try simp only [hkc]); exact hih)
      · refine And.intro (show vp_in (nI k) 100 by exact mo_inN (by omega) (by decide)) ?_
        refine And.intro (fun (c3 : day < (σ.1 15 0 ((nI k).toNatClampNeg))) => ?_) (fun (c3 : ¬ day < (σ.1 15 0 ((nI k).toNatClampNeg))) => ?_)
        · (have hih := ih (k + 1) (by omega) (by omega) trivial; have e : mo_fo (fun k a => mo_ite ((σ.1 17 0 k ≤ c ∧ mo_bt s (σ.1 14 0 k)) ∧ σ.1 15 0 k ≤ day ∧ day ≤ σ.1 16 0 k) (a ||| (1 : Int32) <<< (σ.1 13 0 k &&& 31)) a) 0 (k + 1) = mo_fo (fun k a => mo_ite ((σ.1 17 0 k ≤ c ∧ mo_bt s (σ.1 14 0 k)) ∧ σ.1 15 0 k ≤ day ∧ day ≤ σ.1 16 0 k) (a ||| (1 : Int32) <<< (σ.1 13 0 k &&& 31)) a) 0 k := mo_ite_f (by ((try simp only [hkc, mo_bl0, Classical.not_not, ← Int32.not_lt] at c2 c3 ⊢); (try clear ih); (try clear hih); clear hK hQ; grind)); rw [nI_succ, e] at hih; refine hK _ _ _ _ (show mo_X g t_X1_sitesWith Q 6 [some (.inr (.inr (12, 0))), some (.inr (.inl s)), none, some (.inl day), some (.inl c), some (.inl (mo_fo (fun k a => mo_ite ((σ.1 17 0 k ≤ c ∧ mo_bt s (σ.1 14 0 k)) ∧ σ.1 15 0 k ≤ day ∧ day ≤ σ.1 16 0 k) (a ||| (1 : Int32) <<< (σ.1 13 0 k &&& 31)) a) 0 k)), some (.inl ((nI k) + (1 : Int32)))] [] (σ) from ?_); (try simp only [hkc]); exact hih)
        · refine And.intro (show vp_in (nI k) 100 by exact mo_inN (by omega) (by decide)) ?_
          refine And.intro (fun (c4 : (σ.1 16 0 ((nI k).toNatClampNeg)) < day) => ?_) (fun (c4 : ¬ (σ.1 16 0 ((nI k).toNatClampNeg)) < day) => ?_)
          · (have hih := ih (k + 1) (by omega) (by omega) trivial; have e : mo_fo (fun k a => mo_ite ((σ.1 17 0 k ≤ c ∧ mo_bt s (σ.1 14 0 k)) ∧ σ.1 15 0 k ≤ day ∧ day ≤ σ.1 16 0 k) (a ||| (1 : Int32) <<< (σ.1 13 0 k &&& 31)) a) 0 (k + 1) = mo_fo (fun k a => mo_ite ((σ.1 17 0 k ≤ c ∧ mo_bt s (σ.1 14 0 k)) ∧ σ.1 15 0 k ≤ day ∧ day ≤ σ.1 16 0 k) (a ||| (1 : Int32) <<< (σ.1 13 0 k &&& 31)) a) 0 k := mo_ite_f (by ((try simp only [hkc, mo_bl0, Classical.not_not, ← Int32.not_lt] at c2 c3 c4 ⊢); (try clear ih); (try clear hih); clear hK hQ; grind)); rw [nI_succ, e] at hih; refine hK _ _ _ _ (show mo_X g t_X1_sitesWith Q 6 [some (.inr (.inr (12, 0))), some (.inr (.inl s)), none, some (.inl day), some (.inl c), some (.inl (mo_fo (fun k a => mo_ite ((σ.1 17 0 k ≤ c ∧ mo_bt s (σ.1 14 0 k)) ∧ σ.1 15 0 k ≤ day ∧ day ≤ σ.1 16 0 k) (a ||| (1 : Int32) <<< (σ.1 13 0 k &&& 31)) a) 0 k)), some (.inl ((nI k) + (1 : Int32)))] [] (σ) from ?_); (try simp only [hkc]); exact hih)
          · refine And.intro (show vp_in (nI k) 100 by exact mo_inN (by omega) (by decide)) ?_
            (have hih := ih (k + 1) (by omega) (by omega) trivial; have e : mo_fo (fun k a => mo_ite ((σ.1 17 0 k ≤ c ∧ mo_bt s (σ.1 14 0 k)) ∧ σ.1 15 0 k ≤ day ∧ day ≤ σ.1 16 0 k) (a ||| (1 : Int32) <<< (σ.1 13 0 k &&& 31)) a) 0 (k + 1) = (mo_fo (fun k a => mo_ite ((σ.1 17 0 k ≤ c ∧ mo_bt s (σ.1 14 0 k)) ∧ σ.1 15 0 k ≤ day ∧ day ≤ σ.1 16 0 k) (a ||| (1 : Int32) <<< (σ.1 13 0 k &&& 31)) a) 0 k) ||| ((1 : Int32) <<< ((σ.1 13 0 (k)) &&& 31)) := mo_ite_t (by ((try simp only [hkc, mo_bl0, Classical.not_not, ← Int32.not_lt] at c2 c3 c4 ⊢); (try clear ih); (try clear hih); clear hK hQ; grind)); rw [nI_succ, e] at hih; refine hK _ _ _ _ (show mo_X g t_X1_sitesWith Q 6 [some (.inr (.inr (12, 0))), some (.inr (.inl s)), none, some (.inl day), some (.inl c), some (.inl ((mo_fo (fun k a => mo_ite ((σ.1 17 0 k ≤ c ∧ mo_bt s (σ.1 14 0 k)) ∧ σ.1 15 0 k ≤ day ∧ day ≤ σ.1 16 0 k) (a ||| (1 : Int32) <<< (σ.1 13 0 k &&& 31)) a) 0 k) ||| ((1 : Int32) <<< ((σ.1 13 0 ((nI k).toNatClampNeg)) &&& 31)))), some (.inl ((nI k) + (1 : Int32)))] [] (σ) from ?_); (try simp only [hkc]); exact hih)
set_option maxRecDepth 20000 in
set_option maxHeartbeats 2000000 in
theorem ct_X1_sitesWith : mo_ct yX1_sitesWith t_X1_sitesWith S_X1_sitesWith := by
  refine mo_ct_of (by decide) rfl ?_
  rintro g as σ Q ⟨s, day, c, rfl, hpre, hQ⟩
  refine ⟨Nat.le_of_ble_eq_true rfl, mo_go ok_X1_sitesWith (cs_X1_sitesWith_ok g) [6] 40 ?_⟩
  intro K hK
  exact hK _ _ _ _ (lp_X1_sitesWith g σ Q s day c _ hpre.1 hpre.2 hQ ((σ.1 12 0 5).toNatClampNeg + 1) 0 (by omega) (by omega) trivial)
def S_X1_firstDay : mo_S := fun as σ Q => ∃ site : Int32, ∃ s : Int64, ∃ c : Int32, as = [.inr (.inr (12, 0)), .inl site, .inr (.inl s), .inl c] ∧ (mo_le (σ.1 12 0 5) 100) ∧ Q (some (.inl (mo_fo (fun k a => mo_ite (σ.1 13 0 k = site ∧ (σ.1 17 0 k ≤ c ∧ mo_bt s (σ.1 14 0 k)) ∧ (a = (-1 : Int32) ∨ σ.1 15 0 k < a)) (σ.1 15 0 k) a) (-1 : Int32) (σ.1 12 0 5).toNatClampNeg))) (σ)
theorem m_X1_firstDay : ∀ (as : List mo_V) (σ : mo_M) (P P' : mo_Q), (∀ x τ, P x τ → P' x τ) → S_X1_firstDay as σ P → S_X1_firstDay as σ P' := by
  rintro as σ P P' h ⟨site, s, c, e, hp, hq⟩
  exact ⟨site, s, c, e, hp, h _ _ hq⟩
def cs_X1_firstDay : Nat → mo_C := fun j => match j with
  | 0 => (4, true, 31, 1, S_X1_isOf)
  | _ => (0, false, 0, 50, fun _ _ _ => False)
theorem cs_X1_firstDay_ok (g : mo_E) : ∀ j, mo_cok g t_X1_firstDay (cs_X1_firstDay j) ∧ mo_mon (cs_X1_firstDay j) := by
  intro j
  unfold cs_X1_firstDay
  split
  · exact ⟨mo_cokV ct_X1_isOf (by decide) ⟨_, _, rfl⟩ (by decide +kernel), m_X1_isOf⟩
  · exact ⟨mo_cok0 g _, mo_mon0⟩
set_option maxRecDepth 20000 in
set_option maxHeartbeats 2000000 in
theorem lp_X1_firstDay (g : mo_E) (σ : mo_M) (Q : mo_Q) (site : Int32) (s : Int64) (c : Int32) (n : Nat) (hn : σ.1 12 0 5 = nI n) (hle : n ≤ 100) (hQ : Q (some (.inl (mo_fo (fun k a => mo_ite (σ.1 13 0 k = site ∧ (σ.1 17 0 k ≤ c ∧ mo_bt s (σ.1 14 0 k)) ∧ (a = (-1 : Int32) ∨ σ.1 15 0 k < a)) (σ.1 15 0 k) a) (-1 : Int32) n))) σ) : ∀ (d k : Nat), n < k + d → k ≤ n → (True) → mo_X g t_X1_firstDay Q 6 [some (.inr (.inr (12, 0))), some (.inl site), some (.inr (.inl s)), none, some (.inl c), some (.inl (mo_fo (fun k a => mo_ite (σ.1 13 0 k = site ∧ (σ.1 17 0 k ≤ c ∧ mo_bt s (σ.1 14 0 k)) ∧ (a = (-1 : Int32) ∨ σ.1 15 0 k < a)) (σ.1 15 0 k) a) (-1 : Int32) k)), some (.inl (nI k))] [] (σ) := by
  intro d
  induction d with
  | zero => intro k h1 h2; omega
  | succ d ih =>
    intro k h1 h2 hinv
    have hkc : (nI k).toNatClampNeg = k := mo_cl (by omega)
    refine mo_go ok_X1_firstDay (cs_X1_firstDay_ok g) [6] 39 ?_
    intro K hK
    refine And.intro (fun (c1 : (σ.1 12 0 5) ≤ (nI k)) => ?_) (fun (c1 : ¬ (σ.1 12 0 5) ≤ (nI k)) => ?_)
    · have hk : n ≤ k := mo_cge hn (by omega) (by omega) c1
      (have e : k = n := (by omega); subst e; exact hQ)
    · have hk : k < n := mo_clt hn (by omega) (by omega) c1
      refine And.intro (show vp_in (nI k) 100 by exact mo_inN (by omega) (by decide)) ?_
      refine And.intro (fun (c2 : ¬ (σ.1 13 0 ((nI k).toNatClampNeg)) = site) => ?_) (fun (c2 : (σ.1 13 0 ((nI k).toNatClampNeg)) = site) => ?_)
      · (have hih := ih (k + 1) (by omega) (by omega) trivial; have e : mo_fo (fun k a => mo_ite (σ.1 13 0 k = site ∧ (σ.1 17 0 k ≤ c ∧ mo_bt s (σ.1 14 0 k)) ∧ (a = (-1 : Int32) ∨ σ.1 15 0 k < a)) (σ.1 15 0 k) a) (-1 : Int32) (k + 1) = mo_fo (fun k a => mo_ite (σ.1 13 0 k = site ∧ (σ.1 17 0 k ≤ c ∧ mo_bt s (σ.1 14 0 k)) ∧ (a = (-1 : Int32) ∨ σ.1 15 0 k < a)) (σ.1 15 0 k) a) (-1 : Int32) k := mo_ite_f (by ((try simp only [hkc, mo_bl0, Classical.not_not, ← Int32.not_lt] at c2 ⊢); (try clear ih); (try clear hih); clear hK hQ; grind)); rw [nI_succ, e] at hih; refine hK _ _ _ _ (show mo_X g t_X1_firstDay Q 6 [some (.inr (.inr (12, 0))), some (.inl site), some (.inr (.inl s)), none, some (.inl c), some (.inl (mo_fo (fun k a => mo_ite (σ.1 13 0 k = site ∧ (σ.1 17 0 k ≤ c ∧ mo_bt s (σ.1 14 0 k)) ∧ (a = (-1 : Int32) ∨ σ.1 15 0 k < a)) (σ.1 15 0 k) a) (-1 : Int32) k)), some (.inl ((nI k) + (1 : Int32)))] [] (σ) from ?_); (try simp only [hkc]); exact hih)
      · refine Exists.intro (nI k) (Exists.intro s (Exists.intro c (And.intro rfl (And.intro (show vp_in (nI k) 100 by exact mo_inN (by omega) (by decide)) ?_))))
        refine And.intro (fun (c3 : (mo_bl (σ.1 17 0 (nI k).toNatClampNeg ≤ c ∧ mo_bt s (σ.1 14 0 (nI k).toNatClampNeg))) = 0) => ?_) (fun (c3 : ¬ (mo_bl (σ.1 17 0 (nI k).toNatClampNeg ≤ c ∧ mo_bt s (σ.1 14 0 (nI k).toNatClampNeg))) = 0) => ?_)
        · (have hih := ih (k + 1) (by omega) (by omega) trivial; have e : mo_fo (fun k a => mo_ite (σ.1 13 0 k = site ∧ (σ.1 17 0 k ≤ c ∧ mo_bt s (σ.1 14 0 k)) ∧ (a = (-1 : Int32) ∨ σ.1 15 0 k < a)) (σ.1 15 0 k) a) (-1 : Int32) (k + 1) = mo_fo (fun k a => mo_ite (σ.1 13 0 k = site ∧ (σ.1 17 0 k ≤ c ∧ mo_bt s (σ.1 14 0 k)) ∧ (a = (-1 : Int32) ∨ σ.1 15 0 k < a)) (σ.1 15 0 k) a) (-1 : Int32) k := mo_ite_f (by ((try simp only [hkc, mo_bl0, Classical.not_not, ← Int32.not_lt] at c2 c3 ⊢); (try clear ih); (try clear hih); clear hK hQ; grind)); rw [nI_succ, e] at hih; refine hK _ _ _ _ (show mo_X g t_X1_firstDay Q 6 [some (.inr (.inr (12, 0))), some (.inl site), some (.inr (.inl s)), none, some (.inl c), some (.inl (mo_fo (fun k a => mo_ite (σ.1 13 0 k = site ∧ (σ.1 17 0 k ≤ c ∧ mo_bt s (σ.1 14 0 k)) ∧ (a = (-1 : Int32) ∨ σ.1 15 0 k < a)) (σ.1 15 0 k) a) (-1 : Int32) k)), some (.inl ((nI k) + (1 : Int32)))] [] (σ) from ?_); (try simp only [hkc]); exact hih)
        · refine And.intro (fun (c4 : (mo_fo (fun k a => mo_ite (σ.1 13 0 k = site ∧ (σ.1 17 0 k ≤ c ∧ mo_bt s (σ.1 14 0 k)) ∧ (a = (-1 : Int32) ∨ σ.1 15 0 k < a)) (σ.1 15 0 k) a) (-1 : Int32) k) = (-1 : Int32)) => ?_) (fun (c4 : ¬ (mo_fo (fun k a => mo_ite (σ.1 13 0 k = site ∧ (σ.1 17 0 k ≤ c ∧ mo_bt s (σ.1 14 0 k)) ∧ (a = (-1 : Int32) ∨ σ.1 15 0 k < a)) (σ.1 15 0 k) a) (-1 : Int32) k) = (-1 : Int32)) => ?_)
          · refine And.intro (show vp_in (nI k) 100 by exact mo_inN (by omega) (by decide)) ?_
            (have hih := ih (k + 1) (by omega) (by omega) trivial; have e : mo_fo (fun k a => mo_ite (σ.1 13 0 k = site ∧ (σ.1 17 0 k ≤ c ∧ mo_bt s (σ.1 14 0 k)) ∧ (a = (-1 : Int32) ∨ σ.1 15 0 k < a)) (σ.1 15 0 k) a) (-1 : Int32) (k + 1) = σ.1 15 0 (k) := mo_ite_t (by ((try simp only [hkc, mo_bl0, Classical.not_not, ← Int32.not_lt] at c2 c3 c4 ⊢); (try clear ih); (try clear hih); clear hK hQ; grind)); rw [nI_succ, e] at hih; refine hK _ _ _ _ (show mo_X g t_X1_firstDay Q 6 [some (.inr (.inr (12, 0))), some (.inl site), some (.inr (.inl s)), none, some (.inl c), some (.inl (σ.1 15 0 ((nI k).toNatClampNeg))), some (.inl ((nI k) + (1 : Int32)))] [] (σ) from ?_); (try simp only [hkc]); exact hih)
          · refine And.intro (show vp_in (nI k) 100 by exact mo_inN (by omega) (by decide)) ?_
            refine And.intro (fun (c5 : (mo_fo (fun k a => mo_ite (σ.1 13 0 k = site ∧ (σ.1 17 0 k ≤ c ∧ mo_bt s (σ.1 14 0 k)) ∧ (a = (-1 : Int32) ∨ σ.1 15 0 k < a)) (σ.1 15 0 k) a) (-1 : Int32) k) ≤ (σ.1 15 0 ((nI k).toNatClampNeg))) => ?_) (fun (c5 : ¬ (mo_fo (fun k a => mo_ite (σ.1 13 0 k = site ∧ (σ.1 17 0 k ≤ c ∧ mo_bt s (σ.1 14 0 k)) ∧ (a = (-1 : Int32) ∨ σ.1 15 0 k < a)) (σ.1 15 0 k) a) (-1 : Int32) k) ≤ (σ.1 15 0 ((nI k).toNatClampNeg))) => ?_)
            · (have hih := ih (k + 1) (by omega) (by omega) trivial; have e : mo_fo (fun k a => mo_ite (σ.1 13 0 k = site ∧ (σ.1 17 0 k ≤ c ∧ mo_bt s (σ.1 14 0 k)) ∧ (a = (-1 : Int32) ∨ σ.1 15 0 k < a)) (σ.1 15 0 k) a) (-1 : Int32) (k + 1) = mo_fo (fun k a => mo_ite (σ.1 13 0 k = site ∧ (σ.1 17 0 k ≤ c ∧ mo_bt s (σ.1 14 0 k)) ∧ (a = (-1 : Int32) ∨ σ.1 15 0 k < a)) (σ.1 15 0 k) a) (-1 : Int32) k := mo_ite_f (by ((try simp only [hkc, mo_bl0, Classical.not_not, ← Int32.not_lt] at c2 c3 c4 c5 ⊢); (try clear ih); (try clear hih); clear hK hQ; grind)); rw [nI_succ, e] at hih; refine hK _ _ _ _ (show mo_X g t_X1_firstDay Q 6 [some (.inr (.inr (12, 0))), some (.inl site), some (.inr (.inl s)), none, some (.inl c), some (.inl (mo_fo (fun k a => mo_ite (σ.1 13 0 k = site ∧ (σ.1 17 0 k ≤ c ∧ mo_bt s (σ.1 14 0 k)) ∧ (a = (-1 : Int32) ∨ σ.1 15 0 k < a)) (σ.1 15 0 k) a) (-1 : Int32) k)), some (.inl ((nI k) + (1 : Int32)))] [] (σ) from ?_); (try simp only [hkc]); exact hih)
            · refine And.intro (show vp_in (nI k) 100 by exact mo_inN (by omega) (by decide)) ?_
              (have hih := ih (k + 1) (by omega) (by omega) trivial; have e : mo_fo (fun k a => mo_ite (σ.1 13 0 k = site ∧ (σ.1 17 0 k ≤ c ∧ mo_bt s (σ.1 14 0 k)) ∧ (a = (-1 : Int32) ∨ σ.1 15 0 k < a)) (σ.1 15 0 k) a) (-1 : Int32) (k + 1) = σ.1 15 0 (k) := mo_ite_t (by ((try simp only [hkc, mo_bl0, Classical.not_not, ← Int32.not_lt] at c2 c3 c4 c5 ⊢); (try clear ih); (try clear hih); clear hK hQ; grind)); rw [nI_succ, e] at hih; refine hK _ _ _ _ (show mo_X g t_X1_firstDay Q 6 [some (.inr (.inr (12, 0))), some (.inl site), some (.inr (.inl s)), none, some (.inl c), some (.inl (σ.1 15 0 ((nI k).toNatClampNeg))), some (.inl ((nI k) + (1 : Int32)))] [] (σ) from ?_); (try simp only [hkc]); exact hih)
set_option maxRecDepth 20000 in
set_option maxHeartbeats 2000000 in
theorem ct_X1_firstDay : mo_ct yX1_firstDay t_X1_firstDay S_X1_firstDay := by
  refine mo_ct_of (by decide) rfl ?_
  rintro g as σ Q ⟨site, s, c, rfl, hpre, hQ⟩
  refine ⟨Nat.le_of_ble_eq_true rfl, mo_go ok_X1_firstDay (cs_X1_firstDay_ok g) [6] 39 ?_⟩
  intro K hK
  exact hK _ _ _ _ (lp_X1_firstDay g σ Q site s c _ hpre.1 hpre.2 hQ ((σ.1 12 0 5).toNatClampNeg + 1) 0 (by omega) (by omega) trivial)
