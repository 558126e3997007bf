theorem mo_inlt {x : Int32} {n : Nat} (h : vp_in x n) : x.toNatClampNeg < n := Nat.not_le.mp fun q => h (Or.inr q)
noncomputable def mo_bad (σ : mo_M) (mv : Int32) (w : Nat) : Nat → Int64 := mo_fo (fun k s => mo_ite (mo_bt mv.toInt64 (σ.1 4 0 k) ∧ ∃ j, j < (σ.1 39 w 2).toNatClampNeg ∧ σ.1 40 w j ≤ σ.1 5 0 k ∧ σ.1 5 0 k ≤ σ.1 41 w j) (s ||| (1 : Int64) <<< ((nI k).toInt64 &&& 63)) s) 0
def S_X11_badMakes : mo_S := fun as σ Q => ∃ a : Int32, ∃ b : Int32, as = [.inr (.inr (0, 0)), .inl a, .inl b] ∧ ((mo_le (σ.1 18 0 4) 40 ∧ mo_le (σ.1 23 0 4) 40 ∧ ∀ k, k < (σ.1 18 0 4).toNatClampNeg → vp_in (σ.1 19 0 k) 30 ∧ vp_in (σ.1 20 0 k) 30) ∧ vp_in a 20 ∧ vp_in (σ.1 39 a.toNatClampNeg 3) 30 ∧ mo_le (σ.1 3 0 2) 60 ∧ mo_le (σ.1 39 a.toNatClampNeg 2) 30) ∧ Q (some (.inr (.inl (mo_bad σ ((mo_set1 σ b (σ.1 18 0 4).toNatClampNeg).1 (σ.1 39 a.toNatClampNeg 3).toNatClampNeg) a.toNatClampNeg (σ.1 3 0 2).toNatClampNeg)))) (mo_rowI σ 29 0 (mo_set1 σ b (σ.1 18 0 4).toNatClampNeg).1)
theorem m_X11_badMakes : ∀ (as : List mo_V) (σ : mo_M) (P P' : mo_Q), (∀ x τ, P x τ → P' x τ) → S_X11_badMakes as σ P → S_X11_badMakes as σ P' := by
  rintro as σ P P' h ⟨a, b, e, hp, hq⟩
  exact ⟨a, b, e, hp, h _ _ hq⟩
def cs_X11_badMakes : Nat → mo_C := fun j => match j with
  | 0 => (4, true, 175, 0, S_X0_settle)
  | 1 => (2, false, 201, 50, S_X11_contains)
  | 2 => (2, true, 266, 9, S_X9_covers)
  | _ => (0, false, 0, 50, fun _ _ _ => False)
theorem cs_X11_badMakes_ok (g : mo_E) : ∀ j, mo_cok g t_X11_badMakes (cs_X11_badMakes j) ∧ mo_mon (cs_X11_badMakes j) := by
  intro j
  unfold cs_X11_badMakes
  split
  · exact ⟨mo_cokV ct_X0_settle (by decide) ⟨_, _, rfl⟩ (by decide +kernel), m_X0_settle⟩
  · exact ⟨mo_cokS ct_X11_contains (by decide +kernel), m_X11_contains⟩
  · exact ⟨mo_cokV ct_X9_covers (by decide) ⟨_, _, rfl⟩ (by decide +kernel), m_X9_covers⟩
  · exact ⟨mo_cok0 g _, mo_mon0⟩
set_option maxRecDepth 20000 in
set_option maxHeartbeats 2000000 in
theorem lp_X11_badMakes (g : mo_E) (σ : mo_M) (Q : mo_Q) (a b mv : Int32) (w n : Nat) (hw : w < 20) (hn : σ.1 3 0 2 = nI n) (hle : n ≤ 60) (hc : mo_le (σ.1 39 w 2) 30) (hQ : Q (some (.inr (.inl (mo_bad σ mv w n)))) σ) : ∀ (d k : Nat), n < k + d → k ≤ n → (True) → mo_X g t_X11_badMakes Q 44 [some (.inr (.inr (0, 0))), some (.inl a), some (.inl b), some (.inr (.inr (39, w))), some (.inl mv), some (.inr (.inl (mo_bad σ mv w k))), none, some (.inl (nI k))] [] (σ) := by
  intro d
  induction d with
  | zero => intro k h1 h2; omega
  | succ d ih =>
    intro k h1 h2 hinv
    have hkc : (nI k).toNatClampNeg = k := mo_cl (by omega)
    refine mo_go ok_X11_badMakes (cs_X11_badMakes_ok g) [44] 58 ?_
    intro K hK
    refine And.intro (fun (c1 : (σ.1 3 0 2) ≤ (nI k)) => ?_) (fun (c1 : ¬ (σ.1 3 0 2) ≤ (nI k)) => ?_)
    · have hk : n ≤ k := mo_cge hn (by omega) (by omega) c1
      (have e : k = n := (by omega); subst e; exact hQ)
    · have hk : k < n := mo_clt hn (by omega) (by omega) c1
      refine And.intro (show vp_in (nI k) 60 by exact mo_inN (by omega) (by decide)) ?_
      refine Exists.intro mv.toInt64 (Exists.intro (σ.1 4 0 ((nI k).toNatClampNeg)) (And.intro rfl (And.intro (show True by trivial) ?_)))
      refine And.intro (fun (c2 : (mo_bl (mo_bt mv.toInt64 (σ.1 4 0 ((nI k).toNatClampNeg)))) = 0) => ?_) (fun (c2 : ¬ (mo_bl (mo_bt mv.toInt64 (σ.1 4 0 ((nI k).toNatClampNeg)))) = 0) => ?_)
      · (have hih := ih (k + 1) (by omega) (by omega) trivial; have e : mo_bad σ mv w (k + 1) = mo_bad σ mv w k := mo_ite_f (by ((try simp only [hkc, mo_bl0, Classical.not_not, ← Int32.not_lt] at c2 ⊢); (try clear ih); (try clear hih); clear hK hQ; grind)); rw [nI_succ, e] at hih; refine hK _ _ _ _ (show mo_X g t_X11_badMakes Q 44 [some (.inr (.inr (0, 0))), some (.inl a), some (.inl b), some (.inr (.inr (39, w))), some (.inl mv), some (.inr (.inl (mo_bad σ mv w k))), none, some (.inl ((nI k) + (1 : Int32)))] [] (σ) from ?_); (try simp only [hkc]); exact hih)
      · refine And.intro (show vp_in (nI k) 60 by exact mo_inN (by omega) (by decide)) ?_
        refine And.intro (by exact hw) ?_
        refine Exists.intro w (Exists.intro (σ.1 5 0 ((nI k).toNatClampNeg)) (And.intro rfl (And.intro (show w < 20 ∧ mo_le (σ.1 39 w 2) 30 by exact ⟨hw, hc⟩) ?_)))
        refine And.intro (fun (c3 : (mo_bl (∃ k_, k_ < (σ.1 39 w 2).toNatClampNeg ∧ σ.1 40 w k_ ≤ (σ.1 5 0 ((nI k).toNatClampNeg)) ∧ (σ.1 5 0 ((nI k).toNatClampNeg)) ≤ σ.1 41 w k_)) = 0) => ?_) (fun (c3 : ¬ (mo_bl (∃ k_, k_ < (σ.1 39 w 2).toNatClampNeg ∧ σ.1 40 w k_ ≤ (σ.1 5 0 ((nI k).toNatClampNeg)) ∧ (σ.1 5 0 ((nI k).toNatClampNeg)) ≤ σ.1 41 w k_)) = 0) => ?_)
        · (have hih := ih (k + 1) (by omega) (by omega) trivial; have e : mo_bad σ mv w (k + 1) = mo_bad σ mv w k := mo_ite_f (by ((try simp only [hkc, mo_bl0, Classical.not_not, ← Int32.not_lt] at c2 c3 ⊢); (try clear ih); (try clear hih); clear hK hQ; grind)); rw [nI_succ, e] at hih; refine hK _ _ _ _ (show mo_X g t_X11_badMakes Q 44 [some (.inr (.inr (0, 0))), some (.inl a), some (.inl b), some (.inr (.inr (39, w))), some (.inl mv), some (.inr (.inl (mo_bad σ mv w k))), none, some (.inl ((nI k) + (1 : Int32)))] [] (σ) from ?_); (try simp only [hkc]); exact hih)
        · (have hih := ih (k + 1) (by omega) (by omega) trivial; have e : mo_bad σ mv w (k + 1) = (mo_bad σ mv w k) ||| ((1 : Int64) <<< ((nI k).toInt64 &&& 63)) := mo_ite_t (by ((try simp only [hkc, mo_bl0, Classical.not_not, ← Int32.not_lt] at c2 c3 ⊢); (try clear ih); (try clear hih); clear hK hQ; grind)); rw [nI_succ, e] at hih; refine hK _ _ _ _ (show mo_X g t_X11_badMakes Q 44 [some (.inr (.inr (0, 0))), some (.inl a), some (.inl b), some (.inr (.inr (39, w))), some (.inl mv), some (.inr (.inl ((mo_bad σ mv w k) ||| ((1 : Int64) <<< ((nI k).toInt64 &&& 63))))), none, some (.inl ((nI k) + (1 : Int32)))] [] (σ) from ?_); (try simp only [hkc]); exact hih)
set_option maxRecDepth 20000 in
set_option maxHeartbeats 2000000 in
theorem ct_X11_badMakes : mo_ct yX11_badMakes t_X11_badMakes S_X11_badMakes := by
  refine mo_ct_of (by decide) rfl ?_
  rintro g as σ Q ⟨a, b, rfl, hpre, hQ⟩
  refine ⟨Nat.le_of_ble_eq_true rfl, mo_go ok_X11_badMakes (cs_X11_badMakes_ok g) [44] 58 ?_⟩
  intro K hK
  refine Exists.intro b (And.intro rfl (And.intro (show mo_le (σ.1 18 0 4) 40 ∧ mo_le (σ.1 23 0 4) 40 ∧ ∀ k_, k_ < (σ.1 18 0 4).toNatClampNeg → vp_in (σ.1 19 0 k_) 30 ∧ vp_in (σ.1 20 0 k_) 30 by exact hpre.1) ?_))
  refine And.intro (show vp_in a 20 by exact hpre.2.1) ?_
  refine And.intro (by exact mo_inlt hpre.2.1) ?_
  refine And.intro (show vp_in (σ.1 39 a.toNatClampNeg 3) 30 by exact hpre.2.2.1) ?_
  exact hK _ _ _ _ (lp_X11_badMakes g (mo_rowI σ 29 0 (mo_set1 σ b (σ.1 18 0 4).toNatClampNeg).1) Q a b ((mo_set1 σ b (σ.1 18 0 4).toNatClampNeg).1 (σ.1 39 a.toNatClampNeg 3).toNatClampNeg) a.toNatClampNeg _ (mo_inlt hpre.2.1) hpre.2.2.2.1.1 hpre.2.2.2.1.2 hpre.2.2.2.2 hQ ((σ.1 3 0 2).toNatClampNeg + 1) 0 (by omega) (by omega) trivial)
def S_X11_groupsInside : mo_S := fun as σ Q => ∃ a : Int32, ∃ b : Int32, ∃ c : Int32, as = [.inr (.inr (0, 0)), .inl a, .inl b, .inl c] ∧ (mo_le (σ.1 6 0 5) 200 ∧ ∀ k, k < (σ.1 6 0 5).toNatClampNeg → vp_in (σ.1 8 0 k) 60 ∧ vp_in (σ.1 4 0 (σ.1 8 0 k).toNatClampNeg) 30) ∧ Q (some (.inl (mo_fo (fun k s => mo_ite (σ.1 7 0 k = a ∧ σ.1 9 0 k = b ∧ (σ.1 10 0 k ≤ c ∧ c < σ.1 11 0 k)) (s ||| (σ.1 29 0 (σ.1 4 0 (σ.1 8 0 k).toNatClampNeg).toNatClampNeg &&& -(σ.1 29 0 (σ.1 4 0 (σ.1 8 0 k).toNatClampNeg).toNatClampNeg))) s) 0 (σ.1 6 0 5).toNatClampNeg))) (σ)
theorem m_X11_groupsInside : ∀ (as : List mo_V) (σ : mo_M) (P P' : mo_Q), (∀ x τ, P x τ → P' x τ) → S_X11_groupsInside as σ P → S_X11_groupsInside as σ P' := by
  rintro as σ P P' h ⟨a, b, c, e, hp, hq⟩
  exact ⟨a, b, c, e, hp, h _ _ hq⟩
def cs_X11_groupsInside : Nat → mo_C := fun j => match j with
  | 0 => (3, true, 157, 2, S_X2_isLive)
  | _ => (0, false, 0, 50, fun _ _ _ => False)
theorem cs_X11_groupsInside_ok (g : mo_E) : ∀ j, mo_cok g t_X11_groupsInside (cs_X11_groupsInside j) ∧ mo_mon (cs_X11_groupsInside j) := by
  intro j
  unfold cs_X11_groupsInside
  split
  · exact ⟨mo_cokV ct_X2_isLive (by decide) ⟨_, _, rfl⟩ (by decide +kernel), m_X2_isLive⟩
  · exact ⟨mo_cok0 g _, mo_mon0⟩
set_option maxRecDepth 20000 in
set_option maxHeartbeats 2000000 in
theorem lp_X11_groupsInside (g : mo_E) (σ : mo_M) (Q : mo_Q) (a b c : Int32) (n : Nat) (hn : σ.1 6 0 5 = nI n) (hle : n ≤ 200) (hin : ∀ k, k < n → vp_in (σ.1 8 0 k) 60 ∧ vp_in (σ.1 4 0 (σ.1 8 0 k).toNatClampNeg) 30) (hQ : Q (some (.inl (mo_fo (fun k s => mo_ite (σ.1 7 0 k = a ∧ σ.1 9 0 k = b ∧ (σ.1 10 0 k ≤ c ∧ c < σ.1 11 0 k)) (s ||| (σ.1 29 0 (σ.1 4 0 (σ.1 8 0 k).toNatClampNeg).toNatClampNeg &&& -(σ.1 29 0 (σ.1 4 0 (σ.1 8 0 k).toNatClampNeg).toNatClampNeg))) s) 0 n))) σ) : ∀ (d k : Nat), n < k + d → k ≤ n → (True) → mo_X g t_X11_groupsInside Q 6 [some (.inr (.inr (0, 0))), some (.inl a), some (.inl b), some (.inl c), some (.inl (mo_fo (fun k s => mo_ite (σ.1 7 0 k = a ∧ σ.1 9 0 k = b ∧ (σ.1 10 0 k ≤ c ∧ c < σ.1 11 0 k)) (s ||| (σ.1 29 0 (σ.1 4 0 (σ.1 8 0 k).toNatClampNeg).toNatClampNeg &&& -(σ.1 29 0 (σ.1 4 0 (σ.1 8 0 k).toNatClampNeg).toNatClampNeg))) s) 0 k)), some (.inl (nI k)), none] [] (σ) := by
  intro d
  induction d with
  | zero => intro k h1 h2; omega
  | succ d ih =>
    intro k h1 h2 hinv
    have hkc : (nI k).toNatClampNeg = k := mo_cl (by omega)
    refine mo_go ok_X11_groupsInside (cs_X11_groupsInside_ok g) [6] 55 ?_
    intro K hK
    refine And.intro (fun (c1 : (σ.1 6 0 5) ≤ (nI k)) => ?_) (fun (c1 : ¬ (σ.1 6 0 5) ≤ (nI k)) => ?_)
    · have hk : n ≤ k := mo_cge hn (by omega) (by omega) c1
      (have e : k = n := (by omega); subst e; exact hQ)
    · have hk : k < n := mo_clt hn (by omega) (by omega) c1
      refine And.intro (show vp_in (nI k) 200 by exact mo_inN (by omega) (by decide)) ?_
      refine And.intro (fun (c2 : ¬ (σ.1 7 0 ((nI k).toNatClampNeg)) = a) => ?_) (fun (c2 : (σ.1 7 0 ((nI k).toNatClampNeg)) = a) => ?_)
      · (have hih := ih (k + 1) (by omega) (by omega) trivial; have e : mo_fo (fun k s => mo_ite (σ.1 7 0 k = a ∧ σ.1 9 0 k = b ∧ (σ.1 10 0 k ≤ c ∧ c < σ.1 11 0 k)) (s ||| (σ.1 29 0 (σ.1 4 0 (σ.1 8 0 k).toNatClampNeg).toNatClampNeg &&& -(σ.1 29 0 (σ.1 4 0 (σ.1 8 0 k).toNatClampNeg).toNatClampNeg))) s) 0 (k + 1) = mo_fo (fun k s => mo_ite (σ.1 7 0 k = a ∧ σ.1 9 0 k = b ∧ (σ.1 10 0 k ≤ c ∧ c < σ.1 11 0 k)) (s ||| (σ.1 29 0 (σ.1 4 0 (σ.1 8 0 k).toNatClampNeg).toNatClampNeg &&& -(σ.1 29 0 (σ.1 4 0 (σ.1 8 0 k).toNatClampNeg).toNatClampNeg))) s) 0 k := mo_ite_f (by ((try simp only [hkc, mo_bl0, Classical.not_not, ← Int32.not_lt] at c2 ⊢); (try clear ih); (try clear hih); clear hK hQ; grind)); rw [nI_succ, e] at hih; refine hK _ _ _ _ (show mo_X g t_X11_groupsInside Q 6 [some (.inr (.inr (0, 0))), some (.inl a), some (.inl b), some (.inl c), some (.inl (mo_fo (fun k s => mo_ite (σ.1 7 0 k = a ∧ σ.1 9 0 k = b ∧ (σ.1 10 0 k ≤ c ∧ c < σ.1 11 0 k)) (s ||| (σ.1 29 0 (σ.1 4 0 (σ.1 8 0 k).toNatClampNeg).toNatClampNeg &&& -(σ.1 29 0 (σ.1 4 0 (σ.1 8 0 k).toNatClampNeg).toNatClampNeg))) s) 0 k)), some (.inl ((nI k) + (1 : Int32))), none] [] (σ) from ?_); (try simp only [hkc]); exact hih)
      · refine And.intro (show vp_in (nI k) 200 by exact mo_inN (by omega) (by decide)) ?_
        refine And.intro (fun (c3 : ¬ (σ.1 9 0 ((nI k).toNatClampNeg)) = b) => ?_) (fun (c3 : (σ.1 9 0 ((nI k).toNatClampNeg)) = b) => ?_)
        · (have hih := ih (k + 1) (by omega) (by omega) trivial; have e : mo_fo (fun k s => mo_ite (σ.1 7 0 k = a ∧ σ.1 9 0 k = b ∧ (σ.1 10 0 k ≤ c ∧ c < σ.1 11 0 k)) (s ||| (σ.1 29 0 (σ.1 4 0 (σ.1 8 0 k).toNatClampNeg).toNatClampNeg &&& -(σ.1 29 0 (σ.1 4 0 (σ.1 8 0 k).toNatClampNeg).toNatClampNeg))) s) 0 (k + 1) = mo_fo (fun k s => mo_ite (σ.1 7 0 k = a ∧ σ.1 9 0 k = b ∧ (σ.1 10 0 k ≤ c ∧ c < σ.1 11 0 k)) (s ||| (σ.1 29 0 (σ.1 4 0 (σ.1 8 0 k).toNatClampNeg).toNatClampNeg &&& -(σ.1 29 0 (σ.1 4 0 (σ.1 8 0 k).toNatClampNeg).toNatClampNeg))) s) 0 k := mo_ite_f (by ((try simp only [hkc, mo_bl0, Classical.not_not, ← Int32.not_lt] at c2 c3 ⊢); (try clear ih); (try clear hih); clear hK hQ; grind)); rw [nI_succ, e] at hih; refine hK _ _ _ _ (show mo_X g t_X11_groupsInside Q 6 [some (.inr (.inr (0, 0))), some (.inl a), some (.inl b), some (.inl c), some (.inl (mo_fo (fun k s => mo_ite (σ.1 7 0 k = a ∧ σ.1 9 0 k = b ∧ (σ.1 10 0 k ≤ c ∧ c < σ.1 11 0 k)) (s ||| (σ.1 29 0 (σ.1 4 0 (σ.1 8 0 k).toNatClampNeg).toNatClampNeg &&& -(σ.1 29 0 (σ.1 4 0 (σ.1 8 0 k).toNatClampNeg).toNatClampNeg))) s) 0 k)), some (.inl ((nI k) + (1 : Int32))), none] [] (σ) from ?_); (try simp only [hkc]); exact hih)
        · refine Exists.intro (nI k) (Exists.intro c (And.intro rfl (And.intro (show vp_in (nI k) 200 by exact mo_inN (by omega) (by decide)) ?_)))
          refine And.intro (fun (c4 : (mo_bl (σ.1 10 0 (nI k).toNatClampNeg ≤ c ∧ c < σ.1 11 0 (nI k).toNatClampNeg)) = 0) => ?_) (fun (c4 : ¬ (mo_bl (σ.1 10 0 (nI k).toNatClampNeg ≤ c ∧ c < σ.1 11 0 (nI k).toNatClampNeg)) = 0) => ?_)
          · (have hih := ih (k + 1) (by omega) (by omega) trivial; have e : mo_fo (fun k s => mo_ite (σ.1 7 0 k = a ∧ σ.1 9 0 k = b ∧ (σ.1 10 0 k ≤ c ∧ c < σ.1 11 0 k)) (s ||| (σ.1 29 0 (σ.1 4 0 (σ.1 8 0 k).toNatClampNeg).toNatClampNeg &&& -(σ.1 29 0 (σ.1 4 0 (σ.1 8 0 k).toNatClampNeg).toNatClampNeg))) s) 0 (k + 1) = mo_fo (fun k s => mo_ite (σ.1 7 0 k = a ∧ σ.1 9 0 k = b ∧ (σ.1 10 0 k ≤ c ∧ c < σ.1 11 0 k)) (s ||| (σ.1 29 0 (σ.1 4 0 (σ.1 8 0 k).toNatClampNeg).toNatClampNeg &&& -(σ.1 29 0 (σ.1 4 0 (σ.1 8 0 k).toNatClampNeg).toNatClampNeg))) s) 0 k := mo_ite_f (by ((try simp only [hkc, mo_bl0, Classical.not_not, ← Int32.not_lt] at c2 c3 c4 ⊢); (try clear ih); (try clear hih); clear hK hQ; grind)); rw [nI_succ, e] at hih; refine hK _ _ _ _ (show mo_X g t_X11_groupsInside Q 6 [some (.inr (.inr (0, 0))), some (.inl a), some (.inl b), some (.inl c), some (.inl (mo_fo (fun k s => mo_ite (σ.1 7 0 k = a ∧ σ.1 9 0 k = b ∧ (σ.1 10 0 k ≤ c ∧ c < σ.1 11 0 k)) (s ||| (σ.1 29 0 (σ.1 4 0 (σ.1 8 0 k).toNatClampNeg).toNatClampNeg &&& -(σ.1 29 0 (σ.1 4 0 (σ.1 8 0 k).toNatClampNeg).toNatClampNeg))) s) 0 k)), some (.inl ((nI k) + (1 : Int32))), none] [] (σ) from ?_); (try simp only [hkc]); exact hih)
          · refine And.intro (show vp_in (nI k) 200 by exact mo_inN (by omega) (by decide)) ?_
            refine And.intro (show vp_in (σ.1 8 0 ((nI k).toNatClampNeg)) 60 by rw [hkc]; exact (hin k hk).1) ?_
            refine And.intro (show vp_in (σ.1 4 0 ((σ.1 8 0 ((nI k).toNatClampNeg)).toNatClampNeg)) 30 by rw [hkc]; exact (hin k hk).2) ?_
            (have hih := ih (k + 1) (by omega) (by omega) trivial; have e : mo_fo (fun k s => mo_ite (σ.1 7 0 k = a ∧ σ.1 9 0 k = b ∧ (σ.1 10 0 k ≤ c ∧ c < σ.1 11 0 k)) (s ||| (σ.1 29 0 (σ.1 4 0 (σ.1 8 0 k).toNatClampNeg).toNatClampNeg &&& -(σ.1 29 0 (σ.1 4 0 (σ.1 8 0 k).toNatClampNeg).toNatClampNeg))) s) 0 (k + 1) = (mo_fo (fun k s => mo_ite (σ.1 7 0 k = a ∧ σ.1 9 0 k = b ∧ (σ.1 10 0 k ≤ c ∧ c < σ.1 11 0 k)) (s ||| (σ.1 29 0 (σ.1 4 0 (σ.1 8 0 k).toNatClampNeg).toNatClampNeg &&& -(σ.1 29 0 (σ.1 4 0 (σ.1 8 0 k).toNatClampNeg).toNatClampNeg))) s) 0 k) ||| ((σ.1 29 0 ((σ.1 4 0 ((σ.1 8 0 (k)).toNatClampNeg)).toNatClampNeg)) &&& (-(σ.1 29 0 ((σ.1 4 0 ((σ.1 8 0 (k)).toNatClampNeg)).toNatClampNeg)))) := mo_ite_t (by ((try simp only [hkc, mo_bl0, Classical.not_not, ← Int32.not_lt] at c2 c3 c4 ⊢); (try clear ih); (try clear hih); clear hK hQ; grind)); rw [nI_succ, e] at hih; refine hK _ _ _ _ (show mo_X g t_X11_groupsInside Q 6 [some (.inr (.inr (0, 0))), some (.inl a), some (.inl b), some (.inl c), some (.inl ((mo_fo (fun k s => mo_ite (σ.1 7 0 k = a ∧ σ.1 9 0 k = b ∧ (σ.1 10 0 k ≤ c ∧ c < σ.1 11 0 k)) (s ||| (σ.1 29 0 (σ.1 4 0 (σ.1 8 0 k).toNatClampNeg).toNatClampNeg &&& -(σ.1 29 0 (σ.1 4 0 (σ.1 8 0 k).toNatClampNeg).toNatClampNeg))) s) 0 k) ||| ((σ.1 29 0 ((σ.1 4 0 ((σ.1 8 0 ((nI k).toNatClampNeg)).toNatClampNeg)).toNatClampNeg)) &&& (-(σ.1 29 0 ((σ.1 4 0 ((σ.1 8 0 ((nI k).toNatClampNeg)).toNatClampNeg)).toNatClampNeg)))))), some (.inl ((nI k) + (1 : Int32))), some (.inl (σ.1 29 0 ((σ.1 4 0 ((σ.1 8 0 ((nI k).toNatClampNeg)).toNatClampNeg)).toNatClampNeg)))] [] (σ) from ?_); (try simp only [hkc]); refine mo_wk ?_ hih; exact (And.intro rfl (And.intro rfl (And.intro rfl (And.intro rfl (And.intro rfl (And.intro rfl trivial)))))))
set_option maxRecDepth 20000 in
set_option maxHeartbeats 2000000 in
theorem ct_X11_groupsInside : mo_ct yX11_groupsInside t_X11_groupsInside S_X11_groupsInside := by
  refine mo_ct_of (by decide) rfl ?_
  rintro g as σ Q ⟨a, b, c, rfl, hpre, hQ⟩
  refine ⟨Nat.le_of_ble_eq_true rfl, mo_go ok_X11_groupsInside (cs_X11_groupsInside_ok g) [6] 55 ?_⟩
  intro K hK
  exact hK _ _ _ _ (lp_X11_groupsInside g σ Q a b c _ hpre.1.1 hpre.1.2 hpre.2 hQ ((σ.1 6 0 5).toNatClampNeg + 1) 0 (by omega) (by omega) trivial)
def S_X11_raiseQuestions : mo_S := fun as σ Q => ∃ a : Int32, as = [.inr (.inr (0, 0)), .inl a] ∧ (mo_le (σ.1 6 0 5) 200 ∧ ∀ k, k < (σ.1 6 0 5).toNatClampNeg → vp_in (σ.1 7 0 k) 60 ∧ vp_in (σ.1 8 0 k) 60 ∧ vp_in (σ.1 4 0 (σ.1 7 0 k).toNatClampNeg) 30 ∧ vp_in (σ.1 4 0 (σ.1 8 0 k).toNatClampNeg) 30 ∧ vp_in (σ.1 2 0 (σ.1 4 0 (σ.1 7 0 k).toNatClampNeg).toNatClampNeg) 10) ∧ Q (none) (mo_rowI σ 37 0 (mo_fo (fun k r => mo_ite (σ.1 9 0 k = 3 ∧ (σ.1 10 0 k ≤ a ∧ a < σ.1 11 0 k)) (upd r (σ.1 2 0 (σ.1 4 0 (σ.1 7 0 k).toNatClampNeg).toNatClampNeg).toNatClampNeg (r (σ.1 2 0 (σ.1 4 0 (σ.1 7 0 k).toNatClampNeg).toNatClampNeg).toNatClampNeg ||| (1 : Int32) <<< (σ.1 2 0 (σ.1 4 0 (σ.1 8 0 k).toNatClampNeg).toNatClampNeg &&& 31))) r) (mo_fo (fun k r => upd r k 0) (σ.1 37 0) 10) (σ.1 6 0 5).toNatClampNeg))
theorem m_X11_raiseQuestions : ∀ (as : List mo_V) (σ : mo_M) (P P' : mo_Q), (∀ x τ, P x τ → P' x τ) → S_X11_raiseQuestions as σ P → S_X11_raiseQuestions as σ P' := by
  rintro as σ P P' h ⟨a, e, hp, hq⟩
  exact ⟨a, e, hp, h _ _ hq⟩
def cs_X11_raiseQuestions : Nat → mo_C := fun j => match j with
  | 0 => (1, true, 278, 6, S_X6_clear)
  | 1 => (3, true, 157, 2, S_X2_isLive)
  | 2 => (2, true, 281, 11, S_X11_makerOf)
  | 3 => (3, true, 284, 6, S_X6_add)
  | _ => (0, false, 0, 50, fun _ _ _ => False)
theorem cs_X11_raiseQuestions_ok (g : mo_E) : ∀ j, mo_cok g t_X11_raiseQuestions (cs_X11_raiseQuestions j) ∧ mo_mon (cs_X11_raiseQuestions j) := by
  intro j
  unfold cs_X11_raiseQuestions
  split
  · exact ⟨mo_cokV ct_X6_clear (by decide) ⟨_, _, rfl⟩ (by decide +kernel), m_X6_clear⟩
  · exact ⟨mo_cokV ct_X2_isLive (by decide) ⟨_, _, rfl⟩ (by decide +kernel), m_X2_isLive⟩
  · exact ⟨mo_cokV ct_X11_makerOf (by decide) ⟨_, _, rfl⟩ (by decide +kernel), m_X11_makerOf⟩
  · exact ⟨mo_cokV ct_X6_add (by decide) ⟨_, _, rfl⟩ (by decide +kernel), m_X6_add⟩
  · exact ⟨mo_cok0 g _, mo_mon0⟩
set_option maxRecDepth 20000 in
set_option maxHeartbeats 2000000 in
theorem lp_X11_raiseQuestions (g : mo_E) (σ : mo_M) (Q : mo_Q) (a : Int32) (n : Nat) (hn : σ.1 6 0 5 = nI n) (hle : n ≤ 200) (hin : ∀ k, k < n → vp_in (σ.1 7 0 k) 60 ∧ vp_in (σ.1 8 0 k) 60 ∧ vp_in (σ.1 4 0 (σ.1 7 0 k).toNatClampNeg) 30 ∧ vp_in (σ.1 4 0 (σ.1 8 0 k).toNatClampNeg) 30 ∧ vp_in (σ.1 2 0 (σ.1 4 0 (σ.1 7 0 k).toNatClampNeg).toNatClampNeg) 10) (hQ : Q none (mo_rowI σ 37 0 (mo_fo (fun k r => mo_ite (σ.1 9 0 k = 3 ∧ (σ.1 10 0 k ≤ a ∧ a < σ.1 11 0 k)) (upd r (σ.1 2 0 (σ.1 4 0 (σ.1 7 0 k).toNatClampNeg).toNatClampNeg).toNatClampNeg (r (σ.1 2 0 (σ.1 4 0 (σ.1 7 0 k).toNatClampNeg).toNatClampNeg).toNatClampNeg ||| (1 : Int32) <<< (σ.1 2 0 (σ.1 4 0 (σ.1 8 0 k).toNatClampNeg).toNatClampNeg &&& 31))) r) (mo_fo (fun k r => upd r k 0) (σ.1 37 0) 10) n))) : ∀ (d k : Nat), n < k + d → k ≤ n → (True) → mo_X g t_X11_raiseQuestions Q 9 [some (.inr (.inr (0, 0))), some (.inl a), some (.inl (nI k))] [] (mo_rowI σ 37 0 (mo_fo (fun k r => mo_ite (σ.1 9 0 k = 3 ∧ (σ.1 10 0 k ≤ a ∧ a < σ.1 11 0 k)) (upd r (σ.1 2 0 (σ.1 4 0 (σ.1 7 0 k).toNatClampNeg).toNatClampNeg).toNatClampNeg (r (σ.1 2 0 (σ.1 4 0 (σ.1 7 0 k).toNatClampNeg).toNatClampNeg).toNatClampNeg ||| (1 : Int32) <<< (σ.1 2 0 (σ.1 4 0 (σ.1 8 0 k).toNatClampNeg).toNatClampNeg &&& 31))) r) (mo_fo (fun k r => upd r k 0) (σ.1 37 0) 10) k)) := by
  intro d
  induction d with
  | zero => intro k h1 h2; omega
  | succ d ih =>
    intro k h1 h2 hinv
    have hkc : (nI k).toNatClampNeg = k := mo_cl (by omega)
    refine mo_go ok_X11_raiseQuestions (cs_X11_raiseQuestions_ok g) [9] 44 ?_
    intro K hK
    refine And.intro (fun (c1 : (σ.1 6 0 5) ≤ (nI k)) => ?_) (fun (c1 : ¬ (σ.1 6 0 5) ≤ (nI k)) => ?_)
    · have hk : n ≤ k := mo_cge hn (by omega) (by omega) c1
      (have e : k = n := (by omega); subst e; exact hQ)
    · have hk : k < n := mo_clt hn (by omega) (by omega) c1
      refine And.intro (show vp_in (nI k) 200 by exact mo_inN (by omega) (by decide)) ?_
      refine And.intro (fun (c2 : ¬ (σ.1 9 0 ((nI k).toNatClampNeg)) = (3 : Int32)) => ?_) (fun (c2 : (σ.1 9 0 ((nI k).toNatClampNeg)) = (3 : Int32)) => ?_)
      · (have hih := ih (k + 1) (by omega) (by omega) trivial; have e : mo_fo (fun k r => mo_ite (σ.1 9 0 k = 3 ∧ (σ.1 10 0 k ≤ a ∧ a < σ.1 11 0 k)) (upd r (σ.1 2 0 (σ.1 4 0 (σ.1 7 0 k).toNatClampNeg).toNatClampNeg).toNatClampNeg (r (σ.1 2 0 (σ.1 4 0 (σ.1 7 0 k).toNatClampNeg).toNatClampNeg).toNatClampNeg ||| (1 : Int32) <<< (σ.1 2 0 (σ.1 4 0 (σ.1 8 0 k).toNatClampNeg).toNatClampNeg &&& 31))) r) (mo_fo (fun k r => upd r k 0) (σ.1 37 0) 10) (k + 1) = mo_fo (fun k r => mo_ite (σ.1 9 0 k = 3 ∧ (σ.1 10 0 k ≤ a ∧ a < σ.1 11 0 k)) (upd r (σ.1 2 0 (σ.1 4 0 (σ.1 7 0 k).toNatClampNeg).toNatClampNeg).toNatClampNeg (r (σ.1 2 0 (σ.1 4 0 (σ.1 7 0 k).toNatClampNeg).toNatClampNeg).toNatClampNeg ||| (1 : Int32) <<< (σ.1 2 0 (σ.1 4 0 (σ.1 8 0 k).toNatClampNeg).toNatClampNeg &&& 31))) r) (mo_fo (fun k r => upd r k 0) (σ.1 37 0) 10) k := mo_ite_f (by ((try simp only [hkc, mo_bl0, Classical.not_not, ← Int32.not_lt] at c2 ⊢); (try clear ih); (try clear hih); clear hK hQ; grind)); rw [nI_succ, e] at hih; exact hK _ _ _ _ hih)
      · refine Exists.intro (nI k) (Exists.intro a (And.intro rfl (And.intro (show vp_in (nI k) 200 by exact mo_inN (by omega) (by decide)) ?_)))
        refine And.intro (fun (c3 : (mo_bl (σ.1 10 0 (nI k).toNatClampNeg ≤ a ∧ a < σ.1 11 0 (nI k).toNatClampNeg)) = 0) => ?_) (fun (c3 : ¬ (mo_bl (σ.1 10 0 (nI k).toNatClampNeg ≤ a ∧ a < σ.1 11 0 (nI k).toNatClampNeg)) = 0) => ?_)
        · (have hih := ih (k + 1) (by omega) (by omega) trivial; have e : mo_fo (fun k r => mo_ite (σ.1 9 0 k = 3 ∧ (σ.1 10 0 k ≤ a ∧ a < σ.1 11 0 k)) (upd r (σ.1 2 0 (σ.1 4 0 (σ.1 7 0 k).toNatClampNeg).toNatClampNeg).toNatClampNeg (r (σ.1 2 0 (σ.1 4 0 (σ.1 7 0 k).toNatClampNeg).toNatClampNeg).toNatClampNeg ||| (1 : Int32) <<< (σ.1 2 0 (σ.1 4 0 (σ.1 8 0 k).toNatClampNeg).toNatClampNeg &&& 31))) r) (mo_fo (fun k r => upd r k 0) (σ.1 37 0) 10) (k + 1) = mo_fo (fun k r => mo_ite (σ.1 9 0 k = 3 ∧ (σ.1 10 0 k ≤ a ∧ a < σ.1 11 0 k)) (upd r (σ.1 2 0 (σ.1 4 0 (σ.1 7 0 k).toNatClampNeg).toNatClampNeg).toNatClampNeg (r (σ.1 2 0 (σ.1 4 0 (σ.1 7 0 k).toNatClampNeg).toNatClampNeg).toNatClampNeg ||| (1 : Int32) <<< (σ.1 2 0 (σ.1 4 0 (σ.1 8 0 k).toNatClampNeg).toNatClampNeg &&& 31))) r) (mo_fo (fun k r => upd r k 0) (σ.1 37 0) 10) k := mo_ite_f (by ((try simp only [hkc, mo_bl0, Classical.not_not, ← Int32.not_lt] at c2 c3 ⊢); (try clear ih); (try clear hih); clear hK hQ; grind)); rw [nI_succ, e] at hih; exact hK _ _ _ _ hih)
        · refine And.intro (show vp_in (nI k) 200 by exact mo_inN (by omega) (by decide)) ?_
          refine Exists.intro (σ.1 7 0 ((nI k).toNatClampNeg)) (And.intro rfl (And.intro (show vp_in (σ.1 7 0 ((nI k).toNatClampNeg)) 60 ∧ vp_in (σ.1 4 0 (σ.1 7 0 ((nI k).toNatClampNeg)).toNatClampNeg) 30 by rw [hkc]; exact ⟨(hin k hk).1, (hin k hk).2.2.1⟩) ?_))
          refine And.intro (show vp_in (nI k) 200 by exact mo_inN (by omega) (by decide)) ?_
          refine Exists.intro (σ.1 8 0 ((nI k).toNatClampNeg)) (And.intro rfl (And.intro (show vp_in (σ.1 8 0 ((nI k).toNatClampNeg)) 60 ∧ vp_in (σ.1 4 0 (σ.1 8 0 ((nI k).toNatClampNeg)).toNatClampNeg) 30 by rw [hkc]; exact ⟨(hin k hk).2.1, (hin k hk).2.2.2.1⟩) ?_))
          refine Exists.intro (σ.1 2 0 (σ.1 4 0 (σ.1 7 0 ((nI k).toNatClampNeg)).toNatClampNeg).toNatClampNeg) (Exists.intro (σ.1 2 0 (σ.1 4 0 (σ.1 8 0 ((nI k).toNatClampNeg)).toNatClampNeg).toNatClampNeg) (And.intro rfl (And.intro (show vp_in (σ.1 2 0 (σ.1 4 0 (σ.1 7 0 ((nI k).toNatClampNeg)).toNatClampNeg).toNatClampNeg) 10 by rw [hkc]; exact (hin k hk).2.2.2.2) ?_)))
          (have hih := ih (k + 1) (by omega) (by omega) trivial; have e : mo_fo (fun k r => mo_ite (σ.1 9 0 k = 3 ∧ (σ.1 10 0 k ≤ a ∧ a < σ.1 11 0 k)) (upd r (σ.1 2 0 (σ.1 4 0 (σ.1 7 0 k).toNatClampNeg).toNatClampNeg).toNatClampNeg (r (σ.1 2 0 (σ.1 4 0 (σ.1 7 0 k).toNatClampNeg).toNatClampNeg).toNatClampNeg ||| (1 : Int32) <<< (σ.1 2 0 (σ.1 4 0 (σ.1 8 0 k).toNatClampNeg).toNatClampNeg &&& 31))) r) (mo_fo (fun k r => upd r k 0) (σ.1 37 0) 10) (k + 1) = upd (mo_fo (fun k r => mo_ite (σ.1 9 0 k = 3 ∧ (σ.1 10 0 k ≤ a ∧ a < σ.1 11 0 k)) (upd r (σ.1 2 0 (σ.1 4 0 (σ.1 7 0 k).toNatClampNeg).toNatClampNeg).toNatClampNeg (r (σ.1 2 0 (σ.1 4 0 (σ.1 7 0 k).toNatClampNeg).toNatClampNeg).toNatClampNeg ||| (1 : Int32) <<< (σ.1 2 0 (σ.1 4 0 (σ.1 8 0 k).toNatClampNeg).toNatClampNeg &&& 31))) r) (mo_fo (fun k r => upd r k 0) (σ.1 37 0) 10) k) ((σ.1 2 0 (σ.1 4 0 (σ.1 7 0 (k)).toNatClampNeg).toNatClampNeg).toNatClampNeg) ((mo_rowI σ 37 0 (mo_fo (fun k r => mo_ite (σ.1 9 0 k = 3 ∧ (σ.1 10 0 k ≤ a ∧ a < σ.1 11 0 k)) (upd r (σ.1 2 0 (σ.1 4 0 (σ.1 7 0 k).toNatClampNeg).toNatClampNeg).toNatClampNeg (r (σ.1 2 0 (σ.1 4 0 (σ.1 7 0 k).toNatClampNeg).toNatClampNeg).toNatClampNeg ||| (1 : Int32) <<< (σ.1 2 0 (σ.1 4 0 (σ.1 8 0 k).toNatClampNeg).toNatClampNeg &&& 31))) r) (mo_fo (fun k r => upd r k 0) (σ.1 37 0) 10) k)).1 37 0 (σ.1 2 0 (σ.1 4 0 (σ.1 7 0 (k)).toNatClampNeg).toNatClampNeg).toNatClampNeg ||| (1 : Int32) <<< ((σ.1 2 0 (σ.1 4 0 (σ.1 8 0 (k)).toNatClampNeg).toNatClampNeg) &&& 31)) := mo_ite_t (by ((try simp only [hkc, mo_bl0, Classical.not_not, ← Int32.not_lt] at c2 c3 ⊢); (try clear ih); (try clear hih); clear hK hQ; grind)); rw [nI_succ, e] at hih; refine hK _ _ _ _ (show mo_X g t_X11_raiseQuestions Q 9 [some (.inr (.inr (0, 0))), some (.inl a), some (.inl ((nI k) + (1 : Int32)))] [] (mo_wI (mo_rowI σ 37 0 (mo_fo (fun k r => mo_ite (σ.1 9 0 k = 3 ∧ (σ.1 10 0 k ≤ a ∧ a < σ.1 11 0 k)) (upd r (σ.1 2 0 (σ.1 4 0 (σ.1 7 0 k).toNatClampNeg).toNatClampNeg).toNatClampNeg (r (σ.1 2 0 (σ.1 4 0 (σ.1 7 0 k).toNatClampNeg).toNatClampNeg).toNatClampNeg ||| (1 : Int32) <<< (σ.1 2 0 (σ.1 4 0 (σ.1 8 0 k).toNatClampNeg).toNatClampNeg &&& 31))) r) (mo_fo (fun k r => upd r k 0) (σ.1 37 0) 10) k)) 37 0 ((σ.1 2 0 (σ.1 4 0 (σ.1 7 0 ((nI k).toNatClampNeg)).toNatClampNeg).toNatClampNeg).toNatClampNeg) ((mo_rowI σ 37 0 (mo_fo (fun k r => mo_ite (σ.1 9 0 k = 3 ∧ (σ.1 10 0 k ≤ a ∧ a < σ.1 11 0 k)) (upd r (σ.1 2 0 (σ.1 4 0 (σ.1 7 0 k).toNatClampNeg).toNatClampNeg).toNatClampNeg (r (σ.1 2 0 (σ.1 4 0 (σ.1 7 0 k).toNatClampNeg).toNatClampNeg).toNatClampNeg ||| (1 : Int32) <<< (σ.1 2 0 (σ.1 4 0 (σ.1 8 0 k).toNatClampNeg).toNatClampNeg &&& 31))) r) (mo_fo (fun k r => upd r k 0) (σ.1 37 0) 10) k)).1 37 0 (σ.1 2 0 (σ.1 4 0 (σ.1 7 0 ((nI k).toNatClampNeg)).toNatClampNeg).toNatClampNeg).toNatClampNeg ||| (1 : Int32) <<< ((σ.1 2 0 (σ.1 4 0 (σ.1 8 0 ((nI k).toNatClampNeg)).toNatClampNeg).toNatClampNeg) &&& 31))) from ?_); simp only [hkc, mo_rowI_w]; exact hih)
set_option maxRecDepth 20000 in
set_option maxHeartbeats 2000000 in
theorem ct_X11_raiseQuestions : mo_ct yX11_raiseQuestions t_X11_raiseQuestions S_X11_raiseQuestions := by
  refine mo_ct_of (by decide) rfl ?_
  rintro g as σ Q ⟨a, rfl, hpre, hQ⟩
  refine ⟨Nat.le_of_ble_eq_true rfl, mo_go ok_X11_raiseQuestions (cs_X11_raiseQuestions_ok g) [9] 44 ?_⟩
  intro K hK
  refine And.intro rfl (And.intro (show True by trivial) ?_)
  exact hK _ _ _ _ (lp_X11_raiseQuestions g σ Q a _ hpre.1.1 hpre.1.2 hpre.2 hQ ((σ.1 6 0 5).toNatClampNeg + 1) 0 (by omega) (by omega) trivial)
