def S_X12_isQuarrel : mo_S := fun as σ Q => ∃ a : Int32, ∃ b : Int32, ∃ c : Int32, as = [.inr (.inr (50, 0)), .inl a, .inl b, .inl c] ∧ (mo_le (σ.1 50 0 19) 40 ∧ ∀ u, u < (σ.1 50 0 19).toNatClampNeg → vp_in (σ.1 68 0 u) 30 ∧ vp_in (σ.1 69 0 u) 30) ∧ Q (some (.inl (mo_bl (∃ u, u < (σ.1 50 0 19).toNatClampNeg ∧ σ.1 70 0 u ≤ c ∧ ((σ.1 71 0 (σ.1 68 0 u).toNatClampNeg = a ∧ σ.1 71 0 (σ.1 69 0 u).toNatClampNeg = b) ∨ (σ.1 71 0 (σ.1 68 0 u).toNatClampNeg = b ∧ σ.1 71 0 (σ.1 69 0 u).toNatClampNeg = a)))))) (σ)
theorem m_X12_isQuarrel : ∀ (as : List mo_V) (σ : mo_M) (P P' : mo_Q), (∀ x τ, P x τ → P' x τ) → S_X12_isQuarrel as σ P → S_X12_isQuarrel as σ P' := by
  rintro as σ P P' h ⟨a, b, c, e, hp, hq⟩
  exact ⟨a, b, c, e, hp, h _ _ hq⟩
set_option maxRecDepth 20000 in
set_option maxHeartbeats 2000000 in
theorem lp_X12_isQuarrel (g : mo_E) (σ : mo_M) (Q : mo_Q) (a b c : Int32) (n : Nat) (hn : σ.1 50 0 19 = nI n) (hle : n ≤ 40) (hin : ∀ k, k < n → vp_in (σ.1 68 0 k) 30 ∧ vp_in (σ.1 69 0 k) 30) (hQ : Q (some (.inl (mo_bl (∃ u, u < n ∧ σ.1 70 0 u ≤ c ∧ ((σ.1 71 0 (σ.1 68 0 u).toNatClampNeg = a ∧ σ.1 71 0 (σ.1 69 0 u).toNatClampNeg = b) ∨ (σ.1 71 0 (σ.1 68 0 u).toNatClampNeg = b ∧ σ.1 71 0 (σ.1 69 0 u).toNatClampNeg = a)))))) σ) : ∀ (d k : Nat), n < k + d → k ≤ n → (∀ j, j < k → ¬ (fun k => σ.1 70 0 k ≤ c ∧ ((σ.1 71 0 (σ.1 68 0 k).toNatClampNeg = a ∧ σ.1 71 0 (σ.1 69 0 k).toNatClampNeg = b) ∨ (σ.1 71 0 (σ.1 68 0 k).toNatClampNeg = b ∧ σ.1 71 0 (σ.1 69 0 k).toNatClampNeg = a))) j) → mo_X g t_X12_isQuarrel Q 3 [some (.inr (.inr (50, 0))), some (.inl a), some (.inl b), some (.inl c), some (.inl (nI k)), none, none] [] (σ) := by
  intro d
  induction d with
  | zero => intro k h1 h2; omega
  | succ d ih =>
    intro k h1 h2 hinv
    have hkc : (nI k).toNatClampNeg = k := mo_cl (by omega)
    refine mo_go ok_X12_isQuarrel (mo_no_ok g _) [3] 48 ?_
    intro K hK
    refine And.intro (fun (c1 : (σ.1 50 0 19) ≤ (nI k)) => ?_) (fun (c1 : ¬ (σ.1 50 0 19) ≤ (nI k)) => ?_)
    · have hk : n ≤ k := mo_cge hn (by omega) (by omega) c1
      refine And.intro (by first | decide | exact mo_bl01 _) ?_
      exact mo_q hQ (mo_r0 (fun q => by obtain ⟨j, hj, q⟩ := q; exact hinv j (by omega) q)) rfl
    · have hk : k < n := mo_clt hn (by omega) (by omega) c1
      refine And.intro (show vp_in (nI k) 40 by exact mo_inN (by omega) (by decide)) ?_
      refine And.intro (fun (c2 : (σ.1 70 0 ((nI k).toNatClampNeg)) ≤ c) => ?_) (fun (c2 : ¬ (σ.1 70 0 ((nI k).toNatClampNeg)) ≤ c) => ?_)
      · refine And.intro (show vp_in (nI k) 40 by exact mo_inN (by omega) (by decide)) ?_
        refine And.intro (show vp_in (σ.1 68 0 ((nI k).toNatClampNeg)) 30 by rw [hkc]; exact (hin k hk).1) ?_
        refine And.intro (show vp_in (nI k) 40 by exact mo_inN (by omega) (by decide)) ?_
        refine And.intro (show vp_in (σ.1 69 0 ((nI k).toNatClampNeg)) 30 by rw [hkc]; exact (hin k hk).2) ?_
        refine And.intro (fun (c3 : ¬ (σ.1 71 0 ((σ.1 68 0 ((nI k).toNatClampNeg)).toNatClampNeg)) = a) => ?_) (fun (c3 : (σ.1 71 0 ((σ.1 68 0 ((nI k).toNatClampNeg)).toNatClampNeg)) = a) => ?_)
        · refine And.intro (fun (c4 : ¬ (σ.1 71 0 ((σ.1 68 0 ((nI k).toNatClampNeg)).toNatClampNeg)) = b) => ?_) (fun (c4 : (σ.1 71 0 ((σ.1 68 0 ((nI k).toNatClampNeg)).toNatClampNeg)) = b) => ?_)
          · (have hih := ih (k + 1) (by omega) (by omega) (lt_s hinv (by ((try simp only [hkc, mo_bl0, Classical.not_not, ← Int32.not_lt] at c2 c3 c4 ⊢); (try clear ih); (try clear hih); clear hK hQ; grind))); rw [nI_succ] at hih; refine hK _ _ _ _ (show mo_X g t_X12_isQuarrel Q 3 [some (.inr (.inr (50, 0))), some (.inl a), some (.inl b), some (.inl c), some (.inl ((nI k) + (1 : Int32))), some (.inl (σ.1 71 0 ((σ.1 68 0 ((nI k).toNatClampNeg)).toNatClampNeg))), some (.inl (σ.1 71 0 ((σ.1 69 0 ((nI k).toNatClampNeg)).toNatClampNeg)))] [] (σ) from ?_); refine mo_wk ?_ hih; exact And.intro rfl (And.intro rfl (And.intro rfl (And.intro rfl (And.intro rfl (trivial))))))
          · refine And.intro (fun (c5 : ¬ (σ.1 71 0 ((σ.1 69 0 ((nI k).toNatClampNeg)).toNatClampNeg)) = a) => ?_) (fun (c5 : (σ.1 71 0 ((σ.1 69 0 ((nI k).toNatClampNeg)).toNatClampNeg)) = a) => ?_)
            · (have hih := ih (k + 1) (by omega) (by omega) (lt_s hinv (by ((try simp only [hkc, mo_bl0, Classical.not_not, ← Int32.not_lt] at c2 c3 c4 c5 ⊢); (try clear ih); (try clear hih); clear hK hQ; grind))); rw [nI_succ] at hih; refine hK _ _ _ _ (show mo_X g t_X12_isQuarrel Q 3 [some (.inr (.inr (50, 0))), some (.inl a), some (.inl b), some (.inl c), some (.inl ((nI k) + (1 : Int32))), some (.inl (σ.1 71 0 ((σ.1 68 0 ((nI k).toNatClampNeg)).toNatClampNeg))), some (.inl (σ.1 71 0 ((σ.1 69 0 ((nI k).toNatClampNeg)).toNatClampNeg)))] [] (σ) from ?_); refine mo_wk ?_ hih; exact And.intro rfl (And.intro rfl (And.intro rfl (And.intro rfl (And.intro rfl (trivial))))))
            · refine And.intro (by first | decide | exact mo_bl01 _) ?_
              exact mo_q hQ (mo_r1 (by exact ⟨k, hk, by ((try simp only [hkc, mo_bl0, Classical.not_not, ← Int32.not_lt] at c2 c3 c4 c5 ⊢); (try clear ih); (try clear hih); clear hK hQ; grind)⟩)) rfl
        · refine And.intro (fun (c4 : (σ.1 71 0 ((σ.1 69 0 ((nI k).toNatClampNeg)).toNatClampNeg)) = b) => ?_) (fun (c4 : ¬ (σ.1 71 0 ((σ.1 69 0 ((nI k).toNatClampNeg)).toNatClampNeg)) = b) => ?_)
          · refine And.intro (by first | decide | exact mo_bl01 _) ?_
            exact mo_q hQ (mo_r1 (by exact ⟨k, hk, by ((try simp only [hkc, mo_bl0, Classical.not_not, ← Int32.not_lt] at c2 c3 c4 ⊢); (try clear ih); (try clear hih); clear hK hQ; grind)⟩)) rfl
          · refine And.intro (fun (c5 : ¬ (σ.1 71 0 ((σ.1 68 0 ((nI k).toNatClampNeg)).toNatClampNeg)) = b) => ?_) (fun (c5 : (σ.1 71 0 ((σ.1 68 0 ((nI k).toNatClampNeg)).toNatClampNeg)) = b) => ?_)
            · (have hih := ih (k + 1) (by omega) (by omega) (lt_s hinv (by ((try simp only [hkc, mo_bl0, Classical.not_not, ← Int32.not_lt] at c2 c3 c4 c5 ⊢); (try clear ih); (try clear hih); clear hK hQ; grind))); rw [nI_succ] at hih; refine hK _ _ _ _ (show mo_X g t_X12_isQuarrel Q 3 [some (.inr (.inr (50, 0))), some (.inl a), some (.inl b), some (.inl c), some (.inl ((nI k) + (1 : Int32))), some (.inl (σ.1 71 0 ((σ.1 68 0 ((nI k).toNatClampNeg)).toNatClampNeg))), some (.inl (σ.1 71 0 ((σ.1 69 0 ((nI k).toNatClampNeg)).toNatClampNeg)))] [] (σ) from ?_); refine mo_wk ?_ hih; exact And.intro rfl (And.intro rfl (And.intro rfl (And.intro rfl (And.intro rfl (trivial))))))
            · refine And.intro (fun (c6 : ¬ (σ.1 71 0 ((σ.1 69 0 ((nI k).toNatClampNeg)).toNatClampNeg)) = a) => ?_) (fun (c6 : (σ.1 71 0 ((σ.1 69 0 ((nI k).toNatClampNeg)).toNatClampNeg)) = a) => ?_)
              · (have hih := ih (k + 1) (by omega) (by omega) (lt_s hinv (by ((try simp only [hkc, mo_bl0, Classical.not_not, ← Int32.not_lt] at c2 c3 c4 c5 c6 ⊢); (try clear ih); (try clear hih); clear hK hQ; grind))); rw [nI_succ] at hih; refine hK _ _ _ _ (show mo_X g t_X12_isQuarrel Q 3 [some (.inr (.inr (50, 0))), some (.inl a), some (.inl b), some (.inl c), some (.inl ((nI k) + (1 : Int32))), some (.inl (σ.1 71 0 ((σ.1 68 0 ((nI k).toNatClampNeg)).toNatClampNeg))), some (.inl (σ.1 71 0 ((σ.1 69 0 ((nI k).toNatClampNeg)).toNatClampNeg)))] [] (σ) from ?_); refine mo_wk ?_ hih; exact And.intro rfl (And.intro rfl (And.intro rfl (And.intro rfl (And.intro rfl (trivial))))))
              · refine And.intro (by first | decide | exact mo_bl01 _) ?_
                exact mo_q hQ (mo_r1 (by exact ⟨k, hk, by ((try simp only [hkc, mo_bl0, Classical.not_not, ← Int32.not_lt] at c2 c3 c4 c5 c6 ⊢); (try clear ih); (try clear hih); clear hK hQ; grind)⟩)) rfl
      · (have hih := ih (k + 1) (by omega) (by omega) (lt_s hinv (by ((try simp only [hkc, mo_bl0, Classical.not_not, ← Int32.not_lt] at c2 ⊢); (try clear ih); (try clear hih); clear hK hQ; grind))); rw [nI_succ] at hih; refine hK _ _ _ _ (show mo_X g t_X12_isQuarrel Q 3 [some (.inr (.inr (50, 0))), some (.inl a), some (.inl b), some (.inl c), some (.inl ((nI k) + (1 : Int32))), none, none] [] (σ) from ?_); refine mo_wk ?_ hih; exact And.intro rfl (And.intro rfl (And.intro rfl (And.intro rfl (And.intro rfl (trivial))))))
set_option maxRecDepth 20000 in
set_option maxHeartbeats 2000000 in
theorem ct_X12_isQuarrel : mo_ct yX12_isQuarrel t_X12_isQuarrel S_X12_isQuarrel := by
  refine mo_ct_of (by decide) rfl ?_
  rintro g as σ Q ⟨a, b, c, rfl, hpre, hQ⟩
  refine ⟨Nat.le_of_ble_eq_true rfl, mo_go ok_X12_isQuarrel (mo_no_ok g _) [3] 48 ?_⟩
  intro K hK
  exact hK _ _ _ _ (lp_X12_isQuarrel g σ Q a b c _ hpre.1.1 hpre.1.2 hpre.2 hQ ((σ.1 50 0 19).toNatClampNeg + 1) 0 (by omega) (by omega) (fun j hj => by omega))
def S_X12_hasLink : mo_S := fun as σ Q => ∃ a : Int32, ∃ b : Int32, ∃ c : Int32, ∃ f : Int32, as = [.inr (.inr (50, 0)), .inl a, .inl b, .inl c, .inl f] ∧ (mo_le (σ.1 50 0 6) 200 ∧ ∀ u, u < (σ.1 50 0 6).toNatClampNeg → vp_in (σ.1 55 0 u) 60 ∧ vp_in (σ.1 52 0 (σ.1 55 0 u).toNatClampNeg) 30) ∧ Q (some (.inl (mo_bl (∃ u, u < (σ.1 50 0 6).toNatClampNeg ∧ (σ.1 57 0 u ≤ f ∧ f < σ.1 58 0 u) ∧ σ.1 54 0 u = a ∧ σ.1 56 0 u = c ∧ σ.1 71 0 (σ.1 52 0 (σ.1 55 0 u).toNatClampNeg).toNatClampNeg = b)))) (σ)
theorem m_X12_hasLink : ∀ (as : List mo_V) (σ : mo_M) (P P' : mo_Q), (∀ x τ, P x τ → P' x τ) → S_X12_hasLink as σ P → S_X12_hasLink as σ P' := by
  rintro as σ P P' h ⟨a, b, c, f, e, hp, hq⟩
  exact ⟨a, b, c, f, e, hp, h _ _ hq⟩
def cs_X12_hasLink : Nat → mo_C := fun j => match j with
  | 0 => (3, true, 150, 12, S_X12_is)
  | _ => (0, false, 0, 50, fun _ _ _ => False)
theorem cs_X12_hasLink_ok (g : mo_E) : ∀ j, mo_cok g t_X12_hasLink (cs_X12_hasLink j) ∧ mo_mon (cs_X12_hasLink j) := by
  intro j
  unfold cs_X12_hasLink
  split
  · exact ⟨mo_cokV ct_X12_is (by decide) ⟨_, _, rfl⟩ (by decide +kernel), m_X12_is⟩
  · exact ⟨mo_cok0 g _, mo_mon0⟩
set_option maxRecDepth 20000 in
set_option maxHeartbeats 2000000 in
theorem lp_X12_hasLink (g : mo_E) (σ : mo_M) (Q : mo_Q) (a b c f : Int32) (n : Nat) (hn : σ.1 50 0 6 = nI n) (hle : n ≤ 200) (hin : ∀ k, k < n → vp_in (σ.1 55 0 k) 60 ∧ vp_in (σ.1 52 0 (σ.1 55 0 k).toNatClampNeg) 30) (hQ : Q (some (.inl (mo_bl (∃ u, u < n ∧ (σ.1 57 0 u ≤ f ∧ f < σ.1 58 0 u) ∧ σ.1 54 0 u = a ∧ σ.1 56 0 u = c ∧ σ.1 71 0 (σ.1 52 0 (σ.1 55 0 u).toNatClampNeg).toNatClampNeg = b)))) σ) : ∀ (d k : Nat), n < k + d → k ≤ n → (∀ j, j < k → ¬ (fun k => (σ.1 57 0 k ≤ f ∧ f < σ.1 58 0 k) ∧ σ.1 54 0 k = a ∧ σ.1 56 0 k = c ∧ σ.1 71 0 (σ.1 52 0 (σ.1 55 0 k).toNatClampNeg).toNatClampNeg = b) j) → mo_X g t_X12_hasLink Q 3 [some (.inr (.inr (50, 0))), some (.inl a), some (.inl b), some (.inl c), some (.inl f), some (.inl (nI k))] [] (σ) := by
  intro d
  induction d with
  | zero => intro k h1 h2; omega
  | succ d ih =>
    intro k h1 h2 hinv
    have hkc : (nI k).toNatClampNeg = k := mo_cl (by omega)
    refine mo_go ok_X12_hasLink (cs_X12_hasLink_ok g) [3] 42 ?_
    intro K hK
    refine And.intro (fun (c1 : (σ.1 50 0 6) ≤ (nI k)) => ?_) (fun (c1 : ¬ (σ.1 50 0 6) ≤ (nI k)) => ?_)
    · have hk : n ≤ k := mo_cge hn (by omega) (by omega) c1
      refine And.intro (by first | decide | exact mo_bl01 _) ?_
      exact mo_q hQ (mo_r0 (fun q => by obtain ⟨j, hj, q⟩ := q; exact hinv j (by omega) q)) rfl
    · have hk : k < n := mo_clt hn (by omega) (by omega) c1
      refine Exists.intro (nI k) (Exists.intro f (And.intro rfl (And.intro (show vp_in (nI k) 200 by exact mo_inN (by omega) (by decide)) ?_)))
      refine And.intro (fun (c2 : (mo_bl (σ.1 57 0 (nI k).toNatClampNeg ≤ f ∧ f < σ.1 58 0 (nI k).toNatClampNeg)) = 0) => ?_) (fun (c2 : ¬ (mo_bl (σ.1 57 0 (nI k).toNatClampNeg ≤ f ∧ f < σ.1 58 0 (nI k).toNatClampNeg)) = 0) => ?_)
      · (have hih := ih (k + 1) (by omega) (by omega) (lt_s hinv (by ((try simp only [hkc, mo_bl0, Classical.not_not, ← Int32.not_lt] at c2 ⊢); (try clear ih); (try clear hih); clear hK hQ; grind))); rw [nI_succ] at hih; refine hK _ _ _ _ (show mo_X g t_X12_hasLink Q 3 [some (.inr (.inr (50, 0))), some (.inl a), some (.inl b), some (.inl c), some (.inl f), some (.inl ((nI k) + (1 : Int32)))] [] (σ) from ?_); refine mo_wk ?_ hih; exact And.intro rfl (And.intro rfl (And.intro rfl (And.intro rfl (And.intro rfl (And.intro rfl (trivial)))))))
      · refine And.intro (show vp_in (nI k) 200 by exact mo_inN (by omega) (by decide)) ?_
        refine And.intro (fun (c3 : ¬ (σ.1 54 0 ((nI k).toNatClampNeg)) = a) => ?_) (fun (c3 : (σ.1 54 0 ((nI k).toNatClampNeg)) = a) => ?_)
        · (have hih := ih (k + 1) (by omega) (by omega) (lt_s hinv (by ((try simp only [hkc, mo_bl0, Classical.not_not, ← Int32.not_lt] at c2 c3 ⊢); (try clear ih); (try clear hih); clear hK hQ; grind))); rw [nI_succ] at hih; refine hK _ _ _ _ (show mo_X g t_X12_hasLink Q 3 [some (.inr (.inr (50, 0))), some (.inl a), some (.inl b), some (.inl c), some (.inl f), some (.inl ((nI k) + (1 : Int32)))] [] (σ) from ?_); refine mo_wk ?_ hih; exact And.intro rfl (And.intro rfl (And.intro rfl (And.intro rfl (And.intro rfl (And.intro rfl (trivial)))))))
        · refine And.intro (show vp_in (nI k) 200 by exact mo_inN (by omega) (by decide)) ?_
          refine And.intro (fun (c4 : ¬ (σ.1 56 0 ((nI k).toNatClampNeg)) = c) => ?_) (fun (c4 : (σ.1 56 0 ((nI k).toNatClampNeg)) = c) => ?_)
          · (have hih := ih (k + 1) (by omega) (by omega) (lt_s hinv (by ((try simp only [hkc, mo_bl0, Classical.not_not, ← Int32.not_lt] at c2 c3 c4 ⊢); (try clear ih); (try clear hih); clear hK hQ; grind))); rw [nI_succ] at hih; refine hK _ _ _ _ (show mo_X g t_X12_hasLink Q 3 [some (.inr (.inr (50, 0))), some (.inl a), some (.inl b), some (.inl c), some (.inl f), some (.inl ((nI k) + (1 : Int32)))] [] (σ) from ?_); refine mo_wk ?_ hih; exact And.intro rfl (And.intro rfl (And.intro rfl (And.intro rfl (And.intro rfl (And.intro rfl (trivial)))))))
          · refine And.intro (show vp_in (nI k) 200 by exact mo_inN (by omega) (by decide)) ?_
            refine And.intro (show vp_in (σ.1 55 0 ((nI k).toNatClampNeg)) 60 by rw [hkc]; exact (hin k hk).1) ?_
            refine And.intro (show vp_in (σ.1 52 0 ((σ.1 55 0 ((nI k).toNatClampNeg)).toNatClampNeg)) 30 by rw [hkc]; exact (hin k hk).2) ?_
            refine And.intro (fun (c5 : ¬ (σ.1 71 0 ((σ.1 52 0 ((σ.1 55 0 ((nI k).toNatClampNeg)).toNatClampNeg)).toNatClampNeg)) = b) => ?_) (fun (c5 : (σ.1 71 0 ((σ.1 52 0 ((σ.1 55 0 ((nI k).toNatClampNeg)).toNatClampNeg)).toNatClampNeg)) = b) => ?_)
            · (have hih := ih (k + 1) (by omega) (by omega) (lt_s hinv (by ((try simp only [hkc, mo_bl0, Classical.not_not, ← Int32.not_lt] at c2 c3 c4 c5 ⊢); (try clear ih); (try clear hih); clear hK hQ; grind))); rw [nI_succ] at hih; refine hK _ _ _ _ (show mo_X g t_X12_hasLink Q 3 [some (.inr (.inr (50, 0))), some (.inl a), some (.inl b), some (.inl c), some (.inl f), some (.inl ((nI k) + (1 : Int32)))] [] (σ) from ?_); refine mo_wk ?_ hih; exact And.intro rfl (And.intro rfl (And.intro rfl (And.intro rfl (And.intro rfl (And.intro rfl (trivial)))))))
            · refine And.intro (by first | decide | exact mo_bl01 _) ?_
              exact mo_q hQ (mo_r1 (by exact ⟨k, hk, by ((try simp only [hkc, mo_bl0, Classical.not_not, ← Int32.not_lt] at c2 c3 c4 c5 ⊢); (try clear ih); (try clear hih); clear hK hQ; grind)⟩)) rfl
set_option maxRecDepth 20000 in
set_option maxHeartbeats 2000000 in
theorem ct_X12_hasLink : mo_ct yX12_hasLink t_X12_hasLink S_X12_hasLink := by
  refine mo_ct_of (by decide) rfl ?_
  rintro g as σ Q ⟨a, b, c, f, rfl, hpre, hQ⟩
  refine ⟨Nat.le_of_ble_eq_true rfl, mo_go ok_X12_hasLink (cs_X12_hasLink_ok g) [3] 42 ?_⟩
  intro K hK
  exact hK _ _ _ _ (lp_X12_hasLink g σ Q a b c f _ hpre.1.1 hpre.1.2 hpre.2 hQ ((σ.1 50 0 6).toNatClampNeg + 1) 0 (by omega) (by omega) (fun j hj => by omega))
def S_X12_settles : mo_S := fun as σ Q => ∃ a : Int32, ∃ b : Int32, as = [.inr (.inr (50, 0)), .inl a, .inl b] ∧ (mo_le (σ.1 50 0 6) 200 ∧ ∀ u, u < (σ.1 50 0 6).toNatClampNeg → vp_in (σ.1 54 0 u) 60 ∧ vp_in (σ.1 55 0 u) 60 ∧ vp_in (σ.1 52 0 (σ.1 54 0 u).toNatClampNeg) 30 ∧ vp_in (σ.1 52 0 (σ.1 55 0 u).toNatClampNeg) 30) ∧ Q (some (.inl (mo_bl (∀ u, u < (σ.1 50 0 6).toNatClampNeg → ¬ ((σ.1 57 0 u ≤ b ∧ b < σ.1 58 0 u) ∧ σ.1 56 0 u = 3 ∧ a >>> (σ.1 51 0 (σ.1 52 0 (σ.1 54 0 u).toNatClampNeg).toNatClampNeg &&& 31) &&& 1 = 0 ∧ a >>> (σ.1 51 0 (σ.1 52 0 (σ.1 55 0 u).toNatClampNeg).toNatClampNeg &&& 31) &&& 1 = 0))))) (σ)
theorem m_X12_settles : ∀ (as : List mo_V) (σ : mo_M) (P P' : mo_Q), (∀ x τ, P x τ → P' x τ) → S_X12_settles as σ P → S_X12_settles as σ P' := by
  rintro as σ P P' h ⟨a, b, e, hp, hq⟩
  exact ⟨a, b, e, hp, h _ _ hq⟩
def cs_X12_settles : Nat → mo_C := fun j => match j with
  | 0 => (3, true, 150, 12, S_X12_is)
  | _ => (0, false, 0, 50, fun _ _ _ => False)
theorem cs_X12_settles_ok (g : mo_E) : ∀ j, mo_cok g t_X12_settles (cs_X12_settles j) ∧ mo_mon (cs_X12_settles j) := by
  intro j
  unfold cs_X12_settles
  split
  · exact ⟨mo_cokV ct_X12_is (by decide) ⟨_, _, rfl⟩ (by decide +kernel), m_X12_is⟩
  · exact ⟨mo_cok0 g _, mo_mon0⟩
set_option maxRecDepth 20000 in
set_option maxHeartbeats 2000000 in
theorem lp_X12_settles (g : mo_E) (σ : mo_M) (Q : mo_Q) (a b : Int32) (n : Nat) (hn : σ.1 50 0 6 = nI n) (hle : n ≤ 200) (hin : ∀ k, k < n → vp_in (σ.1 54 0 k) 60 ∧ vp_in (σ.1 55 0 k) 60 ∧ vp_in (σ.1 52 0 (σ.1 54 0 k).toNatClampNeg) 30 ∧ vp_in (σ.1 52 0 (σ.1 55 0 k).toNatClampNeg) 30) (hQ : Q (some (.inl (mo_bl (∀ u, u < n → ¬ ((σ.1 57 0 u ≤ b ∧ b < σ.1 58 0 u) ∧ σ.1 56 0 u = 3 ∧ a >>> (σ.1 51 0 (σ.1 52 0 (σ.1 54 0 u).toNatClampNeg).toNatClampNeg &&& 31) &&& 1 = 0 ∧ a >>> (σ.1 51 0 (σ.1 52 0 (σ.1 55 0 u).toNatClampNeg).toNatClampNeg &&& 31) &&& 1 = 0))))) σ) : ∀ (d k : Nat), n < k + d → k ≤ n → (∀ j, j < k → ¬ (fun k => (σ.1 57 0 k ≤ b ∧ b < σ.1 58 0 k) ∧ σ.1 56 0 k = 3 ∧ a >>> (σ.1 51 0 (σ.1 52 0 (σ.1 54 0 k).toNatClampNeg).toNatClampNeg &&& 31) &&& 1 = 0 ∧ a >>> (σ.1 51 0 (σ.1 52 0 (σ.1 55 0 k).toNatClampNeg).toNatClampNeg &&& 31) &&& 1 = 0) j) → mo_X g t_X12_settles Q 2 [some (.inr (.inr (50, 0))), some (.inl a), some (.inl b), some (.inl (nI k))] [] (σ) := by
  intro d
  induction d with
  | zero => intro k h1 h2; omega
  | succ d ih =>
    intro k h1 h2 hinv
    have hkc : (nI k).toNatClampNeg = k := mo_cl (by omega)
    refine mo_go ok_X12_settles (cs_X12_settles_ok g) [2] 55 ?_
    intro K hK
    refine And.intro (fun (c1 : (σ.1 50 0 6) ≤ (nI k)) => ?_) (fun (c1 : ¬ (σ.1 50 0 6) ≤ (nI k)) => ?_)
    · have hk : n ≤ k := mo_cge hn (by omega) (by omega) c1
      refine And.intro (by first | decide | exact mo_bl01 _) ?_
      exact mo_q hQ (mo_r1 (fun j hj => hinv j (by omega))) rfl
    · have hk : k < n := mo_clt hn (by omega) (by omega) c1
      refine Exists.intro (nI k) (Exists.intro b (And.intro rfl (And.intro (show vp_in (nI k) 200 by exact mo_inN (by omega) (by decide)) ?_)))
      refine And.intro (fun (c2 : (mo_bl (σ.1 57 0 (nI k).toNatClampNeg ≤ b ∧ b < σ.1 58 0 (nI k).toNatClampNeg)) = 0) => ?_) (fun (c2 : ¬ (mo_bl (σ.1 57 0 (nI k).toNatClampNeg ≤ b ∧ b < σ.1 58 0 (nI k).toNatClampNeg)) = 0) => ?_)
      · (have hih := ih (k + 1) (by omega) (by omega) (lt_s hinv (by ((try simp only [hkc, mo_bl0, Classical.not_not, ← Int32.not_lt] at c2 ⊢); (try clear ih); (try clear hih); clear hK hQ; grind))); rw [nI_succ] at hih; refine hK _ _ _ _ (show mo_X g t_X12_settles Q 2 [some (.inr (.inr (50, 0))), some (.inl a), some (.inl b), some (.inl ((nI k) + (1 : Int32)))] [] (σ) from ?_); refine mo_wk ?_ hih; exact And.intro rfl (And.intro rfl (And.intro rfl (And.intro rfl (trivial)))))
      · refine And.intro (show vp_in (nI k) 200 by exact mo_inN (by omega) (by decide)) ?_
        refine And.intro (fun (c3 : (σ.1 56 0 ((nI k).toNatClampNeg)) = (3 : Int32)) => ?_) (fun (c3 : ¬ (σ.1 56 0 ((nI k).toNatClampNeg)) = (3 : Int32)) => ?_)
        · refine And.intro (show vp_in (nI k) 200 by exact mo_inN (by omega) (by decide)) ?_
          refine And.intro (show vp_in (σ.1 54 0 ((nI k).toNatClampNeg)) 60 by rw [hkc]; exact (hin k hk).1) ?_
          refine And.intro (show vp_in (σ.1 52 0 ((σ.1 54 0 ((nI k).toNatClampNeg)).toNatClampNeg)) 30 by rw [hkc]; exact (hin k hk).2.2.1) ?_
          refine And.intro (fun (c4 : ¬ ((a >>> ((σ.1 51 0 ((σ.1 52 0 ((σ.1 54 0 ((nI k).toNatClampNeg)).toNatClampNeg)).toNatClampNeg)) &&& 31)) &&& (1 : Int32)) = 0) => ?_) (fun (c4 : ((a >>> ((σ.1 51 0 ((σ.1 52 0 ((σ.1 54 0 ((nI k).toNatClampNeg)).toNatClampNeg)).toNatClampNeg)) &&& 31)) &&& (1 : Int32)) = 0) => ?_)
          · (have hih := ih (k + 1) (by omega) (by omega) (lt_s hinv (by ((try simp only [hkc, mo_bl0, Classical.not_not, ← Int32.not_lt] at c2 c3 c4 ⊢); (try clear ih); (try clear hih); clear hK hQ; grind))); rw [nI_succ] at hih; refine hK _ _ _ _ (show mo_X g t_X12_settles Q 2 [some (.inr (.inr (50, 0))), some (.inl a), some (.inl b), some (.inl ((nI k) + (1 : Int32)))] [] (σ) from ?_); refine mo_wk ?_ hih; exact And.intro rfl (And.intro rfl (And.intro rfl (And.intro rfl (trivial)))))
          · refine And.intro (show vp_in (nI k) 200 by exact mo_inN (by omega) (by decide)) ?_
            refine And.intro (show vp_in (σ.1 55 0 ((nI k).toNatClampNeg)) 60 by rw [hkc]; exact (hin k hk).2.1) ?_
            refine And.intro (show vp_in (σ.1 52 0 ((σ.1 55 0 ((nI k).toNatClampNeg)).toNatClampNeg)) 30 by rw [hkc]; exact (hin k hk).2.2.2) ?_
            refine And.intro (fun (c5 : ¬ ((a >>> ((σ.1 51 0 ((σ.1 52 0 ((σ.1 55 0 ((nI k).toNatClampNeg)).toNatClampNeg)).toNatClampNeg)) &&& 31)) &&& (1 : Int32)) = 0) => ?_) (fun (c5 : ((a >>> ((σ.1 51 0 ((σ.1 52 0 ((σ.1 55 0 ((nI k).toNatClampNeg)).toNatClampNeg)).toNatClampNeg)) &&& 31)) &&& (1 : Int32)) = 0) => ?_)
            · (have hih := ih (k + 1) (by omega) (by omega) (lt_s hinv (by ((try simp only [hkc, mo_bl0, Classical.not_not, ← Int32.not_lt] at c2 c3 c4 c5 ⊢); (try clear ih); (try clear hih); clear hK hQ; grind))); rw [nI_succ] at hih; refine hK _ _ _ _ (show mo_X g t_X12_settles Q 2 [some (.inr (.inr (50, 0))), some (.inl a), some (.inl b), some (.inl ((nI k) + (1 : Int32)))] [] (σ) from ?_); refine mo_wk ?_ hih; exact And.intro rfl (And.intro rfl (And.intro rfl (And.intro rfl (trivial)))))
            · refine And.intro (by first | decide | exact mo_bl01 _) ?_
              exact mo_q hQ (mo_r0 (by exact fun q => q k hk (by ((try simp only [hkc, mo_bl0, Classical.not_not, ← Int32.not_lt] at c2 c3 c4 c5 ⊢); (try clear ih); (try clear hih); clear hK hQ; grind)))) rfl
        · (have hih := ih (k + 1) (by omega) (by omega) (lt_s hinv (by ((try simp only [hkc, mo_bl0, Classical.not_not, ← Int32.not_lt] at c2 c3 ⊢); (try clear ih); (try clear hih); clear hK hQ; grind))); rw [nI_succ] at hih; refine hK _ _ _ _ (show mo_X g t_X12_settles Q 2 [some (.inr (.inr (50, 0))), some (.inl a), some (.inl b), some (.inl ((nI k) + (1 : Int32)))] [] (σ) from ?_); refine mo_wk ?_ hih; exact And.intro rfl (And.intro rfl (And.intro rfl (And.intro rfl (trivial)))))
set_option maxRecDepth 20000 in
set_option maxHeartbeats 2000000 in
theorem ct_X12_settles : mo_ct yX12_settles t_X12_settles S_X12_settles := by
  refine mo_ct_of (by decide) rfl ?_
  rintro g as σ Q ⟨a, b, rfl, hpre, hQ⟩
  refine ⟨Nat.le_of_ble_eq_true rfl, mo_go ok_X12_settles (cs_X12_settles_ok g) [2] 55 ?_⟩
  intro K hK
  exact hK _ _ _ _ (lp_X12_settles g σ Q a b _ hpre.1.1 hpre.1.2 hpre.2 hQ ((σ.1 50 0 6).toNatClampNeg + 1) 0 (by omega) (by omega) (fun j hj => by omega))
def S_X12_many : mo_S := fun as σ Q => ∃ a : Int32, as = [.inl a] ∧ (True) ∧ Q (some (.inl (mo_fo (fun k s => s + (a >>> (nI k &&& 31) &&& (1 : Int32))) 0 10))) (σ)
theorem m_X12_many : ∀ (as : List mo_V) (σ : mo_M) (P P' : mo_Q), (∀ x τ, P x τ → P' x τ) → S_X12_many as σ P → S_X12_many as σ P' := by
  rintro as σ P P' h ⟨a, e, hp, hq⟩
  exact ⟨a, e, hp, h _ _ hq⟩
set_option maxRecDepth 20000 in
set_option maxHeartbeats 2000000 in
theorem lp_X12_many (g : mo_E) (σ : mo_M) (Q : mo_Q) (a : Int32) (n : Nat) (hn : (10 : Int32) = nI n) (hle : n ≤ 10) (hQ : Q (some (.inl (mo_fo (fun k s => s + (a >>> (nI k &&& 31) &&& (1 : Int32))) 0 n))) σ) : ∀ (d k : Nat), n < k + d → k ≤ n → (True) → mo_X g t_X12_many Q 4 [some (.inl a), some (.inl (mo_fo (fun k s => s + (a >>> (nI k &&& 31) &&& (1 : Int32))) 0 k)), some (.inl (nI k))] [] (σ) := by
  intro d
  induction d with
  | zero => intro k h1 h2; omega
  | succ d ih =>
    intro k h1 h2 hinv
    have hkc : (nI k).toNatClampNeg = k := mo_cl (by omega)
    refine mo_go ok_X12_many (mo_no_ok g _) [4] 20 ?_
    intro K hK
    refine And.intro (fun (c1 : (10 : Int32) ≤ (nI k)) => ?_) (fun (c1 : ¬ (10 : Int32) ≤ (nI k)) => ?_)
    · have hk : n ≤ k := mo_cge hn (by omega) (by omega) c1
      (have e : k = n := (by omega); subst e; exact hQ)
    · have hk : k < n := mo_clt hn (by omega) (by omega) c1
      (have hih := ih (k + 1) (by omega) (by omega) trivial; rw [nI_succ] at hih; exact hK _ _ _ _ hih)
set_option maxRecDepth 20000 in
set_option maxHeartbeats 2000000 in
theorem ct_X12_many : mo_ct yX12_many t_X12_many S_X12_many := by
  refine mo_ct_of (by decide) rfl ?_
  rintro g as σ Q ⟨a, rfl, hpre, hQ⟩
  refine ⟨Nat.le_of_ble_eq_true rfl, mo_go ok_X12_many (mo_no_ok g _) [4] 20 ?_⟩
  intro K hK
  exact hK _ _ _ _ (lp_X12_many g σ Q a 10 rfl (by omega) hQ 11 0 (by omega) (by omega) trivial)
def mo_hof (σ : mo_M) (m : Int32) : Int32 := if ¬ σ.1 80 0 m.toNatClampNeg = (-1 : Int32) then 2 else if ¬ σ.1 81 0 m.toNatClampNeg = (-1 : Int32) then 1 else 0
def S_X12_hasOf : mo_S := fun as σ Q => ∃ a : Int32, ∃ b : Int32, ∃ c : Int32, as = [.inr (.inr (50, 0)), .inl a, .inl b, .inl c] ∧ (mo_le (σ.1 50 0 12) 100 ∧ ∀ k, k < (σ.1 50 0 12).toNatClampNeg → vp_in (σ.1 60 0 k) 60) ∧ Q (some (.inl (mo_fo (fun k s => mo_ite (σ.1 59 0 k = a ∧ σ.1 63 0 k ≤ c ∧ (σ.1 61 0 k ≤ b ∧ b ≤ σ.1 62 0 k)) (mo_ite (s < mo_hof σ (σ.1 60 0 k)) (mo_hof σ (σ.1 60 0 k)) s) s) 0 (σ.1 50 0 12).toNatClampNeg))) (σ)
theorem m_X12_hasOf : ∀ (as : List mo_V) (σ : mo_M) (P P' : mo_Q), (∀ x τ, P x τ → P' x τ) → S_X12_hasOf as σ P → S_X12_hasOf as σ P' := by
  rintro as σ P P' h ⟨a, b, c, e, hp, hq⟩
  exact ⟨a, b, c, e, hp, h _ _ hq⟩
def cs_X12_hasOf : Nat → mo_C := fun j => match j with
  | 0 => (3, false, 109, 50, S_X12_in)
  | 1 => (2, true, 262, 12, S_X12_hitOf)
  | _ => (0, false, 0, 50, fun _ _ _ => False)
theorem cs_X12_hasOf_ok (g : mo_E) : ∀ j, mo_cok g t_X12_hasOf (cs_X12_hasOf j) ∧ mo_mon (cs_X12_hasOf j) := by
  intro j
  unfold cs_X12_hasOf
  split
  · exact ⟨mo_cokS ct_X12_in (by decide +kernel), m_X12_in⟩
  · exact ⟨mo_cokV ct_X12_hitOf (by decide) ⟨_, _, rfl⟩ (by decide +kernel), m_X12_hitOf⟩
  · exact ⟨mo_cok0 g _, mo_mon0⟩
set_option maxRecDepth 20000 in
set_option maxHeartbeats 2000000 in
theorem lp_X12_hasOf (g : mo_E) (σ : mo_M) (Q : mo_Q) (a b c : Int32) (n : Nat) (hn : σ.1 50 0 12 = nI n) (hle : n ≤ 100) (hin : ∀ k, k < n → vp_in (σ.1 60 0 k) 60) (hQ : Q (some (.inl (mo_fo (fun k s => mo_ite (σ.1 59 0 k = a ∧ σ.1 63 0 k ≤ c ∧ (σ.1 61 0 k ≤ b ∧ b ≤ σ.1 62 0 k)) (mo_ite (s < mo_hof σ (σ.1 60 0 k)) (mo_hof σ (σ.1 60 0 k)) s) s) 0 n))) σ) : ∀ (d k : Nat), n < k + d → k ≤ n → (True) → mo_X g t_X12_hasOf Q 6 [some (.inr (.inr (50, 0))), some (.inl a), some (.inl b), some (.inl c), some (.inl (mo_fo (fun k s => mo_ite (σ.1 59 0 k = a ∧ σ.1 63 0 k ≤ c ∧ (σ.1 61 0 k ≤ b ∧ b ≤ σ.1 62 0 k)) (mo_ite (s < mo_hof σ (σ.1 60 0 k)) (mo_hof σ (σ.1 60 0 k)) s) s) 0 k)), some (.inl (nI k)), none] [] (σ) := by
  intro d
  induction d with
  | zero => intro k h1 h2; omega
  | succ d ih =>
    intro k h1 h2 hinv
    have hkc : (nI k).toNatClampNeg = k := mo_cl (by omega)
    refine mo_go ok_X12_hasOf (cs_X12_hasOf_ok g) [6] 51 ?_
    intro K hK
    refine And.intro (fun (c1 : (σ.1 50 0 12) ≤ (nI k)) => ?_) (fun (c1 : ¬ (σ.1 50 0 12) ≤ (nI k)) => ?_)
    · have hk : n ≤ k := mo_cge hn (by omega) (by omega) c1
      (have e : k = n := (by omega); subst e; exact hQ)
    · have hk : k < n := mo_clt hn (by omega) (by omega) c1
      refine And.intro (show vp_in (nI k) 100 by exact mo_inN (by omega) (by decide)) ?_
      refine And.intro (fun (c2 : ¬ (σ.1 59 0 ((nI k).toNatClampNeg)) = a) => ?_) (fun (c2 : (σ.1 59 0 ((nI k).toNatClampNeg)) = a) => ?_)
      · (have hih := ih (k + 1) (by omega) (by omega) trivial; have e : mo_fo (fun k s => mo_ite (σ.1 59 0 k = a ∧ σ.1 63 0 k ≤ c ∧ (σ.1 61 0 k ≤ b ∧ b ≤ σ.1 62 0 k)) (mo_ite (s < mo_hof σ (σ.1 60 0 k)) (mo_hof σ (σ.1 60 0 k)) s) s) 0 (k + 1) = mo_fo (fun k s => mo_ite (σ.1 59 0 k = a ∧ σ.1 63 0 k ≤ c ∧ (σ.1 61 0 k ≤ b ∧ b ≤ σ.1 62 0 k)) (mo_ite (s < mo_hof σ (σ.1 60 0 k)) (mo_hof σ (σ.1 60 0 k)) s) s) 0 k := mo_ite_f (by ((try simp only [hkc, mo_bl0, Classical.not_not, ← Int32.not_lt] at c2 ⊢); (try clear ih); (try clear hih); clear hK hQ; grind)); rw [nI_succ, e] at hih; refine hK _ _ _ _ (show mo_X g t_X12_hasOf Q 6 [some (.inr (.inr (50, 0))), some (.inl a), some (.inl b), some (.inl c), some (.inl (mo_fo (fun k s => mo_ite (σ.1 59 0 k = a ∧ σ.1 63 0 k ≤ c ∧ (σ.1 61 0 k ≤ b ∧ b ≤ σ.1 62 0 k)) (mo_ite (s < mo_hof σ (σ.1 60 0 k)) (mo_hof σ (σ.1 60 0 k)) s) s) 0 k)), some (.inl ((nI k) + (1 : Int32))), none] [] (σ) from ?_); (try simp only [hkc]); refine mo_wk ?_ hih; exact And.intro rfl (And.intro rfl (And.intro rfl (And.intro rfl (And.intro rfl (And.intro rfl (trivial)))))))
      · refine And.intro (show vp_in (nI k) 100 by exact mo_inN (by omega) (by decide)) ?_
        refine And.intro (fun (c3 : c < (σ.1 63 0 ((nI k).toNatClampNeg))) => ?_) (fun (c3 : ¬ c < (σ.1 63 0 ((nI k).toNatClampNeg))) => ?_)
        · (have hih := ih (k + 1) (by omega) (by omega) trivial; have e : mo_fo (fun k s => mo_ite (σ.1 59 0 k = a ∧ σ.1 63 0 k ≤ c ∧ (σ.1 61 0 k ≤ b ∧ b ≤ σ.1 62 0 k)) (mo_ite (s < mo_hof σ (σ.1 60 0 k)) (mo_hof σ (σ.1 60 0 k)) s) s) 0 (k + 1) = mo_fo (fun k s => mo_ite (σ.1 59 0 k = a ∧ σ.1 63 0 k ≤ c ∧ (σ.1 61 0 k ≤ b ∧ b ≤ σ.1 62 0 k)) (mo_ite (s < mo_hof σ (σ.1 60 0 k)) (mo_hof σ (σ.1 60 0 k)) s) s) 0 k := mo_ite_f (by ((try simp only [hkc, mo_bl0, Classical.not_not, ← Int32.not_lt] at c2 c3 ⊢); (try clear ih); (try clear hih); clear hK hQ; grind)); rw [nI_succ, e] at hih; refine hK _ _ _ _ (show mo_X g t_X12_hasOf Q 6 [some (.inr (.inr (50, 0))), some (.inl a), some (.inl b), some (.inl c), some (.inl (mo_fo (fun k s => mo_ite (σ.1 59 0 k = a ∧ σ.1 63 0 k ≤ c ∧ (σ.1 61 0 k ≤ b ∧ b ≤ σ.1 62 0 k)) (mo_ite (s < mo_hof σ (σ.1 60 0 k)) (mo_hof σ (σ.1 60 0 k)) s) s) 0 k)), some (.inl ((nI k) + (1 : Int32))), none] [] (σ) from ?_); (try simp only [hkc]); refine mo_wk ?_ hih; exact And.intro rfl (And.intro rfl (And.intro rfl (And.intro rfl (And.intro rfl (And.intro rfl (trivial)))))))
        · refine And.intro (show vp_in (nI k) 100 by exact mo_inN (by omega) (by decide)) ?_
          refine And.intro (show vp_in (nI k) 100 by exact mo_inN (by omega) (by decide)) ?_
          refine Exists.intro b (Exists.intro (σ.1 61 0 ((nI k).toNatClampNeg)) (Exists.intro (σ.1 62 0 ((nI k).toNatClampNeg)) (And.intro rfl (And.intro (show True by trivial) ?_))))
          refine And.intro (fun (c4 : ¬ (mo_bl ((σ.1 61 0 ((nI k).toNatClampNeg)) ≤ b ∧ b ≤ (σ.1 62 0 ((nI k).toNatClampNeg)))) = 0) => ?_) (fun (c4 : (mo_bl ((σ.1 61 0 ((nI k).toNatClampNeg)) ≤ b ∧ b ≤ (σ.1 62 0 ((nI k).toNatClampNeg)))) = 0) => ?_)
          · refine And.intro (show vp_in (nI k) 100 by exact mo_inN (by omega) (by decide)) ?_
            refine Exists.intro (σ.1 60 0 ((nI k).toNatClampNeg)) (And.intro rfl (And.intro (show vp_in (σ.1 60 0 ((nI k).toNatClampNeg)) 60 by rw [hkc]; exact hin k hk) ?_))
            refine And.intro (fun (c5 : (mo_hof σ (σ.1 60 0 ((nI k).toNatClampNeg))) ≤ (mo_fo (fun k s => mo_ite (σ.1 59 0 k = a ∧ σ.1 63 0 k ≤ c ∧ (σ.1 61 0 k ≤ b ∧ b ≤ σ.1 62 0 k)) (mo_ite (s < mo_hof σ (σ.1 60 0 k)) (mo_hof σ (σ.1 60 0 k)) s) s) 0 k)) => ?_) (fun (c5 : ¬ (mo_hof σ (σ.1 60 0 ((nI k).toNatClampNeg))) ≤ (mo_fo (fun k s => mo_ite (σ.1 59 0 k = a ∧ σ.1 63 0 k ≤ c ∧ (σ.1 61 0 k ≤ b ∧ b ≤ σ.1 62 0 k)) (mo_ite (s < mo_hof σ (σ.1 60 0 k)) (mo_hof σ (σ.1 60 0 k)) s) s) 0 k)) => ?_)
            · (have hih := ih (k + 1) (by omega) (by omega) trivial; have e : mo_fo (fun k s => mo_ite (σ.1 59 0 k = a ∧ σ.1 63 0 k ≤ c ∧ (σ.1 61 0 k ≤ b ∧ b ≤ σ.1 62 0 k)) (mo_ite (s < mo_hof σ (σ.1 60 0 k)) (mo_hof σ (σ.1 60 0 k)) s) s) 0 (k + 1) = mo_fo (fun k s => mo_ite (σ.1 59 0 k = a ∧ σ.1 63 0 k ≤ c ∧ (σ.1 61 0 k ≤ b ∧ b ≤ σ.1 62 0 k)) (mo_ite (s < mo_hof σ (σ.1 60 0 k)) (mo_hof σ (σ.1 60 0 k)) s) s) 0 k := (mo_ite_t (by ((try simp only [hkc, mo_bl0, Classical.not_not, ← Int32.not_lt] at c2 c3 c4 ⊢); (try clear ih); (try clear hih); clear hK hQ; grind))).trans (mo_ite_f (by ((try simp only [hkc, mo_bl0, Classical.not_not, ← Int32.not_lt] at c5 ⊢); (try clear ih); (try clear hih); clear hK hQ; grind))); rw [nI_succ, e] at hih; refine hK _ _ _ _ (show mo_X g t_X12_hasOf Q 6 [some (.inr (.inr (50, 0))), some (.inl a), some (.inl b), some (.inl c), some (.inl (mo_fo (fun k s => mo_ite (σ.1 59 0 k = a ∧ σ.1 63 0 k ≤ c ∧ (σ.1 61 0 k ≤ b ∧ b ≤ σ.1 62 0 k)) (mo_ite (s < mo_hof σ (σ.1 60 0 k)) (mo_hof σ (σ.1 60 0 k)) s) s) 0 k)), some (.inl ((nI k) + (1 : Int32))), some (.inl (mo_hof σ (σ.1 60 0 ((nI k).toNatClampNeg))))] [] (σ) from ?_); (try simp only [hkc]); refine mo_wk ?_ hih; exact And.intro rfl (And.intro rfl (And.intro rfl (And.intro rfl (And.intro rfl (And.intro rfl (trivial)))))))
            · (have hih := ih (k + 1) (by omega) (by omega) trivial; have e : mo_fo (fun k s => mo_ite (σ.1 59 0 k = a ∧ σ.1 63 0 k ≤ c ∧ (σ.1 61 0 k ≤ b ∧ b ≤ σ.1 62 0 k)) (mo_ite (s < mo_hof σ (σ.1 60 0 k)) (mo_hof σ (σ.1 60 0 k)) s) s) 0 (k + 1) = mo_hof σ (σ.1 60 0 (k)) := (mo_ite_t (by ((try simp only [hkc, mo_bl0, Classical.not_not, ← Int32.not_lt] at c2 c3 c4 ⊢); (try clear ih); (try clear hih); clear hK hQ; grind))).trans (mo_ite_t (by ((try simp only [hkc, mo_bl0, Classical.not_not, ← Int32.not_lt] at c5 ⊢); (try clear ih); (try clear hih); clear hK hQ; grind))); rw [nI_succ, e] at hih; refine hK _ _ _ _ (show mo_X g t_X12_hasOf Q 6 [some (.inr (.inr (50, 0))), some (.inl a), some (.inl b), some (.inl c), some (.inl (mo_hof σ (σ.1 60 0 ((nI k).toNatClampNeg)))), some (.inl ((nI k) + (1 : Int32))), some (.inl (mo_hof σ (σ.1 60 0 ((nI k).toNatClampNeg))))] [] (σ) from ?_); (try simp only [hkc]); refine mo_wk ?_ hih; exact And.intro rfl (And.intro rfl (And.intro rfl (And.intro rfl (And.intro rfl (And.intro rfl (trivial)))))))
          · (have hih := ih (k + 1) (by omega) (by omega) trivial; have e : mo_fo (fun k s => mo_ite (σ.1 59 0 k = a ∧ σ.1 63 0 k ≤ c ∧ (σ.1 61 0 k ≤ b ∧ b ≤ σ.1 62 0 k)) (mo_ite (s < mo_hof σ (σ.1 60 0 k)) (mo_hof σ (σ.1 60 0 k)) s) s) 0 (k + 1) = mo_fo (fun k s => mo_ite (σ.1 59 0 k = a ∧ σ.1 63 0 k ≤ c ∧ (σ.1 61 0 k ≤ b ∧ b ≤ σ.1 62 0 k)) (mo_ite (s < mo_hof σ (σ.1 60 0 k)) (mo_hof σ (σ.1 60 0 k)) s) s) 0 k := mo_ite_f (by ((try simp only [hkc, mo_bl0, Classical.not_not, ← Int32.not_lt] at c2 c3 c4 ⊢); (try clear ih); (try clear hih); clear hK hQ; grind)); rw [nI_succ, e] at hih; refine hK _ _ _ _ (show mo_X g t_X12_hasOf Q 6 [some (.inr (.inr (50, 0))), some (.inl a), some (.inl b), some (.inl c), some (.inl (mo_fo (fun k s => mo_ite (σ.1 59 0 k = a ∧ σ.1 63 0 k ≤ c ∧ (σ.1 61 0 k ≤ b ∧ b ≤ σ.1 62 0 k)) (mo_ite (s < mo_hof σ (σ.1 60 0 k)) (mo_hof σ (σ.1 60 0 k)) s) s) 0 k)), some (.inl ((nI k) + (1 : Int32))), none] [] (σ) from ?_); (try simp only [hkc]); refine mo_wk ?_ hih; exact And.intro rfl (And.intro rfl (And.intro rfl (And.intro rfl (And.intro rfl (And.intro rfl (trivial)))))))
set_option maxRecDepth 20000 in
set_option maxHeartbeats 2000000 in
theorem ct_X12_hasOf : mo_ct yX12_hasOf t_X12_hasOf S_X12_hasOf := by
  refine mo_ct_of (by decide) rfl ?_
  rintro g as σ Q ⟨a, b, c, rfl, hpre, hQ⟩
  refine ⟨Nat.le_of_ble_eq_true rfl, mo_go ok_X12_hasOf (cs_X12_hasOf_ok g) [6] 51 ?_⟩
  intro K hK
  exact hK _ _ _ _ (lp_X12_hasOf g σ Q a b c _ hpre.1.1 hpre.1.2 hpre.2 hQ ((σ.1 50 0 12).toNatClampNeg + 1) 0 (by omega) (by omega) trivial)
