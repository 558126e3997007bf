theorem mo_wIrI (σ : mo_M) (r : Nat → Int32) (v : Int32) : mo_wI (mo_rowI σ 71 0 r) 50 0 28 v = mo_rowI (mo_wI σ 50 0 28 v) 71 0 r := by
  refine Prod.ext ?_ rfl
  funext a b c
  show (if a = 50 ∧ b = 0 ∧ c = 28 then v else (if a = 71 ∧ b = 0 then r else σ.1 a b) c) = (if a = 71 ∧ b = 0 then r else fun c => if a = 50 ∧ b = 0 ∧ c = 28 then v else σ.1 a b c) c
  by_cases h : a = 71 ∧ b = 0
  · rw [if_pos h, if_pos h, if_neg (by omega)]
  · rw [if_neg h, if_neg h]
def cs_X12_gathers : Nat → mo_C := fun j => match j with
  | 0 => (4, true, 169, 12, S_X12_isQuarrel)
  | _ => (0, false, 0, 50, fun _ _ _ => False)
theorem cs_X12_gathers_ok (g : mo_E) : ∀ j, mo_cok g t_X12_gathers (cs_X12_gathers j) ∧ mo_mon (cs_X12_gathers j) := by
  intro j
  unfold cs_X12_gathers
  split
  · exact ⟨mo_cokV ct_X12_isQuarrel (by decide) ⟨_, _, rfl⟩ (by decide +kernel), m_X12_isQuarrel⟩
  · exact ⟨mo_cok0 g _, mo_mon0⟩
set_option maxRecDepth 20000 in
set_option maxHeartbeats 2000000 in
theorem lq_X12_gathers (g : mo_E) (σ : mo_M) (Q : mo_Q) (a jj A B lo : Int32) (r0 : Nat → Int32) (n : Nat) (hn : (30 : Int32) = nI n) (hle : n ≤ 30) (hX : mo_X g t_X12_gathers Q 178 [some (.inr (.inr (50, 0))), some (.inl a), some (.inl jj), some (.inl A), some (.inl B), some (.inl lo), none] [] (mo_rowI σ 71 0 (mo_fo (fun i r => mo_ite (r i = A ∨ r i = B) (upd r i lo) r) r0 n))) : ∀ (d k : Nat), n < k + d → k ≤ n → (True) → mo_X g t_X12_gathers Q 133 [some (.inr (.inr (50, 0))), some (.inl a), some (.inl jj), some (.inl A), some (.inl B), some (.inl lo), some (.inl (nI k))] [] (mo_rowI σ 71 0 (mo_fo (fun i r => mo_ite (r i = A ∨ r i = B) (upd r i lo) r) r0 k)) := by
  intro d
  induction d with
  | zero => intro k h1 h2; omega
  | succ d ih =>
    intro k h1 h2 hinv
    have hkc : (nI k).toNatClampNeg = k := mo_cl (by omega)
    refine mo_go ok_X12_gathers (cs_X12_gathers_ok g) [133, 178] 101 ?_
    intro K hK
    refine And.intro (fun (c1 : (30 : Int32) ≤ (nI k)) => ?_) (fun (c1 : ¬ (30 : Int32) ≤ (nI k)) => ?_)
    · have hk : n ≤ k := mo_cge hn (by omega) (by omega) c1
      (have e : k = n := (by omega); subst e; refine hK _ _ _ _ (mo_wk ?_ hX); exact And.intro rfl (And.intro rfl (And.intro rfl (And.intro rfl (And.intro rfl (And.intro rfl (trivial)))))))
    · have hk : k < n := mo_clt hn (by omega) (by omega) c1
      refine And.intro (show vp_in (nI k) 30 by exact mo_inN (by omega) (by decide)) ?_
      refine And.intro (fun (c2 : ((mo_fo (fun i r => mo_ite (r i = A ∨ r i = B) (upd r i lo) r) r0 k) ((nI k).toNatClampNeg)) = A) => ?_) (fun (c2 : ¬ ((mo_fo (fun i r => mo_ite (r i = A ∨ r i = B) (upd r i lo) r) r0 k) ((nI k).toNatClampNeg)) = A) => ?_)
      · refine And.intro (show vp_in (nI k) 30 by exact mo_inN (by omega) (by decide)) ?_
        (have hih := ih (k + 1) (by omega) (by omega) trivial; have e : mo_fo (fun i r => mo_ite (r i = A ∨ r i = B) (upd r i lo) r) r0 (k + 1) = upd (mo_fo (fun i r => mo_ite (r i = A ∨ r i = B) (upd r i lo) r) r0 k) k lo := mo_ite_t (by ((try simp only [hkc, mo_bl0, Classical.not_not, ← Int32.not_lt] at c2 ⊢); (try clear ih); (try clear hih); (try clear hX); clear hK; grind)); rw [nI_succ, e] at hih; refine hK _ _ _ _ (show mo_X g t_X12_gathers Q 133 [some (.inr (.inr (50, 0))), some (.inl a), some (.inl jj), some (.inl A), some (.inl B), some (.inl lo), some (.inl ((nI k) + (1 : Int32)))] [] (mo_wI (mo_rowI σ 71 0 (mo_fo (fun i r => mo_ite (r i = A ∨ r i = B) (upd r i lo) r) r0 k)) 71 0 ((nI k).toNatClampNeg) lo) from ?_); rw [hkc, mo_rowI_w]; exact hih)
      · refine And.intro (show vp_in (nI k) 30 by exact mo_inN (by omega) (by decide)) ?_
        refine And.intro (fun (c3 : ¬ ((mo_fo (fun i r => mo_ite (r i = A ∨ r i = B) (upd r i lo) r) r0 k) ((nI k).toNatClampNeg)) = B) => ?_) (fun (c3 : ((mo_fo (fun i r => mo_ite (r i = A ∨ r i = B) (upd r i lo) r) r0 k) ((nI k).toNatClampNeg)) = B) => ?_)
        · (have hih := ih (k + 1) (by omega) (by omega) trivial; have e : mo_fo (fun i r => mo_ite (r i = A ∨ r i = B) (upd r i lo) r) r0 (k + 1) = mo_fo (fun i r => mo_ite (r i = A ∨ r i = B) (upd r i lo) r) r0 k := mo_ite_f (by ((try simp only [hkc, mo_bl0, Classical.not_not, ← Int32.not_lt] at c2 c3 ⊢); (try clear ih); (try clear hih); (try clear hX); clear hK; grind)); rw [nI_succ, e] at hih; exact hK _ _ _ _ hih)
        · refine And.intro (show vp_in (nI k) 30 by exact mo_inN (by omega) (by decide)) ?_
          (have hih := ih (k + 1) (by omega) (by omega) trivial; have e : mo_fo (fun i r => mo_ite (r i = A ∨ r i = B) (upd r i lo) r) r0 (k + 1) = upd (mo_fo (fun i r => mo_ite (r i = A ∨ r i = B) (upd r i lo) r) r0 k) k lo := mo_ite_t (by ((try simp only [hkc, mo_bl0, Classical.not_not, ← Int32.not_lt] at c2 c3 ⊢); (try clear ih); (try clear hih); (try clear hX); clear hK; grind)); rw [nI_succ, e] at hih; refine hK _ _ _ _ (show mo_X g t_X12_gathers Q 133 [some (.inr (.inr (50, 0))), some (.inl a), some (.inl jj), some (.inl A), some (.inl B), some (.inl lo), some (.inl ((nI k) + (1 : Int32)))] [] (mo_wI (mo_rowI σ 71 0 (mo_fo (fun i r => mo_ite (r i = A ∨ r i = B) (upd r i lo) r) r0 k)) 71 0 ((nI k).toNatClampNeg) lo) from ?_); rw [hkc, mo_rowI_w]; exact hih)
noncomputable def mo_gat (σ : mo_M) (a : Int32) : Nat → (Nat → Int32) × Int32 := mo_fo (fun k (p : (Nat → Int32) × Int32) => mo_ite (σ.1 67 0 k = 0 ∧ σ.1 66 0 k ≤ a) (mo_ite (p.1 (σ.1 64 0 k).toNatClampNeg = p.1 (σ.1 65 0 k).toNatClampNeg) p (mo_ite (∃ u, u < (σ.1 50 0 19).toNatClampNeg ∧ σ.1 70 0 u ≤ a ∧ ((p.1 (σ.1 68 0 u).toNatClampNeg = p.1 (σ.1 64 0 k).toNatClampNeg ∧ p.1 (σ.1 69 0 u).toNatClampNeg = p.1 (σ.1 65 0 k).toNatClampNeg) ∨ (p.1 (σ.1 68 0 u).toNatClampNeg = p.1 (σ.1 65 0 k).toNatClampNeg ∧ p.1 (σ.1 69 0 u).toNatClampNeg = p.1 (σ.1 64 0 k).toNatClampNeg))) (p.1, p.2 + 1) (mo_fo (fun i r => mo_ite (r i  = (p.1 (σ.1 64 0 k).toNatClampNeg) ∨ r i = (p.1 (σ.1 65 0 k).toNatClampNeg)) (upd r i (mo_ite (p.1 (σ.1 64 0 k).toNatClampNeg < p.1 (σ.1 65 0 k).toNatClampNeg) (p.1 (σ.1 64 0 k).toNatClampNeg) (p.1 (σ.1 65 0 k).toNatClampNeg))) r) p.1 30, p.2))) p) (mo_fo (fun k r => upd r k (nI k)) (σ.1 71 0) 30, 0)
set_option maxRecDepth 20000 in
set_option maxHeartbeats 2000000 in
theorem lp_X12_gathers (g : mo_E) (σ : mo_M) (Q : mo_Q) (a : Int32) (n : Nat) (hn : σ.1 50 0 18 = nI n) (hle : n ≤ 40) (hu : mo_le (σ.1 50 0 19) 40 ∧ ∀ u, u < (σ.1 50 0 19).toNatClampNeg → vp_in (σ.1 68 0 u) 30 ∧ vp_in (σ.1 69 0 u) 30) (hin : ∀ k, k < n → vp_in (σ.1 64 0 k) 30 ∧ vp_in (σ.1 65 0 k) 30) (hQ : Q none (mo_rowI (mo_wI σ 50 0 28 (mo_gat σ a n).2) 71 0 (mo_gat σ a n).1)) : ∀ (d k : Nat), n < k + d → k ≤ n → (True) → mo_X g t_X12_gathers Q 28 [some (.inr (.inr (50, 0))), some (.inl a), some (.inl (nI k)), none, none, none, none] [] (mo_rowI (mo_wI σ 50 0 28 ((mo_gat σ a k).2)) 71 0 ((mo_gat σ a k).1)) := by
  intro d
  induction d with
  | zero => intro k h1 h2; omega
  | succ d ih =>
    intro k h1 h2 hinv
    have hkc : (nI k).toNatClampNeg = k := mo_cl (by omega)
    refine mo_go ok_X12_gathers (cs_X12_gathers_ok g) [28, 133] 101 ?_
    intro K hK
    refine And.intro (fun (c1 : (σ.1 50 0 18) ≤ (nI k)) => ?_) (fun (c1 : ¬ (σ.1 50 0 18) ≤ (nI k)) => ?_)
    · have hk : n ≤ k := mo_cge hn (by omega) (by omega) c1
      (have e : k = n := (by omega); subst e; exact hQ)
    · have hk : k < n := mo_clt hn (by omega) (by omega) c1
      refine And.intro (show vp_in (nI k) 40 by exact mo_inN (by omega) (by decide)) ?_
      refine And.intro (fun (c2 : ¬ (σ.1 67 0 ((nI k).toNatClampNeg)) = 0) => ?_) (fun (c2 : (σ.1 67 0 ((nI k).toNatClampNeg)) = 0) => ?_)
      · (have hih := ih (k + 1) (by omega) (by omega) trivial; have e : mo_gat σ a (k + 1) = (mo_gat σ a k) := mo_ite_f (by ((try simp only [hkc, mo_bl0, Classical.not_not, ← Int32.not_lt] at c2 ⊢); (try clear ih); (try clear hih); clear hK hQ; grind)); rw [nI_succ, e] at hih; exact hK _ _ _ _ hih)
      · refine And.intro (show vp_in (nI k) 40 by exact mo_inN (by omega) (by decide)) ?_
        refine And.intro (fun (c3 : (σ.1 66 0 ((nI k).toNatClampNeg)) ≤ a) => ?_) (fun (c3 : ¬ (σ.1 66 0 ((nI k).toNatClampNeg)) ≤ a) => ?_)
        · refine And.intro (show vp_in (nI k) 40 by exact mo_inN (by omega) (by decide)) ?_
          refine And.intro (show vp_in (σ.1 64 0 ((nI k).toNatClampNeg)) 30 by rw [hkc]; exact (hin k hk).1) ?_
          refine And.intro (show vp_in (nI k) 40 by exact mo_inN (by omega) (by decide)) ?_
          refine And.intro (show vp_in (σ.1 65 0 ((nI k).toNatClampNeg)) 30 by rw [hkc]; exact (hin k hk).2) ?_
          refine And.intro (fun (c4 : ¬ (((mo_gat σ a k).1) ((σ.1 64 0 ((nI k).toNatClampNeg)).toNatClampNeg)) = (((mo_gat σ a k).1) ((σ.1 65 0 ((nI k).toNatClampNeg)).toNatClampNeg))) => ?_) (fun (c4 : (((mo_gat σ a k).1) ((σ.1 64 0 ((nI k).toNatClampNeg)).toNatClampNeg)) = (((mo_gat σ a k).1) ((σ.1 65 0 ((nI k).toNatClampNeg)).toNatClampNeg))) => ?_)
          · refine Exists.intro (((mo_gat σ a k).1) ((σ.1 64 0 ((nI k).toNatClampNeg)).toNatClampNeg)) (Exists.intro (((mo_gat σ a k).1) ((σ.1 65 0 ((nI k).toNatClampNeg)).toNatClampNeg)) (Exists.intro a (And.intro rfl (And.intro (show mo_le ((mo_rowI (mo_wI σ 50 0 28 ((mo_gat σ a k).2)) 71 0 ((mo_gat σ a k).1)).1 50 0 19) 40 ∧ ∀ u_, u_ < ((mo_rowI (mo_wI σ 50 0 28 ((mo_gat σ a k).2)) 71 0 ((mo_gat σ a k).1)).1 50 0 19).toNatClampNeg → vp_in (σ.1 68 0 u_) 30 ∧ vp_in (σ.1 69 0 u_) 30 by exact hu) ?_))))
            refine And.intro (fun (c5 : (mo_bl (∃ u_, u_ < ((mo_rowI (mo_wI σ 50 0 28 ((mo_gat σ a k).2)) 71 0 ((mo_gat σ a k).1)).1 50 0 19).toNatClampNeg ∧ σ.1 70 0 u_ ≤ a ∧ (((mo_rowI (mo_wI σ 50 0 28 ((mo_gat σ a k).2)) 71 0 ((mo_gat σ a k).1)).1 71 0 (σ.1 68 0 u_).toNatClampNeg = (((mo_gat σ a k).1) ((σ.1 64 0 ((nI k).toNatClampNeg)).toNatClampNeg)) ∧ (mo_rowI (mo_wI σ 50 0 28 ((mo_gat σ a k).2)) 71 0 ((mo_gat σ a k).1)).1 71 0 (σ.1 69 0 u_).toNatClampNeg = (((mo_gat σ a k).1) ((σ.1 65 0 ((nI k).toNatClampNeg)).toNatClampNeg))) ∨ ((mo_rowI (mo_wI σ 50 0 28 ((mo_gat σ a k).2)) 71 0 ((mo_gat σ a k).1)).1 71 0 (σ.1 68 0 u_).toNatClampNeg = (((mo_gat σ a k).1) ((σ.1 65 0 ((nI k).toNatClampNeg)).toNatClampNeg)) ∧ (mo_rowI (mo_wI σ 50 0 28 ((mo_gat σ a k).2)) 71 0 ((mo_gat σ a k).1)).1 71 0 (σ.1 69 0 u_).toNatClampNeg = (((mo_gat σ a k).1) ((σ.1 64 0 ((nI k).toNatClampNeg)).toNatClampNeg)))))) = 0) => ?_) (fun (c5 : ¬ (mo_bl (∃ u_, u_ < ((mo_rowI (mo_wI σ 50 0 28 ((mo_gat σ a k).2)) 71 0 ((mo_gat σ a k).1)).1 50 0 19).toNatClampNeg ∧ σ.1 70 0 u_ ≤ a ∧ (((mo_rowI (mo_wI σ 50 0 28 ((mo_gat σ a k).2)) 71 0 ((mo_gat σ a k).1)).1 71 0 (σ.1 68 0 u_).toNatClampNeg = (((mo_gat σ a k).1) ((σ.1 64 0 ((nI k).toNatClampNeg)).toNatClampNeg)) ∧ (mo_rowI (mo_wI σ 50 0 28 ((mo_gat σ a k).2)) 71 0 ((mo_gat σ a k).1)).1 71 0 (σ.1 69 0 u_).toNatClampNeg = (((mo_gat σ a k).1) ((σ.1 65 0 ((nI k).toNatClampNeg)).toNatClampNeg))) ∨ ((mo_rowI (mo_wI σ 50 0 28 ((mo_gat σ a k).2)) 71 0 ((mo_gat σ a k).1)).1 71 0 (σ.1 68 0 u_).toNatClampNeg = (((mo_gat σ a k).1) ((σ.1 65 0 ((nI k).toNatClampNeg)).toNatClampNeg)) ∧ (mo_rowI (mo_wI σ 50 0 28 ((mo_gat σ a k).2)) 71 0 ((mo_gat σ a k).1)).1 71 0 (σ.1 69 0 u_).toNatClampNeg = (((mo_gat σ a k).1) ((σ.1 64 0 ((nI k).toNatClampNeg)).toNatClampNeg)))))) = 0) => ?_)
            · refine And.intro (fun (c6 : (((mo_gat σ a k).1) ((σ.1 65 0 ((nI k).toNatClampNeg)).toNatClampNeg)) ≤ (((mo_gat σ a k).1) ((σ.1 64 0 ((nI k).toNatClampNeg)).toNatClampNeg))) => ?_) (fun (c6 : ¬ (((mo_gat σ a k).1) ((σ.1 65 0 ((nI k).toNatClampNeg)).toNatClampNeg)) ≤ (((mo_gat σ a k).1) ((σ.1 64 0 ((nI k).toNatClampNeg)).toNatClampNeg))) => ?_)
              · (have hih := ih (k + 1) (by omega) (by omega) trivial; simp only [hkc] at c4 c5 c6; have e : mo_gat σ a (k + 1) = (mo_fo (fun i r => mo_ite (r i  = ((mo_gat σ a k).1 (σ.1 64 0 k).toNatClampNeg) ∨ r i = ((mo_gat σ a k).1 (σ.1 65 0 k).toNatClampNeg)) (upd r i (mo_ite (((mo_gat σ a k).1 (σ.1 64 0 k).toNatClampNeg) < ((mo_gat σ a k).1 (σ.1 65 0 k).toNatClampNeg)) ((mo_gat σ a k).1 (σ.1 64 0 k).toNatClampNeg) ((mo_gat σ a k).1 (σ.1 65 0 k).toNatClampNeg))) r) (mo_gat σ a k).1 30, (mo_gat σ a k).2) := (mo_ite_t (by ((try simp only [hkc, mo_bl0, Classical.not_not, ← Int32.not_lt] at c2 c3 ⊢); (try clear ih); (try clear hih); clear hK hQ; grind))).trans ((mo_ite_f c4).trans (mo_ite_f (mo_bl0.mp c5))); rw [show mo_ite (((mo_gat σ a k).1 (σ.1 64 0 k).toNatClampNeg) < ((mo_gat σ a k).1 (σ.1 65 0 k).toNatClampNeg)) ((mo_gat σ a k).1 (σ.1 64 0 k).toNatClampNeg) ((mo_gat σ a k).1 (σ.1 65 0 k).toNatClampNeg) = ((mo_gat σ a k).1 (σ.1 65 0 k).toNatClampNeg) from mo_ite_f (Int32.not_lt.mpr c6)] at e; rw [nI_succ, e] at hih; refine hK _ _ _ _ (show mo_X g t_X12_gathers Q 133 [some (.inr (.inr (50, 0))), some (.inl a), some (.inl (nI k)), some (.inl (((mo_gat σ a k).1) ((σ.1 64 0 ((nI k).toNatClampNeg)).toNatClampNeg))), some (.inl (((mo_gat σ a k).1) ((σ.1 65 0 ((nI k).toNatClampNeg)).toNatClampNeg))), some (.inl (((mo_gat σ a k).1) ((σ.1 65 0 ((nI k).toNatClampNeg)).toNatClampNeg))), some (.inl (0 : Int32))] [] (mo_rowI (mo_wI σ 50 0 28 ((mo_gat σ a k).2)) 71 0 ((mo_gat σ a k).1)) from ?_); simp only [hkc]; exact lq_X12_gathers g (mo_wI σ 50 0 28 (mo_gat σ a k).2) Q a (nI k) ((mo_gat σ a k).1 (σ.1 64 0 k).toNatClampNeg) ((mo_gat σ a k).1 (σ.1 65 0 k).toNatClampNeg) ((mo_gat σ a k).1 (σ.1 65 0 k).toNatClampNeg) (mo_gat σ a k).1 30 rfl (by omega) (mo_go ok_X12_gathers (cs_X12_gathers_ok g) [28] 5 (fun K hK => by (refine hK _ _ _ _ (mo_wk ?_ hih); exact (And.intro rfl (And.intro rfl (And.intro rfl trivial)))))) 31 0 (by omega) (by omega) trivial)
              · (have hih := ih (k + 1) (by omega) (by omega) trivial; simp only [hkc] at c4 c5 c6; have e : mo_gat σ a (k + 1) = (mo_fo (fun i r => mo_ite (r i  = ((mo_gat σ a k).1 (σ.1 64 0 k).toNatClampNeg) ∨ r i = ((mo_gat σ a k).1 (σ.1 65 0 k).toNatClampNeg)) (upd r i (mo_ite (((mo_gat σ a k).1 (σ.1 64 0 k).toNatClampNeg) < ((mo_gat σ a k).1 (σ.1 65 0 k).toNatClampNeg)) ((mo_gat σ a k).1 (σ.1 64 0 k).toNatClampNeg) ((mo_gat σ a k).1 (σ.1 65 0 k).toNatClampNeg))) r) (mo_gat σ a k).1 30, (mo_gat σ a k).2) := (mo_ite_t (by ((try simp only [hkc, mo_bl0, Classical.not_not, ← Int32.not_lt] at c2 c3 ⊢); (try clear ih); (try clear hih); clear hK hQ; grind))).trans ((mo_ite_f c4).trans (mo_ite_f (mo_bl0.mp c5))); rw [show mo_ite (((mo_gat σ a k).1 (σ.1 64 0 k).toNatClampNeg) < ((mo_gat σ a k).1 (σ.1 65 0 k).toNatClampNeg)) ((mo_gat σ a k).1 (σ.1 64 0 k).toNatClampNeg) ((mo_gat σ a k).1 (σ.1 65 0 k).toNatClampNeg) = ((mo_gat σ a k).1 (σ.1 64 0 k).toNatClampNeg) from mo_ite_t (Int32.not_le.mp c6)] at e; rw [nI_succ, e] at hih; refine hK _ _ _ _ (show mo_X g t_X12_gathers Q 133 [some (.inr (.inr (50, 0))), some (.inl a), some (.inl (nI k)), some (.inl (((mo_gat σ a k).1) ((σ.1 64 0 ((nI k).toNatClampNeg)).toNatClampNeg))), some (.inl (((mo_gat σ a k).1) ((σ.1 65 0 ((nI k).toNatClampNeg)).toNatClampNeg))), some (.inl (((mo_gat σ a k).1) ((σ.1 64 0 ((nI k).toNatClampNeg)).toNatClampNeg))), some (.inl (0 : Int32))] [] (mo_rowI (mo_wI σ 50 0 28 ((mo_gat σ a k).2)) 71 0 ((mo_gat σ a k).1)) from ?_); simp only [hkc]; exact lq_X12_gathers g (mo_wI σ 50 0 28 (mo_gat σ a k).2) Q a (nI k) ((mo_gat σ a k).1 (σ.1 64 0 k).toNatClampNeg) ((mo_gat σ a k).1 (σ.1 65 0 k).toNatClampNeg) ((mo_gat σ a k).1 (σ.1 64 0 k).toNatClampNeg) (mo_gat σ a k).1 30 rfl (by omega) (mo_go ok_X12_gathers (cs_X12_gathers_ok g) [28] 5 (fun K hK => by (refine hK _ _ _ _ (mo_wk ?_ hih); exact (And.intro rfl (And.intro rfl (And.intro rfl trivial)))))) 31 0 (by omega) (by omega) trivial)
            · (have hih := ih (k + 1) (by omega) (by omega) trivial; simp only [hkc] at c4 c5; have e : mo_gat σ a (k + 1) = ((mo_gat σ a k).1, (mo_gat σ a k).2 + 1) := (mo_ite_t (by ((try simp only [hkc, mo_bl0, Classical.not_not, ← Int32.not_lt] at c2 c3 ⊢); (try clear ih); (try clear hih); clear hK hQ; grind))).trans ((mo_ite_f c4).trans (mo_ite_t (mo_blT c5))); rw [nI_succ, e] at hih; refine hK _ _ _ _ (show mo_X g t_X12_gathers Q 28 [some (.inr (.inr (50, 0))), some (.inl a), some (.inl ((nI k) + (1 : Int32))), some (.inl (((mo_gat σ a k).1) ((σ.1 64 0 ((nI k).toNatClampNeg)).toNatClampNeg))), some (.inl (((mo_gat σ a k).1) ((σ.1 65 0 ((nI k).toNatClampNeg)).toNatClampNeg))), none, none] [] (mo_wI (mo_rowI (mo_wI σ 50 0 28 ((mo_gat σ a k).2)) 71 0 ((mo_gat σ a k).1)) 50 0 28 (((mo_gat σ a k).2) + (1 : Int32))) from ?_); rw [mo_wIrI, mo_wIwI]; refine mo_wk ?_ hih; exact And.intro rfl (And.intro rfl (And.intro rfl (trivial))))
          · (have hih := ih (k + 1) (by omega) (by omega) trivial; simp only [hkc] at c4; have e : mo_gat σ a (k + 1) = (mo_gat σ a k) := (mo_ite_t (by ((try simp only [hkc, mo_bl0, Classical.not_not, ← Int32.not_lt] at c2 c3 ⊢); (try clear ih); (try clear hih); clear hK hQ; grind))).trans (mo_ite_t c4); rw [nI_succ, e] at hih; refine hK _ _ _ _ (show mo_X g t_X12_gathers Q 28 [some (.inr (.inr (50, 0))), some (.inl a), some (.inl ((nI k) + (1 : Int32))), some (.inl (((mo_gat σ a k).1) ((σ.1 64 0 ((nI k).toNatClampNeg)).toNatClampNeg))), some (.inl (((mo_gat σ a k).1) ((σ.1 65 0 ((nI k).toNatClampNeg)).toNatClampNeg))), none, none] [] (mo_rowI (mo_wI σ 50 0 28 ((mo_gat σ a k).2)) 71 0 ((mo_gat σ a k).1)) from ?_); refine mo_wk ?_ hih; exact And.intro rfl (And.intro rfl (And.intro rfl (trivial))))
        · (have hih := ih (k + 1) (by omega) (by omega) trivial; have e : mo_gat σ a (k + 1) = (mo_gat σ a k) := mo_ite_f (by ((try simp only [hkc, mo_bl0, Classical.not_not, ← Int32.not_lt] at c2 c3 ⊢); (try clear ih); (try clear hih); clear hK hQ; grind)); rw [nI_succ, e] at hih; exact hK _ _ _ _ hih)
set_option maxRecDepth 20000 in
set_option maxHeartbeats 2000000 in
theorem li_X12_gathers (g : mo_E) (σ : mo_M) (Q : mo_Q) (a : Int32) (n : Nat) (hn : (30 : Int32) = nI n) (hle : n ≤ 30) (hX : mo_X g t_X12_gathers Q 28 [some (.inr (.inr (50, 0))), some (.inl a), some (.inl (0 : Int32)), none, none, none, none] [] (mo_rowI (mo_wI σ 50 0 28 0) 71 0 (mo_fo (fun k r => upd r k (nI k)) (σ.1 71 0) n))) : ∀ (d k : Nat), n < k + d → k ≤ n → (True) → mo_X g t_X12_gathers Q 7 [some (.inr (.inr (50, 0))), some (.inl a), some (.inl (nI k)), none, none, none, none] [] (mo_rowI (mo_wI σ 50 0 28 0) 71 0 (mo_fo (fun k r => upd r k (nI k)) (σ.1 71 0) k)) := by
  intro d
  induction d with
  | zero => intro k h1 h2; omega
  | succ d ih =>
    intro k h1 h2 hinv
    have hkc : (nI k).toNatClampNeg = k := mo_cl (by omega)
    refine mo_go ok_X12_gathers (cs_X12_gathers_ok g) [7, 28] 101 ?_
    intro K hK
    refine And.intro (fun (c1 : (30 : Int32) ≤ (nI k)) => ?_) (fun (c1 : ¬ (30 : Int32) ≤ (nI k)) => ?_)
    · have hk : n ≤ k := mo_cge hn (by omega) (by omega) c1
      (have e : k = n := (by omega); subst e; exact hK _ _ _ _ hX)
    · have hk : k < n := mo_clt hn (by omega) (by omega) c1
      refine And.intro (show vp_in (nI k) 30 by exact mo_inN (by omega) (by decide)) ?_
      (have hih := ih (k + 1) (by omega) (by omega) trivial; rw [nI_succ] at hih; refine hK _ _ _ _ (show mo_X g t_X12_gathers Q 7 [some (.inr (.inr (50, 0))), some (.inl a), some (.inl ((nI k) + (1 : Int32))), none, none, none, none] [] (mo_wI (mo_rowI (mo_wI σ 50 0 28 0) 71 0 (mo_fo (fun k r => upd r k (nI k)) (σ.1 71 0) k)) 71 0 ((nI k).toNatClampNeg) (nI k)) from ?_); rw [hkc, mo_rowI_w]; exact hih)
def S_X12_gathers : mo_S := fun as σ Q => ∃ a : Int32, as = [.inr (.inr (50, 0)), .inl a] ∧ (mo_le (σ.1 50 0 18) 40 ∧ (mo_le (σ.1 50 0 19) 40 ∧ ∀ u, u < (σ.1 50 0 19).toNatClampNeg → vp_in (σ.1 68 0 u) 30 ∧ vp_in (σ.1 69 0 u) 30) ∧ ∀ k, k < (σ.1 50 0 18).toNatClampNeg → vp_in (σ.1 64 0 k) 30 ∧ vp_in (σ.1 65 0 k) 30) ∧ Q (none) (mo_rowI (mo_wI σ 50 0 28 (mo_gat σ a (σ.1 50 0 18).toNatClampNeg).2) 71 0 (mo_gat σ a (σ.1 50 0 18).toNatClampNeg).1)
theorem m_X12_gathers : ∀ (as : List mo_V) (σ : mo_M) (P P' : mo_Q), (∀ x τ, P x τ → P' x τ) → S_X12_gathers as σ P → S_X12_gathers as σ P' := by
  rintro as σ P P' h ⟨a, e, hp, hq⟩
  exact ⟨a, e, hp, h _ _ hq⟩
set_option maxRecDepth 20000 in
set_option maxHeartbeats 2000000 in
theorem ct_X12_gathers : mo_ct yX12_gathers t_X12_gathers S_X12_gathers := by
  refine mo_ct_of (by decide) rfl ?_
  rintro g as σ Q ⟨a, rfl, hpre, hQ⟩
  refine ⟨Nat.le_of_ble_eq_true rfl, mo_go ok_X12_gathers (cs_X12_gathers_ok g) [7, 28] 101 ?_⟩
  intro K hK
  (have h0 := li_X12_gathers g σ Q a 30 rfl (by omega) (lp_X12_gathers g σ Q a _ hpre.1.1 hpre.1.2 hpre.2.1 hpre.2.2 hQ ((σ.1 50 0 18).toNatClampNeg + 1) 0 (by omega) (by omega) trivial) 31 0 (by omega) (by omega) trivial; rw [show mo_rowI (mo_wI σ 50 0 28 0) 71 0 (mo_fo (fun k r => upd r k (nI k)) (σ.1 71 0) 0) = mo_wI σ 50 0 28 0 from mo_rowI_id (mo_wI σ 50 0 28 0) 71 0] at h0; exact hK _ _ _ _ h0)
def S_X12_group : mo_S := fun as σ Q => ∃ a : Int32, ∃ b : Int32, as = [.inr (.inr (50, 0)), .inl a, .inl b] ∧ ((¬ (0 ≤ a ∧ a ≤ σ.1 50 0 1 - 1) → Q (some (.inl (-1 : Int32))) (σ)) ∧ (0 ≤ a ∧ a ≤ σ.1 50 0 1 - 1 → ((0 ≤ b ∧ b ≤ (10000 : Int32) → ((mo_le (σ.1 50 0 18) 40 ∧ (mo_le (σ.1 50 0 19) 40 ∧ ∀ u_, u_ < (σ.1 50 0 19).toNatClampNeg → vp_in (σ.1 68 0 u_) 30 ∧ vp_in (σ.1 69 0 u_) 30) ∧ ∀ k_, k_ < (σ.1 50 0 18).toNatClampNeg → vp_in (σ.1 64 0 k_) 30 ∧ vp_in (σ.1 65 0 k_) 30) ∧ (vp_in a 30 ∧ Q (some (.inl (((mo_gat σ b (σ.1 50 0 18).toNatClampNeg).1) a.toNatClampNeg))) (mo_rowI (mo_wI σ 50 0 28 ((mo_gat σ b (σ.1 50 0 18).toNatClampNeg).2)) 71 0 ((mo_gat σ b (σ.1 50 0 18).toNatClampNeg).1))))) ∧ (¬ (0 ≤ b ∧ b ≤ (10000 : Int32)) → Q (some (.inl (-1 : Int32))) (σ)))))
theorem m_X12_group : ∀ (as : List mo_V) (σ : mo_M) (P P' : mo_Q), (∀ x τ, P x τ → P' x τ) → S_X12_group as σ P → S_X12_group as σ P' := by
  rintro as σ P P' hm ⟨a, b, e, hq⟩
  exact ⟨a, b, e, ⟨fun c1 => hm _ _ (hq.1 c1), fun c1 => ⟨fun c2 => ⟨((hq.2 c1).1 c2).1, ⟨((hq.2 c1).1 c2).2.1, hm _ _ ((hq.2 c1).1 c2).2.2⟩⟩, fun c2 => hm _ _ ((hq.2 c1).2 c2)⟩⟩⟩
def cs_X12_group : Nat → mo_C := fun j => match j with
  | 0 => (2, true, 129, 12, S_X12_isPart)
  | 1 => (1, false, 141, 50, S_X12_isDay)
  | 2 => (2, true, 172, 12, S_X12_gathers)
  | _ => (0, false, 0, 50, fun _ _ _ => False)
theorem cs_X12_group_ok (g : mo_E) : ∀ j, mo_cok g t_X12_group (cs_X12_group j) ∧ mo_mon (cs_X12_group j) := by
  intro j
  unfold cs_X12_group
  split
  · exact ⟨mo_cokV ct_X12_isPart (by decide) ⟨_, _, rfl⟩ (by decide +kernel), m_X12_isPart⟩
  · exact ⟨mo_cokS ct_X12_isDay (by decide +kernel), m_X12_isDay⟩
  · exact ⟨mo_cokV ct_X12_gathers (by decide) ⟨_, _, rfl⟩ (by decide +kernel), m_X12_gathers⟩
  · exact ⟨mo_cok0 g _, mo_mon0⟩
set_option maxRecDepth 20000 in
set_option maxHeartbeats 2000000 in
theorem ct_X12_group : mo_ct yX12_group t_X12_group S_X12_group := by
  refine mo_ct_of (by decide) rfl ?_
  rintro g as σ Q ⟨a, b, rfl, hQ⟩
  refine ⟨Nat.le_of_ble_eq_true rfl, mo_go ok_X12_group (cs_X12_group_ok g) [] 18 ?_⟩
  intro K hK
  refine Exists.intro a (And.intro rfl (And.intro trivial ?_))
  refine And.intro (fun (c1 : (mo_bl (0 ≤ a ∧ a ≤ σ.1 50 0 1 - 1)) = 0) => ?_) (fun (c1 : ¬ (mo_bl (0 ≤ a ∧ a ≤ σ.1 50 0 1 - 1)) = 0) => ?_)
  · replace c1 : ¬ (0 ≤ a ∧ a ≤ σ.1 50 0 1 - 1) := mo_bl0.mp c1
    exact (hQ.1 c1)
  · replace c1 : 0 ≤ a ∧ a ≤ σ.1 50 0 1 - 1 := mo_blT c1
    refine Exists.intro b (And.intro rfl (And.intro trivial ?_))
    refine And.intro (fun (c2 : ¬ (mo_bl (0 ≤ b ∧ b ≤ (10000 : Int32))) = 0) => ?_) (fun (c2 : (mo_bl (0 ≤ b ∧ b ≤ (10000 : Int32))) = 0) => ?_)
    · replace c2 : 0 ≤ b ∧ b ≤ (10000 : Int32) := mo_blT c2
      refine Exists.intro b (And.intro rfl (And.intro (show mo_le (σ.1 50 0 18) 40 ∧ (mo_le (σ.1 50 0 19) 40 ∧ ∀ u_, u_ < (σ.1 50 0 19).toNatClampNeg → vp_in (σ.1 68 0 u_) 30 ∧ vp_in (σ.1 69 0 u_) 30) ∧ ∀ k_, k_ < (σ.1 50 0 18).toNatClampNeg → vp_in (σ.1 64 0 k_) 30 ∧ vp_in (σ.1 65 0 k_) 30 from ((hQ.2 c1).1 c2).1) ?_))
      refine And.intro (show vp_in a 30 from ((hQ.2 c1).1 c2).2.1) ?_
      exact ((hQ.2 c1).1 c2).2.2
    · replace c2 : ¬ (0 ≤ b ∧ b ≤ (10000 : Int32)) := mo_bl0.mp c2
      exact ((hQ.2 c1).2 c2)
def S_X12_quarrels : mo_S := fun as σ Q => ∃ a : Int32, as = [.inr (.inr (50, 0)), .inl a] ∧ ((0 ≤ a ∧ a ≤ (10000 : Int32) → ((mo_le (σ.1 50 0 18) 40 ∧ (mo_le (σ.1 50 0 19) 40 ∧ ∀ u_, u_ < (σ.1 50 0 19).toNatClampNeg → vp_in (σ.1 68 0 u_) 30 ∧ vp_in (σ.1 69 0 u_) 30) ∧ ∀ k_, k_ < (σ.1 50 0 18).toNatClampNeg → vp_in (σ.1 64 0 k_) 30 ∧ vp_in (σ.1 65 0 k_) 30) ∧ Q (some (.inl ((mo_gat σ a (σ.1 50 0 18).toNatClampNeg).2))) (mo_rowI (mo_wI σ 50 0 28 ((mo_gat σ a (σ.1 50 0 18).toNatClampNeg).2)) 71 0 ((mo_gat σ a (σ.1 50 0 18).toNatClampNeg).1)))) ∧ (¬ (0 ≤ a ∧ a ≤ (10000 : Int32)) → Q (some (.inl (-1 : Int32))) (σ)))
theorem m_X12_quarrels : ∀ (as : List mo_V) (σ : mo_M) (P P' : mo_Q), (∀ x τ, P x τ → P' x τ) → S_X12_quarrels as σ P → S_X12_quarrels as σ P' := by
  rintro as σ P P' hm ⟨a, e, hq⟩
  exact ⟨a, e, ⟨fun c1 => ⟨(hq.1 c1).1, hm _ _ (hq.1 c1).2⟩, fun c1 => hm _ _ (hq.2 c1)⟩⟩
def cs_X12_quarrels : Nat → mo_C := fun j => match j with
  | 0 => (1, false, 141, 50, S_X12_isDay)
  | 1 => (2, true, 172, 12, S_X12_gathers)
  | _ => (0, false, 0, 50, fun _ _ _ => False)
theorem cs_X12_quarrels_ok (g : mo_E) : ∀ j, mo_cok g t_X12_quarrels (cs_X12_quarrels j) ∧ mo_mon (cs_X12_quarrels j) := by
  intro j
  unfold cs_X12_quarrels
  split
  · exact ⟨mo_cokS ct_X12_isDay (by decide +kernel), m_X12_isDay⟩
  · exact ⟨mo_cokV ct_X12_gathers (by decide) ⟨_, _, rfl⟩ (by decide +kernel), m_X12_gathers⟩
  · exact ⟨mo_cok0 g _, mo_mon0⟩
set_option maxRecDepth 20000 in
set_option maxHeartbeats 2000000 in
theorem ct_X12_quarrels : mo_ct yX12_quarrels t_X12_quarrels S_X12_quarrels := by
  refine mo_ct_of (by decide) rfl ?_
  rintro g as σ Q ⟨a, rfl, hQ⟩
  refine ⟨Nat.le_of_ble_eq_true rfl, mo_go ok_X12_quarrels (cs_X12_quarrels_ok g) [] 12 ?_⟩
  intro K hK
  refine Exists.intro a (And.intro rfl (And.intro trivial ?_))
  refine And.intro (fun (c1 : ¬ (mo_bl (0 ≤ a ∧ a ≤ (10000 : Int32))) = 0) => ?_) (fun (c1 : (mo_bl (0 ≤ a ∧ a ≤ (10000 : Int32))) = 0) => ?_)
  · replace c1 : 0 ≤ a ∧ a ≤ (10000 : Int32) := mo_blT c1
    refine Exists.intro a (And.intro rfl (And.intro (show mo_le (σ.1 50 0 18) 40 ∧ (mo_le (σ.1 50 0 19) 40 ∧ ∀ u_, u_ < (σ.1 50 0 19).toNatClampNeg → vp_in (σ.1 68 0 u_) 30 ∧ vp_in (σ.1 69 0 u_) 30) ∧ ∀ k_, k_ < (σ.1 50 0 18).toNatClampNeg → vp_in (σ.1 64 0 k_) 30 ∧ vp_in (σ.1 65 0 k_) 30 from (hQ.1 c1).1) ?_))
    exact (hQ.1 c1).2
  · replace c1 : ¬ (0 ≤ a ∧ a ≤ (10000 : Int32)) := mo_bl0.mp c1
    exact (hQ.2 c1)
