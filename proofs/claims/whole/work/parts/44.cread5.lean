/-! a row of tests -/
noncomputable def tk_ps (r : Nat → Int32) (n s : Nat) : Nat → Nat := mo_fo (fun _ p => tk_N r n (tk_tst r n p).2.1) s
def tk_or (r : Nat → Int32) (n p : Nat) : Prop := tk_wd r n [111, 114] (tk_tst r n p).2.1
def tk_an (r : Nat → Int32) (n p : Nat) : Prop := tk_wd r n [97, 110, 100] (tk_tst r n p).2.1
noncomputable def tk_tm (r : Nat → Int32) (n s : Nat) : Nat → Nat := mo_fo (fun k c => mo_ite (tk_or r n (tk_ps r n s k)) (c + 1) c) 0
def tk_go (r : Nat → Int32) (n s k : Nat) : Prop := (tk_tst r n (tk_ps r n s k)).1 ∧ (tk_or r n (tk_ps r n s k) ∨ tk_an r n (tk_ps r n s k))
noncomputable def tk_J (r : Nat → Int32) (n s : Nat) : Nat := mo_ex (tk_go r n s) 30 0
def tk_hj (r : Nat → Int32) (n s j : Nat) (v : Int32) : Prop := tk_hd (tk_tst r n (tk_ps r n s j)).2.2.1 (nI (tk_tst r n (tk_ps r n s j)).2.2.2) v
noncomputable def tk_fl (r : Nat → Int32) (n s : Nat) : Int32 := mo_ite (tk_J r n s = 30) (nI (tk_ps r n s 30)) (mo_ite ((tk_tst r n (tk_ps r n s (tk_J r n s))).1 ∧ mo_kn r n (tk_tst r n (tk_ps r n s (tk_J r n s))).2.1 = 0) (-1) (nI (tk_tst r n (tk_ps r n s (tk_J r n s))).2.1))
theorem tk_tm_le (r : Nat → Int32) (n s : Nat) : ∀ k, tk_tm r n s k ≤ k
  | 0 => Nat.le_refl _
  | k + 1 => by
    have := tk_tm_le r n s k
    show mo_ite (tk_or r n (tk_ps r n s k)) (tk_tm r n s k + 1) (tk_tm r n s k) ≤ k + 1
    by_cases h : tk_or r n (tk_ps r n s k)
    · rw [mo_ite_t h]; omega
    · rw [mo_ite_f h]; omega
theorem tk_tm_mono (r : Nat → Int32) (n s : Nat) : ∀ k j, j ≤ k → tk_tm r n s j ≤ tk_tm r n s k
  | 0, j, h => by rw [show j = 0 from by omega]; exact Nat.le_refl _
  | k + 1, j, h => by
    by_cases e : j = k + 1
    · rw [e]; exact Nat.le_refl _
    · have := tk_tm_mono r n s k j (by omega)
      have h2 : tk_tm r n s k ≤ tk_tm r n s (k + 1) := by
        show _ ≤ mo_ite (tk_or r n (tk_ps r n s k)) (tk_tm r n s k + 1) (tk_tm r n s k)
        by_cases h : tk_or r n (tk_ps r n s k)
        · rw [mo_ite_t h]; omega
        · rw [mo_ite_f h]; omega
      omega
theorem mo_ex_at {P : Nat → Prop} : ∀ {d p k : Nat}, p ≤ k → k ≤ p + d → (∀ j, p ≤ j → j < k → P j) → (k = p + d ∨ ¬ P k) → mo_ex P d p = k
  | 0, p, k, h1, h2, _, _ => by show p = k; omega
  | d + 1, p, k, h1, h2, h3, h4 => by
    rw [mo_ex]
    by_cases e : k = p
    · subst e
      rw [mo_ite_f (h4.resolve_left (by omega))]
    · rw [mo_ite_t (h3 p (Nat.le_refl _) (by omega))]
      exact mo_ex_at (by omega) (by omega) (fun j a b => h3 j (by omega) b) (by rcases h4 with q | q; (· left; omega); right; exact q)
theorem tk_J_at {r : Nat → Int32} {n s k : Nat} (hk : k ≤ 30) (h : ∀ j, j < k → tk_go r n s j) (h2 : k = 30 ∨ ¬ tk_go r n s k) : tk_J r n s = k := mo_ex_at (by omega) (by omega) (fun j _ hj => h j hj) (by rcases h2 with q | q; (· left; omega); right; exact q)
theorem tk_ver_s (r : Nat → Int32) {n s : Nat} (hs : s ≤ n) : (tk_ver r n s).2.1 ≤ n := by
  have a1 := tk_N_le r hs
  have a2 := tk_N_le r a1
  have a3 := tk_N_le r a2
  have a4 := tk_N_le r a3
  have a5 := tk_N_le r a4
  unfold tk_ver
  by_cases q0 : tk_num r n 999 s
  · rw [mo_ite_t q0]
    by_cases q1 : tk_sg r n 46 (tk_N r n s)
    · rw [mo_ite_t q1]
      by_cases q2 : tk_num r n 999 (tk_N r n (tk_N r n s))
      · rw [mo_ite_t q2]
        by_cases q3 : tk_sg r n 46 (tk_N r n (tk_N r n (tk_N r n s)))
        · rw [mo_ite_t q3]
          by_cases q4 : tk_num r n 999 (tk_N r n (tk_N r n (tk_N r n (tk_N r n s))))
          · rw [mo_ite_t q4]; exact a5
          · rw [mo_ite_f q4]; exact a4
        · rw [mo_ite_f q3]; exact a3
      · rw [mo_ite_f q2]; exact a2
    · rw [mo_ite_f q1]; exact a1
  · rw [mo_ite_f q0]; exact hs
/-! the warning that is read -/
def mo_frm (σ τ : mo_M) (w : Nat) : Prop := τ.2 = σ.2 ∧ (∀ o b, ¬ (o = 32 ∧ b = 0) → ¬ (o = 39 ∧ b = w) → ¬ (o = 40 ∧ b = w) → ¬ (o = 41 ∧ b = w) → τ.1 o b = σ.1 o b) ∧ τ.1 39 w 4 = σ.1 39 w 4
def mo_sem (τ : mo_M) (r : Nat → Int32) (n s w k T : Nat) : Prop := ∀ v : Int32, 0 ≤ v → v ≤ 999999999 → ∀ t, t < T → ((τ.1 40 w t ≤ v ∧ v ≤ τ.1 41 w t) ↔ ∀ j, j < k → tk_tm r n s j = t → tk_hj r n s j v)
def mo_rI (σ τ : mo_M) (w s k : Nat) (p : Int32) : Prop := mo_frm σ τ w ∧ mo_cto σ (τ.1 32 0) (tk_ps (σ.1 31 0) (mo_cn σ) s k) ∧ (∀ j, j < k → tk_go (σ.1 31 0) (mo_cn σ) s j) ∧ τ.1 39 w 3 = p ∧ ∃ T, τ.1 39 w 2 = nI T ∧ 0 < T ∧ T ≤ 30 ∧ (k < 30 → T = tk_tm (σ.1 31 0) (mo_cn σ) s k + 1 ∧ mo_sem τ (σ.1 31 0) (mo_cn σ) s w k T)
/-- what a text that has no fault leaves -/
def mo_rE (σ τ : mo_M) (w s : Nat) (p : Int32) : Prop := τ.1 39 w 3 = p ∧ τ.1 39 w 2 = nI (tk_tm (σ.1 31 0) (mo_cn σ) s (tk_J (σ.1 31 0) (mo_cn σ) s) + 1) ∧ tk_J (σ.1 31 0) (mo_cn σ) s < 30 ∧ mo_sem τ (σ.1 31 0) (mo_cn σ) s w (tk_J (σ.1 31 0) (mo_cn σ) s + 1) (tk_tm (σ.1 31 0) (mo_cn σ) s (tk_J (σ.1 31 0) (mo_cn σ) s) + 1)
theorem mo_rowI_o (σ : mo_M) (o w : Nat) (ρ : Nat → Int32) {a b : Nat} (h : ¬ (a = o ∧ b = w)) : (mo_rowI σ o w ρ).1 a b = σ.1 a b := by
  show (if a = o ∧ b = w then ρ else σ.1 a b) = σ.1 a b
  rw [if_neg h]
/-- behind a test: the range of the last term is narrowed -/
theorem mo_rI_test {σ τ : mo_M} {w s k T q : Nat} {p : Int32} {ρ : Nat → Int32} {x y : Int32} (h : mo_rI σ τ w s k p) (hk : k < 30) (hT : τ.1 39 w 2 = nI T) (hT0 : T ≤ 30) (hρ : mo_cto σ ρ q) (hok : ∀ v : Int32, 0 ≤ v → v ≤ 999999999 → ((x ≤ v ∧ v ≤ y) ↔ (τ.1 40 w (T - 1) ≤ v ∧ v ≤ τ.1 41 w (T - 1)) ∧ tk_hj (σ.1 31 0) (mo_cn σ) s k v)) :
    mo_frm σ (mo_rowI (mo_wI (mo_wI τ 40 w (T - 1) x) 41 w (T - 1) y) 32 0 ρ) w ∧ (mo_rowI (mo_wI (mo_wI τ 40 w (T - 1) x) 41 w (T - 1) y) 32 0 ρ).1 32 0 = ρ ∧ (mo_rowI (mo_wI (mo_wI τ 40 w (T - 1) x) 41 w (T - 1) y) 32 0 ρ).1 39 w = τ.1 39 w ∧ T = tk_tm (σ.1 31 0) (mo_cn σ) s k + 1 ∧ mo_sem (mo_rowI (mo_wI (mo_wI τ 40 w (T - 1) x) 41 w (T - 1) y) 32 0 ρ) (σ.1 31 0) (mo_cn σ) s w (k + 1) T := by
  obtain ⟨⟨f1, f2, f3⟩, h2, h3, h4, T', h5, h6, h7, h8⟩ := h
  have e : T' = T := by rw [hT, nI_eq (by omega) (by omega)] at h5; omega
  subst e
  obtain ⟨h8, h9⟩ := h8 hk
  refine ⟨⟨f1, fun o b g1 g2 g3 g4 => ?_, f3⟩, rfl, rfl, h8, fun v v0 v1 t ht => ?_⟩
  · rw [mo_rowI_o _ _ _ _ g1, mo_wI_o _ _ _ _ _ _ _ g4, mo_wI_o _ _ _ _ _ _ _ g3]
    exact f2 o b g1 g2 g3 g4
  · have e40 : (mo_rowI (mo_wI (mo_wI τ 40 w (T' - 1) x) 41 w (T' - 1) y) 32 0 ρ).1 40 w = upd (τ.1 40 w) (T' - 1) x := mo_wI_s _ _ _ _ _
    have e41 : (mo_rowI (mo_wI (mo_wI τ 40 w (T' - 1) x) 41 w (T' - 1) y) 32 0 ρ).1 41 w = upd (τ.1 41 w) (T' - 1) y := mo_wI_s _ _ _ _ _
    rw [e40, e41]
    by_cases z : t = T' - 1
    · subst z
      rw [show upd (τ.1 40 w) (T' - 1) x (T' - 1) = x from by simp [upd], show upd (τ.1 41 w) (T' - 1) y (T' - 1) = y from by simp [upd], hok v v0 v1, h9 v v0 v1 _ ht]
      constructor
      · rintro ⟨q1, q2⟩ j hj hjt
        by_cases e : j = k
        · subst e; exact q2
        · exact q1 j (by omega) hjt
      · intro q
        exact ⟨fun j hj hjt => q j (by omega) hjt, q k (by omega) (by omega)⟩
    · rw [show upd (τ.1 40 w) (T' - 1) x t = τ.1 40 w t from by simp [upd, z], show upd (τ.1 41 w) (T' - 1) y t = τ.1 41 w t from by simp [upd, z], h9 v v0 v1 t ht]
      constructor
      · intro q j hj hjt
        by_cases e : j = k
        · subst e; omega
        · exact q j (by omega) hjt
      · intro q j hj hjt
        exact q j (by omega) hjt
set_option maxHeartbeats 4000000 in
theorem lp_X7_read (g : mo_E) (σ : mo_M) (Q : mo_Q) (a : Int32) (w s : Nat) (p : Int32) (hw : w < 20) (hl : mo_le (σ.1 30 0 1) 200) (hQ : ∀ τ, mo_frm σ τ w → (tk_fl (σ.1 31 0) (mo_cn σ) s = -1 → mo_rE σ τ w s p) → Q (some (.inl (tk_fl (σ.1 31 0) (mo_cn σ) s))) τ) : ∀ (d k : Nat) (τ : mo_M), 30 < k + d → k ≤ 30 → mo_rI σ τ w s k p → mo_X g t_X7_read Q 43 [some (.inr (.inr (32, 0))), some (.inl a), some (.inr (.inr (39, w))), some (.inl (nI k))] [] τ := by
  intro d
  induction d with
  | zero => intro k τ h1 h2; omega
  | succ d ih =>
    intro k τ h1 h2 hI
    refine bt_X7_read g a w k (fun j τ' => j = nI (k + 1) ∧ k < 30 ∧ mo_rI σ τ' w s (k + 1) p) τ Q ?_ (fun j τ' q => by obtain ⟨rfl, q1, q2⟩ := q; exact ih (k + 1) τ' (by omega) (by omega) q2)
    obtain ⟨hf, h3, h4, h5, T, h6, h7, h8, h9⟩ := id hI
    have e30 : τ.1 30 0 = σ.1 30 0 := hf.2.1 30 0 (by omega) (by omega) (by omega) (by omega)
    have e31 : τ.1 31 0 = σ.1 31 0 := hf.2.1 31 0 (by omega) (by omega) (by omega) (by omega)
    have hcn : mo_cn τ = mo_cn σ := by unfold mo_cn; rw [e30]
    have hcp : mo_cp τ = tk_ps (σ.1 31 0) (mo_cn σ) s k := mo_cto_cl hl h3
    have hcto : ∀ ρ q, mo_cto τ ρ q = mo_cto σ ρ q := fun ρ q => by unfold mo_cto; rw [e31, hcn]
    have hct : mo_ctst τ = tk_tst (σ.1 31 0) (mo_cn σ) (tk_ps (σ.1 31 0) (mo_cn σ) s k) := by unfold mo_ctst; rw [e31, hcn, hcp]
    have hcS : mo_cS τ := ⟨by rw [e30]; exact hl, by rw [hcp, hcto]; exact h3⟩
    have hT : (τ.1 39 w 2).toNatClampNeg = T := by rw [h6]; exact mo_cl (by omega)
    refine ⟨fun q => ?_, fun q => ?_⟩
    · rw [show (30 : Int32) = nI 30 from rfl, nI_leI (by omega) (by omega)] at q
      have hk : k = 30 := by omega
      subst hk
      have hJ : tk_J (σ.1 31 0) (mo_cn σ) s = 30 := tk_J_at (by omega) h4 (Or.inl rfl)
      have hF : tk_fl (σ.1 31 0) (mo_cn σ) s = nI (tk_ps (σ.1 31 0) (mo_cn σ) s 30) := mo_ite_t hJ
      have z := hQ τ hf (fun e => by rw [hF] at e; exact absurd e (mo_nIm (by have := h3.1; have := hl.2; unfold mo_cn at *; omega)))
      rw [hF] at z
      rw [h3.2.2.1]
      exact z
    · rw [show (30 : Int32) = nI 30 from rfl, nI_leI (by omega) (by omega)] at q
      have hk : k < 30 := by omega
      rw [hct, hT, h6]
      simp only [hcto]
      refine ⟨⟨hcS, hw, h7, by unfold mo_le; rw [mo_cl (by omega)]; exact ⟨rfl, h8⟩⟩, fun qt ρ1 x y h10 => ?_, fun qt ρ4 h10 => ?_⟩
      · have hR := mo_rI_test hI hk h6 h8 h10.1 h10.2
        generalize mo_rowI (mo_wI (mo_wI τ 40 w (T - 1) x) 41 w (T - 1) y) 32 0 ρ1 = υ at hR ⊢
        obtain ⟨r1, r2, r3, r4, r5⟩ := hR
        have u30 : υ.1 30 0 = σ.1 30 0 := r1.2.1 30 0 (by omega) (by omega) (by omega) (by omega)
        have u31 : υ.1 31 0 = σ.1 31 0 := r1.2.1 31 0 (by omega) (by omega) (by omega) (by omega)
        have ucn : mo_cn υ = mo_cn σ := by unfold mo_cn; rw [u30]
        have ucp : mo_cp υ = (tk_tst (σ.1 31 0) (mo_cn σ) (tk_ps (σ.1 31 0) (mo_cn σ) s k)).2.1 := by unfold mo_cp; rw [r2]; exact mo_cto_cl hl h10.1
        have ucto : ∀ ρ q, mo_cto υ ρ q = mo_cto σ ρ q := fun ρ q => by unfold mo_cto; rw [u31, ucn]
        have ucS : mo_cS υ := ⟨by rw [u30]; exact hl, by rw [ucp, ucto, r2]; exact h10.1⟩
        have uN : mo_cN υ = tk_ps (σ.1 31 0) (mo_cn σ) s (k + 1) := by unfold mo_cN; rw [u31, ucn, ucp]; rfl
        have u92 : mo_cwd υ 92 = tk_or (σ.1 31 0) (mo_cn σ) (tk_ps (σ.1 31 0) (mo_cn σ) s k) := by unfold mo_cwd; rw [u31, ucn, ucp]; rfl
        have u93 : mo_cwd υ 93 = tk_an (σ.1 31 0) (mo_cn σ) (tk_ps (σ.1 31 0) (mo_cn σ) s k) := by unfold mo_cwd; rw [u31, ucn, ucp]; rfl
        rw [u92, u93, uN]
        simp only [ucto]
        refine ⟨⟨ucS, by decide, by decide⟩, fun qo ρ2 h11 => ⟨hw, ⟨hw, by unfold mo_le; rw [mo_cl (by omega)]; exact ⟨rfl, h8⟩⟩, ?_⟩, fun qo => ⟨⟨ucS, by decide, by decide⟩, fun qn ρ3 h11 => ?_, fun qn => ⟨fun q0 => ?_, fun q0 => ?_⟩⟩⟩
        · -- or: a new term
          refine ⟨(nI_1 k), hk, ?_⟩
          have hm : tk_tm (σ.1 31 0) (mo_cn σ) s (k + 1) = T := by
            show mo_ite (tk_or (σ.1 31 0) (mo_cn σ) (tk_ps (σ.1 31 0) (mo_cn σ) s k)) _ _ = T
            rw [mo_ite_t qo]; exact r4.symm
          have hgo : ∀ j, j < k + 1 → tk_go (σ.1 31 0) (mo_cn σ) s j := lt_s h4 ⟨qt, Or.inl qo⟩
          have e39 : (mo_rowI υ 32 0 ρ2).1 39 w 2 = nI T := by show υ.1 39 w 2 = nI T; rw [r3]; exact h6
          unfold mo_opn
          rw [e39, mo_cl (by omega)]
          by_cases hT30 : T < 30
          · rw [if_pos hT30]
            refine ⟨⟨r1.1, fun o b g1 g2 g3 g4 => ?_, ?_⟩, h11.1, hgo, ?_, T + 1, mo_wIg _ _ _ _ _, by omega, by omega, fun hk1 => ⟨by omega, fun v v0 v1 t ht => ?_⟩⟩
            · rw [mo_wI_o _ _ _ _ _ _ _ g2, mo_wI_o _ _ _ _ _ _ _ g4, mo_wI_o _ _ _ _ _ _ _ g3, mo_rowI_o _ _ _ _ g1]
              exact r1.2.1 o b g1 g2 g3 g4
            · rw [mo_wI_s]
              show upd (υ.1 39 w) 2 _ 4 = _
              rw [show upd (υ.1 39 w) 2 (nI (T + 1)) 4 = υ.1 39 w 4 from by simp [upd]]
              exact r1.2.2
            · rw [mo_wI_s]
              show upd (υ.1 39 w) 2 _ 3 = _
              rw [show upd (υ.1 39 w) 2 (nI (T + 1)) 3 = υ.1 39 w 3 from by simp [upd], r3]
              exact h5
            · have e40 : (mo_wI (mo_wI (mo_wI (mo_rowI υ 32 0 ρ2) 40 w T 0) 41 w T 999999999) 39 w 2 (nI (T + 1))).1 40 w = upd (υ.1 40 w) T 0 := mo_wI_s (mo_rowI υ 32 0 ρ2) _ _ _ _
              have e41 : (mo_wI (mo_wI (mo_wI (mo_rowI υ 32 0 ρ2) 40 w T 0) 41 w T 999999999) 39 w 2 (nI (T + 1))).1 41 w = upd (υ.1 41 w) T 999999999 := mo_wI_s (mo_wI (mo_rowI υ 32 0 ρ2) 40 w T 0) _ _ _ _
              rw [e40, e41]
              by_cases z : t = T
              · subst z
                rw [show upd (υ.1 40 w) t 0 t = 0 from by simp [upd], show upd (υ.1 41 w) t 999999999 t = 999999999 from by simp [upd]]
                refine ⟨fun _ j hj hjt => ?_, fun _ => ⟨v0, v1⟩⟩
                have := tk_tm_mono (σ.1 31 0) (mo_cn σ) s k j (by omega)
                omega
              · rw [show upd (υ.1 40 w) T 0 t = υ.1 40 w t from by simp [upd, z], show upd (υ.1 41 w) T 999999999 t = υ.1 41 w t from by simp [upd, z]]
                exact r5 v v0 v1 t (by omega)
          · rw [if_neg hT30]
            have hk29 : k = 29 := by have := tk_tm_le (σ.1 31 0) (mo_cn σ) s k; omega
            refine ⟨⟨r1.1, fun o b g1 g2 g3 g4 => ?_, r1.2.2⟩, h11.1, hgo, ?_, T, e39, by omega, by omega, fun hk1 => by omega⟩
            · rw [mo_rowI_o _ _ _ _ g1]; exact r1.2.1 o b g1 g2 g3 g4
            · show υ.1 39 w 3 = p; rw [r3]; exact h5
        · -- and
          refine ⟨(nI_1 k), hk, ?_⟩
          have hm : tk_tm (σ.1 31 0) (mo_cn σ) s (k + 1) = tk_tm (σ.1 31 0) (mo_cn σ) s k := by
            exact mo_ite_f qo
          refine ⟨⟨r1.1, fun o b g1 g2 g3 g4 => ?_, r1.2.2⟩, h11.1, lt_s h4 ⟨qt, Or.inr qn⟩, ?_, T, ?_, h7, h8, fun hk1 => ⟨by rw [hm]; exact r4, r5⟩⟩
          · rw [mo_rowI_o _ _ _ _ g1]; exact r1.2.1 o b g1 g2 g3 g4
          · show υ.1 39 w 3 = p; rw [r3]; exact h5
          · show υ.1 39 w 2 = nI T; rw [r3]; exact h6
        · have hJ : tk_J (σ.1 31 0) (mo_cn σ) s = k := tk_J_at (by omega) h4 (Or.inr (fun z => by rcases z.2 with z | z; (· exact qo z); exact qn z))
          have hF : tk_fl (σ.1 31 0) (mo_cn σ) s = nI (tk_tst (σ.1 31 0) (mo_cn σ) (tk_ps (σ.1 31 0) (mo_cn σ) s k)).2.1 := by
            unfold tk_fl
            rw [hJ, mo_ite_f (by omega), mo_ite_f (fun z => q0 (h10.1.2.1.trans z.2))]
          have z := hQ υ r1 (fun e => by rw [hF] at e; exact absurd e (mo_nIm (by have := h10.1.1; have := hl.2; unfold mo_cn at *; omega)))
          rw [hF] at z
          rw [h10.1.2.2.1]
          exact z
        · have hJ : tk_J (σ.1 31 0) (mo_cn σ) s = k := tk_J_at (by omega) h4 (Or.inr (fun z => by rcases z.2 with z | z; (· exact qo z); exact qn z))
          have hF : tk_fl (σ.1 31 0) (mo_cn σ) s = -1 := by
            unfold tk_fl
            rw [hJ, mo_ite_f (by omega), mo_ite_t ⟨qt, h10.1.2.1.symm.trans q0⟩]
          have z := hQ υ r1 (fun _ => by
            unfold mo_rE
            rw [hJ, r3]
            exact ⟨h5, by rw [h6, r4], hk, r4 ▸ r5⟩)
          rw [hF] at z
          exact z
      · have hJ : tk_J (σ.1 31 0) (mo_cn σ) s = k := tk_J_at (by omega) h4 (Or.inr (fun z => qt z.1))
        have hF : tk_fl (σ.1 31 0) (mo_cn σ) s = nI (tk_tst (σ.1 31 0) (mo_cn σ) (tk_ps (σ.1 31 0) (mo_cn σ) s k)).2.1 := by
          unfold tk_fl
          rw [hJ, mo_ite_f (by omega), mo_ite_f (fun z => qt z.1)]
        have z := hQ (mo_rowI τ 32 0 ρ4) ⟨hf.1, fun o b g1 g2 g3 g4 => by rw [mo_rowI_o _ _ _ _ g1]; exact hf.2.1 o b g1 g2 g3 g4, hf.2.2⟩ (fun e => by rw [hF] at e; exact absurd e (mo_nIm (by have := h10.1; have := hl.2; unfold mo_cn at *; omega)))
        rw [hF] at z
        rw [h10.2.2.1]
        exact z
