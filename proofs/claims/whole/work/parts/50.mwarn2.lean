theorem mo_une (f : Nat → Int32) (x : Int32) {j k : Nat} (h : j ≠ k) : upd f k x j = f j := by simp [upd, h]
theorem mo_ueq (f : Nat → Int32) (x : Int32) {k : Nat} : upd f k x k = x := by simp [upd]
def mo_rows (τ : mo_M) (r : Nat → Int32) (n s W m : Nat) : Prop := ∀ j, j < m → τ.1 75 0 (30 * W + j) = nI (tk_tst r n (tk_ps r n s j)).2.2.1 ∧ τ.1 76 0 (30 * W + j) = nI (tk_tst r n (tk_ps r n s j)).2.2.2 ∧ τ.1 77 0 (30 * W + j) = nI (tk_tm r n s j)
def mo_lF (σ τ : mo_M) (W : Nat) : Prop := τ.2 = σ.2 ∧ (∀ o b, ¬ (o = 50 ∧ b = 0) → ¬ (o = 75 ∧ b = 0) → ¬ (o = 76 ∧ b = 0) → ¬ (o = 77 ∧ b = 0) → τ.1 o b = σ.1 o b) ∧ (∀ i, i < 30 * W → τ.1 75 0 i = σ.1 75 0 i ∧ τ.1 76 0 i = σ.1 76 0 i ∧ τ.1 77 0 i = σ.1 77 0 i) ∧ ∀ f, f ≠ 32 → f ≠ 33 → f ≠ 35 → f ≠ 43 → f ≠ 44 → τ.1 50 0 f = σ.1 50 0 f
def mo_lB (σ τ : mo_M) (W s m : Nat) : Prop := mo_lF σ τ W ∧ τ.1 50 0 35 = (-1 : Int32) ∧ τ.1 50 0 32 = nI (tk_ps (σ.1 72 0) (mo_mz σ) s m) ∧ τ.1 50 0 33 = nI (mo_tE (σ.1 72 0) (mo_mz σ) (tk_ps (σ.1 72 0) (mo_mz σ) s m)) ∧ tk_ps (σ.1 72 0) (mo_mz σ) s m ≤ mo_mz σ ∧ τ.1 50 0 43 = nI m ∧ τ.1 50 0 44 = nI (tk_tm (σ.1 72 0) (mo_mz σ) s m) ∧ m ≤ 30 ∧ (∀ j, j < m → tk_go (σ.1 72 0) (mo_mz σ) s j) ∧ mo_rows τ (σ.1 72 0) (mo_mz σ) s W m
def mo_lG (σ τ : mo_M) (W s m : Nat) : Prop := τ.1 50 0 35 = (-1 : Int32) ∧ τ.1 50 0 32 = nI (tk_tst (σ.1 72 0) (mo_mz σ) (tk_ps (σ.1 72 0) (mo_mz σ) s m)).2.1 ∧ τ.1 50 0 33 = nI (mo_tE (σ.1 72 0) (mo_mz σ) (tk_tst (σ.1 72 0) (mo_mz σ) (tk_ps (σ.1 72 0) (mo_mz σ) s m)).2.1) ∧ (tk_tst (σ.1 72 0) (mo_mz σ) (tk_ps (σ.1 72 0) (mo_mz σ) s m)).2.1 ≤ mo_mz σ ∧ τ.1 50 0 43 = nI (m + 1) ∧ τ.1 50 0 44 = nI (tk_tm (σ.1 72 0) (mo_mz σ) s m) ∧ m < 30 ∧ (∀ j, j < m → tk_go (σ.1 72 0) (mo_mz σ) s j) ∧ (tk_tst (σ.1 72 0) (mo_mz σ) (tk_ps (σ.1 72 0) (mo_mz σ) s m)).1 ∧ mo_rows τ (σ.1 72 0) (mo_mz σ) s W (m + 1)
def mo_lX (σ τ : mo_M) (s : Nat) : Prop := ∃ f, f ≤ mo_mz σ ∧ τ.1 50 0 35 = nI f ∧ tk_fl (σ.1 72 0) (mo_mz σ) s = nI f
def mo_lA (σ τ : mo_M) (W s m : Nat) : Prop := mo_lF σ τ W ∧ (mo_lG σ τ W s m ∨ mo_lX σ τ s)
theorem mo_lF_50 {σ τ : mo_M} {W : Nat} {ρ : Nat → Int32} (h : mo_lF σ τ W) (hρ : ∀ f, f ≠ 32 → f ≠ 33 → f ≠ 35 → f ≠ 43 → f ≠ 44 → ρ f = τ.1 50 0 f) : mo_lF σ (mo_rowI τ 50 0 ρ) W := by
  obtain ⟨h1, h2, h3, h4⟩ := h
  refine ⟨h1, fun o b a1 a2 a3 a4 => ?_, h3, fun f b1 b2 b3 b4 b5 => (hρ f b1 b2 b3 b4 b5).trans (h4 f b1 b2 b3 b4 b5)⟩
  rw [mo_rowI_o _ _ _ _ a1]
  exact h2 o b a1 a2 a3 a4
theorem mo_lF_e {σ τ : mo_M} {W : Nat} (h : mo_lF σ τ W) : τ.1 72 0 = σ.1 72 0 ∧ mo_mz τ = mo_mz σ ∧ τ.1 50 0 36 = σ.1 50 0 36 ∧ τ.1 50 0 31 = σ.1 50 0 31 :=
  ⟨h.2.1 72 0 (by omega) (by omega) (by omega) (by omega), by unfold mo_mz; rw [h.2.2.2 31 (by omega) (by omega) (by omega) (by omega) (by omega)], h.2.2.2 36 (by omega) (by omega) (by omega) (by omega) (by omega), h.2.2.2 31 (by omega) (by omega) (by omega) (by omega) (by omega)⟩
/-- one test, from where it begins -/
theorem mo_tstep {σ τ : mo_M} {W s m : Nat} (hl : mo_le (σ.1 50 0 31) 200) (hW : σ.1 50 0 36 = nI W) (hW2 : W < 20) (h : mo_lB σ τ W s m) : (mo_mS τ ∧ τ.1 50 0 35 = (-1 : Int32) ∧ mo_le (τ.1 50 0 43) 30 ∧ vp_in (τ.1 50 0 36) 20) ∧ ((mo_mtst τ).1 ∧ ¬ τ.1 50 0 43 = (30 : Int32) → ∀ ρ : Nat → Int32, mo_mtp τ ρ (mo_mtst τ).2.1 → mo_lA σ (mo_rowI (mo_tw τ (nI (mo_mtst τ).2.2.1) (nI (mo_mtst τ).2.2.2)) 50 0 ρ) W s m) ∧ (¬ ((mo_mtst τ).1 ∧ ¬ τ.1 50 0 43 = (30 : Int32)) → ∀ ρ : Nat → Int32, mo_mfl τ ρ (mo_mpos τ) → mo_lA σ (mo_rowI τ 50 0 ρ) W s m) := by
  obtain ⟨hF, h35, h32, h33, hps, h43, h44, hm, hgo, hrow⟩ := id h
  obtain ⟨e72, emz, e36, e31⟩ := mo_lF_e hF
  have hmz : mo_mz σ ≤ 200 := hl.2
  have hE := mo_tE_le (σ.1 72 0) hps
  have emp : mo_mp τ = tk_ps (σ.1 72 0) (mo_mz σ) s m := by unfold mo_mp; rw [h32]; exact mo_cl (by omega)
  have etst : mo_mtst τ = tk_tst (σ.1 72 0) (mo_mz σ) (tk_ps (σ.1 72 0) (mo_mz σ) s m) := by unfold mo_mtst; rw [e72, emz, emp]
  have hS : mo_mS τ := ⟨by rw [e31]; exact hl, by rw [emp, emz]; exact hps, by rw [emp]; exact h32, by rw [e72, emz, emp]; exact h33⟩
  have h30 : τ.1 50 0 43 = (30 : Int32) ↔ m = 30 := by rw [h43, show (30 : Int32) = nI 30 from rfl, nI_eq (by omega) (by omega)]
  refine ⟨⟨hS, h35, by unfold mo_le; rw [h43, mo_cl (by omega)]; exact ⟨rfl, hm⟩, by rw [e36, hW]; exact mo_inN hW2 (by decide)⟩, fun q ρ hρ => ?_, fun q ρ hρ => ?_⟩
  · rw [etst] at q hρ ⊢
    have hm30 : m < 30 := by have := q.2; rw [h30] at this; omega
    obtain ⟨r1, r2, r3, r4, r5⟩ := hρ
    rw [emz] at r1
    rw [e72, emz] at r3
    have hAT : ((30 : Int32) * τ.1 50 0 36 + τ.1 50 0 43).toNatClampNeg = 30 * W + m := by
      rw [e36, hW, h43, show (30 : Int32) = nI 30 from rfl, pk_mul, nI_add]; exact mo_cl (by omega)
    have t75 : (mo_rowI (mo_tw τ (nI (tk_tst (σ.1 72 0) (mo_mz σ) (tk_ps (σ.1 72 0) (mo_mz σ) s m)).2.2.1) (nI (tk_tst (σ.1 72 0) (mo_mz σ) (tk_ps (σ.1 72 0) (mo_mz σ) s m)).2.2.2)) 50 0 ρ).1 75 0 = upd (τ.1 75 0) (30 * W + m) (nI (tk_tst (σ.1 72 0) (mo_mz σ) (tk_ps (σ.1 72 0) (mo_mz σ) s m)).2.2.1) := by
      unfold mo_tw; rw [hAT]; exact mo_wI_s τ 75 0 _ _
    have t76 : (mo_rowI (mo_tw τ (nI (tk_tst (σ.1 72 0) (mo_mz σ) (tk_ps (σ.1 72 0) (mo_mz σ) s m)).2.2.1) (nI (tk_tst (σ.1 72 0) (mo_mz σ) (tk_ps (σ.1 72 0) (mo_mz σ) s m)).2.2.2)) 50 0 ρ).1 76 0 = upd (τ.1 76 0) (30 * W + m) (nI (tk_tst (σ.1 72 0) (mo_mz σ) (tk_ps (σ.1 72 0) (mo_mz σ) s m)).2.2.2) := by
      unfold mo_tw; rw [hAT]; exact mo_wI_s (mo_wI τ 75 0 (30 * W + m) _) 76 0 _ _
    have t77 : (mo_rowI (mo_tw τ (nI (tk_tst (σ.1 72 0) (mo_mz σ) (tk_ps (σ.1 72 0) (mo_mz σ) s m)).2.2.1) (nI (tk_tst (σ.1 72 0) (mo_mz σ) (tk_ps (σ.1 72 0) (mo_mz σ) s m)).2.2.2)) 50 0 ρ).1 77 0 = upd (τ.1 77 0) (30 * W + m) (nI (tk_tm (σ.1 72 0) (mo_mz σ) s m)) := by
      unfold mo_tw; rw [hAT, h44]; exact mo_wI_s (mo_wI (mo_wI τ 75 0 (30 * W + m) _) 76 0 (30 * W + m) _) 77 0 _ _
    have to : ∀ o b, ¬ (o = 50 ∧ b = 0) → ¬ (o = 75 ∧ b = 0) → ¬ (o = 76 ∧ b = 0) → ¬ (o = 77 ∧ b = 0) → (mo_rowI (mo_tw τ (nI (tk_tst (σ.1 72 0) (mo_mz σ) (tk_ps (σ.1 72 0) (mo_mz σ) s m)).2.2.1) (nI (tk_tst (σ.1 72 0) (mo_mz σ) (tk_ps (σ.1 72 0) (mo_mz σ) s m)).2.2.2)) 50 0 ρ).1 o b = τ.1 o b := by
      intro o b a1 a2 a3 a4
      rw [mo_rowI_o _ _ _ _ a1]
      unfold mo_tw
      rw [mo_wI_o _ _ _ _ _ _ _ a4, mo_wI_o _ _ _ _ _ _ _ a3, mo_wI_o _ _ _ _ _ _ _ a2]
    have t50 : (mo_rowI (mo_tw τ (nI (tk_tst (σ.1 72 0) (mo_mz σ) (tk_ps (σ.1 72 0) (mo_mz σ) s m)).2.2.1) (nI (tk_tst (σ.1 72 0) (mo_mz σ) (tk_ps (σ.1 72 0) (mo_mz σ) s m)).2.2.2)) 50 0 ρ).1 50 0 = ρ := rfl
    have t2 : (mo_rowI (mo_tw τ (nI (tk_tst (σ.1 72 0) (mo_mz σ) (tk_ps (σ.1 72 0) (mo_mz σ) s m)).2.2.1) (nI (tk_tst (σ.1 72 0) (mo_mz σ) (tk_ps (σ.1 72 0) (mo_mz σ) s m)).2.2.2)) 50 0 ρ).2 = τ.2 := rfl
    generalize mo_rowI (mo_tw τ (nI (tk_tst (σ.1 72 0) (mo_mz σ) (tk_ps (σ.1 72 0) (mo_mz σ) s m)).2.2.1) (nI (tk_tst (σ.1 72 0) (mo_mz σ) (tk_ps (σ.1 72 0) (mo_mz σ) s m)).2.2.2)) 50 0 ρ = υ at *
    refine ⟨⟨t2.trans hF.1, fun o b a1 a2 a3 a4 => (to o b a1 a2 a3 a4).trans (hF.2.1 o b a1 a2 a3 a4), fun i hi => ?_, fun f b1 b2 b3 b4 b5 => ?_⟩, Or.inl ⟨?_, ?_, ?_, r1, ?_, ?_, hm30, hgo, q.1, fun j hj => ?_⟩⟩
    · rw [t75, t76, t77, mo_une _ _ (by omega), mo_une _ _ (by omega), mo_une _ _ (by omega)]
      exact hF.2.2.1 i hi
    · rw [t50]; exact (r5 f b1 b2 b4).trans (hF.2.2.2 f b1 b2 b3 b4 b5)
    · rw [t50]; exact (r5 35 (by decide) (by decide) (by decide)).trans h35
    · rw [t50]; exact r2
    · rw [t50]; exact r3
    · rw [t50, r4, h43, nI_1]
    · rw [t50]; exact (r5 44 (by decide) (by decide) (by decide)).trans h44
    · rw [t75, t76, t77]
      by_cases e : j = m
      · subst e
        rw [mo_ueq, mo_ueq, mo_ueq]
        exact ⟨rfl, rfl, rfl⟩
      · rw [mo_une _ _ (by omega), mo_une _ _ (by omega), mo_une _ _ (by omega)]
        exact hrow j (by omega)
  · obtain ⟨r1, r2, r3⟩ := hρ
    have hJ : ¬ ((tk_tst (σ.1 72 0) (mo_mz σ) (tk_ps (σ.1 72 0) (mo_mz σ) s m)).1 ∧ ¬ m = 30) := by rw [etst, h30] at q; exact q
    have hpos : mo_mpos τ = mo_ite (m = 30) (tk_ps (σ.1 72 0) (mo_mz σ) s m) (tk_tst (σ.1 72 0) (mo_mz σ) (tk_ps (σ.1 72 0) (mo_mz σ) s m)).2.1 := by
      unfold mo_mpos; rw [etst, emp, propext h30]
    refine ⟨mo_lF_50 hF (fun f b1 b2 b3 _ _ => r3 f b1 b2 b3), Or.inr ⟨mo_mpos τ, by rw [emz] at r1; exact r1, r2, ?_⟩⟩
    rw [hpos]
    by_cases e : m = 30
    · subst e
      rw [mo_ite_t rfl]
      have hJ30 : tk_J (σ.1 72 0) (mo_mz σ) s = 30 := tk_J_at (by omega) hgo (Or.inl rfl)
      exact mo_ite_t hJ30
    · rw [mo_ite_f e]
      have hno : ¬ (tk_tst (σ.1 72 0) (mo_mz σ) (tk_ps (σ.1 72 0) (mo_mz σ) s m)).1 := fun z => hJ ⟨z, e⟩
      have hJm : tk_J (σ.1 72 0) (mo_mz σ) s = m := tk_J_at (by omega) hgo (Or.inr (fun z => hno z.1))
      unfold tk_fl
      rw [hJm, mo_ite_f e, mo_ite_f (fun z => hno z.1)]
/-- behind a word that goes on -/
theorem mo_nstep {σ τ : mo_M} {W s m : Nat} {ρ : Nat → Int32} {v : Int32} (hl : mo_le (σ.1 50 0 31) 200) (hF : mo_lF σ τ W) (h : mo_lG σ τ W s m) (hc : tk_or (σ.1 72 0) (mo_mz σ) (tk_ps (σ.1 72 0) (mo_mz σ) s m) ∨ tk_an (σ.1 72 0) (mo_mz σ) (tk_ps (σ.1 72 0) (mo_mz σ) s m)) (hv : v = nI (tk_tm (σ.1 72 0) (mo_mz σ) s (m + 1))) (h1 : ρ 32 = nI (tk_ps (σ.1 72 0) (mo_mz σ) s (m + 1))) (h2 : ρ 33 = nI (mo_tE (σ.1 72 0) (mo_mz σ) (tk_ps (σ.1 72 0) (mo_mz σ) s (m + 1)))) (h3 : ρ 44 = v) (h4 : ∀ f, f ≠ 32 → f ≠ 33 → f ≠ 44 → ρ f = τ.1 50 0 f) : mo_lB σ (mo_rowI τ 50 0 ρ) W s (m + 1) := by
  obtain ⟨g35, g32, g33, gle, g43, g44, gm, ggo, gok, grow⟩ := h
  refine ⟨mo_lF_50 hF (fun f b1 b2 _ _ b5 => h4 f b1 b2 b5), (h4 35 (by decide) (by decide) (by decide)).trans g35, h1, h2, tk_N_le _ gle, (h4 43 (by decide) (by decide) (by decide)).trans g43, h3.trans hv, by omega, lt_s ggo ⟨gok, hc⟩, grow⟩
/-! the end -/
def mo_mE (σ υ : mo_M) (W s : Nat) (p : Int32) : Prop := υ.2 = σ.2 ∧ (∀ o b, ¬ (o = 50 ∧ b = 0) → ¬ (o = 73 ∧ b = 0) → ¬ (o = 74 ∧ b = 0) → ¬ (o = 75 ∧ b = 0) → ¬ (o = 76 ∧ b = 0) → ¬ (o = 77 ∧ b = 0) → ¬ (o = 78 ∧ b = 0) → υ.1 o b = σ.1 o b) ∧ (∀ i, i < 30 * W → υ.1 75 0 i = σ.1 75 0 i ∧ υ.1 76 0 i = σ.1 76 0 i ∧ υ.1 77 0 i = σ.1 77 0 i) ∧ (∀ i, i ≠ W → υ.1 73 0 i = σ.1 73 0 i ∧ υ.1 74 0 i = σ.1 74 0 i ∧ υ.1 78 0 i = σ.1 78 0 i) ∧ (∀ f, f ≠ 0 → f ≠ 32 → f ≠ 33 → f ≠ 34 → f ≠ 35 → f ≠ 36 → f ≠ 43 → f ≠ 44 → υ.1 50 0 f = σ.1 50 0 f) ∧ υ.1 50 0 34 = tk_fl (σ.1 72 0) (mo_mz σ) s ∧ (¬ tk_fl (σ.1 72 0) (mo_mz σ) s = -1 → υ.1 50 0 36 = nI W ∧ υ.1 50 0 0 = (-6 : Int32) ∧ υ.1 73 0 W = σ.1 73 0 W ∧ υ.1 74 0 W = σ.1 74 0 W ∧ υ.1 78 0 W = σ.1 78 0 W) ∧ (tk_fl (σ.1 72 0) (mo_mz σ) s = -1 → υ.1 50 0 36 = nI (W + 1) ∧ υ.1 50 0 0 = 0 ∧ υ.1 73 0 W = p ∧ υ.1 74 0 W = nI (tk_J (σ.1 72 0) (mo_mz σ) s + 1) ∧ υ.1 78 0 W = 0 ∧ tk_J (σ.1 72 0) (mo_mz σ) s < 30 ∧ mo_rows υ (σ.1 72 0) (mo_mz σ) s W (tk_J (σ.1 72 0) (mo_mz σ) s + 1))
theorem mo_E6 {σ τ : mo_M} {W s f : Nat} {p : Int32} (hW : σ.1 50 0 36 = nI W) (hF : mo_lF σ τ W) (hf : f < 1000000) (hfl : tk_fl (σ.1 72 0) (mo_mz σ) s = nI f) {x : Int32} (hx : x = -6) {y : Int32} (hy : y = nI f) : mo_mE σ (mo_wI (mo_wI τ 50 0 34 y) 50 0 0 x) W s p := by
  subst hx
  subst hy
  have hne : ¬ tk_fl (σ.1 72 0) (mo_mz σ) s = -1 := by rw [hfl]; exact mo_nIm hf
  obtain ⟨f1, f2, f3, f4⟩ := hF
  have e50 : (mo_wI (mo_wI τ 50 0 34 (nI f)) 50 0 0 (-6)).1 50 0 = upd (upd (τ.1 50 0) 34 (nI f)) 0 (-6) := by rw [mo_wI_s, mo_wI_s]
  have eo : ∀ o b, ¬ (o = 50 ∧ b = 0) → (mo_wI (mo_wI τ 50 0 34 (nI f)) 50 0 0 (-6)).1 o b = τ.1 o b := fun o b a => by rw [mo_wI_o _ _ _ _ _ _ _ a, mo_wI_o _ _ _ _ _ _ _ a]
  refine ⟨f1, fun o b a1 _ _ a2 a3 a4 _ => (eo o b a1).trans (f2 o b a1 a2 a3 a4), f3, fun i _ => ?_, fun g b0 b1 b2 b3 b4 b5 b6 b7 => ?_, ?_, fun _ => ⟨?_, ?_, ?_, ?_, ?_⟩, fun z => absurd z hne⟩
  · rw [eo 73 0 (by omega), eo 74 0 (by omega), eo 78 0 (by omega), f2 73 0 (by omega) (by omega) (by omega) (by omega), f2 74 0 (by omega) (by omega) (by omega) (by omega), f2 78 0 (by omega) (by omega) (by omega) (by omega)]
    exact ⟨rfl, rfl, rfl⟩
  · rw [e50, mo_une _ _ b0, mo_une _ _ b3]; exact f4 g b1 b2 b4 b6 b7
  · rw [e50, mo_une _ _ (by decide), mo_ueq, hfl]
  · rw [e50, mo_une _ _ (by decide), mo_une _ _ (by decide), f4 36 (by decide) (by decide) (by decide) (by decide) (by decide)]; exact hW
  · rw [e50, mo_ueq]
  · rw [eo 73 0 (by omega), f2 73 0 (by omega) (by omega) (by omega) (by omega)]
  · rw [eo 74 0 (by omega), f2 74 0 (by omega) (by omega) (by omega) (by omega)]
  · rw [eo 78 0 (by omega), f2 78 0 (by omega) (by omega) (by omega) (by omega)]
theorem mo_E0 {σ τ : mo_M} {W s m : Nat} {p x y a : Int32} (hW : σ.1 50 0 36 = nI W) (hF : mo_lF σ τ W) (hG : mo_lG σ τ W s m) (hfl : tk_fl (σ.1 72 0) (mo_mz σ) s = -1) (hJ : tk_J (σ.1 72 0) (mo_mz σ) s = m) (hx : x = 0) (hy : y = -1) (ha : a = nI (W + 1)) : mo_mE σ (mo_wI (mo_wI (mo_wI (mo_wI (mo_wI (mo_wI τ 50 0 34 y) 73 0 W p) 74 0 W (τ.1 50 0 43)) 78 0 W 0) 50 0 36 a) 50 0 0 x) W s p := by
  subst hx
  subst hy
  subst ha
  obtain ⟨f1, f2, f3, f4⟩ := hF
  have e50 : (mo_wI (mo_wI (mo_wI (mo_wI (mo_wI (mo_wI τ 50 0 34 (-1)) 73 0 W p) 74 0 W (τ.1 50 0 43)) 78 0 W 0) 50 0 36 (nI (W + 1))) 50 0 0 0).1 50 0 = upd (upd (upd (τ.1 50 0) 34 (-1)) 36 (nI (W + 1))) 0 0 := by
    rw [mo_wI_s, mo_wI_s]
    show upd (upd ((mo_wI τ 50 0 34 (-1)).1 50 0) 36 (nI (W + 1))) 0 0 = _
    rw [mo_wI_s]
  have e73 : (mo_wI (mo_wI (mo_wI (mo_wI (mo_wI (mo_wI τ 50 0 34 (-1)) 73 0 W p) 74 0 W (τ.1 50 0 43)) 78 0 W 0) 50 0 36 (nI (W + 1))) 50 0 0 0).1 73 0 = upd (τ.1 73 0) W p := mo_wI_s (mo_wI τ 50 0 34 (-1)) 73 0 W p
  have e74 : (mo_wI (mo_wI (mo_wI (mo_wI (mo_wI (mo_wI τ 50 0 34 (-1)) 73 0 W p) 74 0 W (τ.1 50 0 43)) 78 0 W 0) 50 0 36 (nI (W + 1))) 50 0 0 0).1 74 0 = upd (τ.1 74 0) W (τ.1 50 0 43) := mo_wI_s (mo_wI (mo_wI τ 50 0 34 (-1)) 73 0 W p) 74 0 W _
  have e78 : (mo_wI (mo_wI (mo_wI (mo_wI (mo_wI (mo_wI τ 50 0 34 (-1)) 73 0 W p) 74 0 W (τ.1 50 0 43)) 78 0 W 0) 50 0 36 (nI (W + 1))) 50 0 0 0).1 78 0 = upd (τ.1 78 0) W 0 := mo_wI_s (mo_wI (mo_wI (mo_wI τ 50 0 34 (-1)) 73 0 W p) 74 0 W _) 78 0 W 0
  have e75 : (mo_wI (mo_wI (mo_wI (mo_wI (mo_wI (mo_wI τ 50 0 34 (-1)) 73 0 W p) 74 0 W (τ.1 50 0 43)) 78 0 W 0) 50 0 36 (nI (W + 1))) 50 0 0 0).1 75 0 = τ.1 75 0 := rfl
  have e76 : (mo_wI (mo_wI (mo_wI (mo_wI (mo_wI (mo_wI τ 50 0 34 (-1)) 73 0 W p) 74 0 W (τ.1 50 0 43)) 78 0 W 0) 50 0 36 (nI (W + 1))) 50 0 0 0).1 76 0 = τ.1 76 0 := rfl
  have e77 : (mo_wI (mo_wI (mo_wI (mo_wI (mo_wI (mo_wI τ 50 0 34 (-1)) 73 0 W p) 74 0 W (τ.1 50 0 43)) 78 0 W 0) 50 0 36 (nI (W + 1))) 50 0 0 0).1 77 0 = τ.1 77 0 := rfl
  have eo : ∀ o b, ¬ (o = 50 ∧ b = 0) → ¬ (o = 73 ∧ b = 0) → ¬ (o = 74 ∧ b = 0) → ¬ (o = 78 ∧ b = 0) → (mo_wI (mo_wI (mo_wI (mo_wI (mo_wI (mo_wI τ 50 0 34 (-1)) 73 0 W p) 74 0 W (τ.1 50 0 43)) 78 0 W 0) 50 0 36 (nI (W + 1))) 50 0 0 0).1 o b = τ.1 o b := fun o b a1 a2 a3 a4 => by
    rw [mo_wI_o _ _ _ _ _ _ _ a1, mo_wI_o _ _ _ _ _ _ _ a1, mo_wI_o _ _ _ _ _ _ _ a4, mo_wI_o _ _ _ _ _ _ _ a3, mo_wI_o _ _ _ _ _ _ _ a2, mo_wI_o _ _ _ _ _ _ _ a1]
  have e2 : (mo_wI (mo_wI (mo_wI (mo_wI (mo_wI (mo_wI τ 50 0 34 (-1)) 73 0 W p) 74 0 W (τ.1 50 0 43)) 78 0 W 0) 50 0 36 (nI (W + 1))) 50 0 0 0).2 = τ.2 := rfl
  generalize mo_wI (mo_wI (mo_wI (mo_wI (mo_wI (mo_wI τ 50 0 34 (-1)) 73 0 W p) 74 0 W (τ.1 50 0 43)) 78 0 W 0) 50 0 36 (nI (W + 1))) 50 0 0 0 = υ at *
  obtain ⟨g35, g32, g33, gle, g43, g44, gm, ggo, gok, grow⟩ := hG
  refine ⟨e2.trans f1, fun o b a1 a2 a3 a4 a5 a6 a7 => (eo o b a1 a2 a3 a7).trans (f2 o b a1 a4 a5 a6), fun i hi => ?_, fun i hi => ?_, fun g b0 b1 b2 b3 b4 b5 b6 b7 => ?_, ?_, fun z => absurd hfl z, fun _ => ⟨?_, ?_, ?_, ?_, ?_, by omega, ?_⟩⟩
  · rw [e75, e76, e77]; exact f3 i hi
  · rw [e73, e74, e78, mo_une _ _ hi, mo_une _ _ hi, mo_une _ _ hi, f2 73 0 (by omega) (by omega) (by omega) (by omega), f2 74 0 (by omega) (by omega) (by omega) (by omega), f2 78 0 (by omega) (by omega) (by omega) (by omega)]
    exact ⟨rfl, rfl, rfl⟩
  · rw [e50, mo_une _ _ b0, mo_une _ _ b5, mo_une _ _ b3]; exact f4 g b1 b2 b4 b6 b7
  · rw [e50, mo_une _ _ (by decide), mo_une _ _ (by decide), mo_ueq, hfl]
  · rw [e50, mo_une _ _ (by decide), mo_ueq]
  · rw [e50, mo_ueq]
  · rw [e73, mo_ueq]
  · rw [e74, mo_ueq, g43, hJ]
  · rw [e78, mo_ueq]
  · rw [hJ]
    intro j hj
    rw [e75, e76, e77]
    exact grow j hj
set_option maxHeartbeats 4000000 in
theorem lx_X12_warning (g : mo_E) (σ : mo_M) (Q : mo_Q) (W s : Nat) (p : Int32) (hl : mo_le (σ.1 50 0 31) 200) (hW : σ.1 50 0 36 = nI W) (hQ : ∀ υ, mo_mE σ υ W s p → Q (some (.inl (mo_ite (tk_fl (σ.1 72 0) (mo_mz σ) s = -1) (nI W) (-6)))) υ) (τ : mo_M) (hF : mo_lF σ τ W) (hX : mo_lX σ τ s) : mo_X g t_X12_warning Q 127 [some (.inr (.inr (50, 0))), some (.inl p)] [] τ := by
  obtain ⟨f, f1, f2, f3⟩ := hX
  have hmz : mo_mz σ ≤ 200 := hl.2
  have hne : ¬ τ.1 50 0 35 = (-1 : Int32) := by rw [f2]; exact mo_nIm (by omega)
  have hne2 : ¬ tk_fl (σ.1 72 0) (mo_mz σ) s = -1 := by rw [f3]; exact mo_nIm (by omega)
  refine bt_X12_warning g p (fun _ _ => False) τ Q ⟨fun _ => ⟨fun z => absurd z hne, fun _ => ?_⟩, fun z => absurd z hne⟩ (fun _ _ z => z.elim)
  have z := hQ _ (mo_E6 (p := p) (y := τ.1 50 0 35) (x := if (-6 : Int32) < 0 then (-6 : Int32) else 0) hW hF (by omega) f3 (if_pos (by decide)) f2)
  rw [mo_ite_f hne2] at z
  exact z
set_option maxHeartbeats 4000000 in
theorem lp_X12_warning (g : mo_E) (σ : mo_M) (Q : mo_Q) (W s : Nat) (p : Int32) (hl : mo_le (σ.1 50 0 31) 200) (hW : σ.1 50 0 36 = nI W) (hW2 : W < 20) (hQ : ∀ υ, mo_mE σ υ W s p → Q (some (.inl (mo_ite (tk_fl (σ.1 72 0) (mo_mz σ) s = -1) (nI W) (-6)))) υ) : ∀ (d m : Nat) (τ : mo_M), 30 < m + d → mo_lA σ τ W s m → mo_X g t_X12_warning Q 127 [some (.inr (.inr (50, 0))), some (.inl p)] [] τ := by
  intro d
  induction d with
  | zero =>
    intro m τ h1 hA
    rcases hA with ⟨hF, hG | hX⟩
    · have := hG.2.2.2.2.2.2.1; omega
    · exact lx_X12_warning g σ Q W s p hl hW hQ τ hF hX
  | succ d ih =>
    intro m τ h1 hA
    obtain ⟨hF, hG | hX⟩ := hA
    case inr => exact lx_X12_warning g σ Q W s p hl hW hQ τ hF hX
    refine bt_X12_warning g p (fun j υ => j = p ∧ mo_lA σ υ W s (m + 1)) τ Q ?_ (fun j υ q => by obtain ⟨rfl, q⟩ := q; exact ih (m + 1) υ (by omega) q)
    obtain ⟨g35, g32, g33, gle, g43, g44, gm, ggo, gok, grow⟩ := id hG
    obtain ⟨e72, emz, e36, e31⟩ := mo_lF_e hF
    have hmz : mo_mz σ ≤ 200 := hl.2
    have hE := mo_tE_le (σ.1 72 0) gle
    have emp : mo_mp τ = (tk_tst (σ.1 72 0) (mo_mz σ) (tk_ps (σ.1 72 0) (mo_mz σ) s m)).2.1 := by unfold mo_mp; rw [g32]; exact mo_cl (by omega)
    have hS : mo_mS τ := ⟨by rw [e31]; exact hl, by rw [emp, emz]; exact gle, by rw [emp]; exact g32, by rw [e72, emz, emp]; exact g33⟩
    have w1 : mo_mwd τ 4545 = tk_an (σ.1 72 0) (mo_mz σ) (tk_ps (σ.1 72 0) (mo_mz σ) s m) := by unfold mo_mwd; rw [e72, emz, emp]; rfl
    have w2 : mo_mwd τ 591 = tk_or (σ.1 72 0) (mo_mz σ) (tk_ps (σ.1 72 0) (mo_mz σ) s m) := by unfold mo_mwd; rw [e72, emz, emp]; rfl
    have c33 : (τ.1 50 0 33).toNatClampNeg = mo_tE (σ.1 72 0) (mo_mz σ) (tk_tst (σ.1 72 0) (mo_mz σ) (tk_ps (σ.1 72 0) (mo_mz σ) s m)).2.1 := by rw [g33]; exact mo_cl (by omega)
    have hN : mo_tS (τ.1 72 0) (mo_mz τ) (τ.1 50 0 33).toNatClampNeg = tk_ps (σ.1 72 0) (mo_mz σ) s (m + 1) := by rw [e72, emz, c33]; rfl
    have eo : ∀ v ρ, mo_rowI (mo_wI τ 50 0 44 v) 50 0 ρ = mo_rowI τ 50 0 ρ := fun v ρ => by rw [mo_wI_row, mo_rowI_r]
    have hor : ∀ (ρ : Nat → Int32), tk_or (σ.1 72 0) (mo_mz σ) (tk_ps (σ.1 72 0) (mo_mz σ) s m) → mo_mto (mo_wI τ 50 0 44 (τ.1 50 0 44 + (1 : Int32))) ρ (mo_tS (τ.1 72 0) (mo_mz τ) (τ.1 50 0 33).toNatClampNeg) → mo_lB σ (mo_rowI τ 50 0 ρ) W s (m + 1) := by
      intro ρ qo h
      rw [hN] at h
      obtain ⟨r1, r2, r3, r4⟩ := h
      have r3 : ρ 33 = nI (mo_tE (τ.1 72 0) (mo_mz τ) (tk_ps (σ.1 72 0) (mo_mz σ) s (m + 1))) := r3
      rw [e72, emz] at r3
      have r4' : ∀ k, k ≠ 32 → k ≠ 33 → ρ k = upd (τ.1 50 0) 44 (τ.1 50 0 44 + (1 : Int32)) k := fun k a b => (r4 k a b).trans (by rw [mo_wI_s])
      refine mo_nstep (v := τ.1 50 0 44 + (1 : Int32)) hl hF hG (Or.inl qo) ?_ r2 r3 ?_ (fun f b1 b2 b3 => ?_)
      · rw [g44, nI_1]
        exact congrArg nI (mo_ite_t (x := tk_tm (σ.1 72 0) (mo_mz σ) s m + 1) (y := tk_tm (σ.1 72 0) (mo_mz σ) s m) qo).symm
      · rw [r4' 44 (by decide) (by decide), mo_ueq]
      · rw [r4' f b1 b2, mo_une _ _ b3]
    rw [show BT_X12_warning p (fun j υ => j = p ∧ mo_lA σ υ W s (m + 1)) τ Q = BT_X12_warning p (fun j υ => j = p ∧ mo_lA σ υ W s (m + 1)) τ Q from rfl]
    unfold BT_X12_warning
    simp only [eo]
    rw [w1, w2]
    refine ⟨fun z => absurd g35 z, fun _ => ⟨⟨hS, Or.inr (Or.inr (Or.inl rfl))⟩, fun qa => ⟨⟨hS, Or.inr (Or.inl rfl)⟩, fun qo => ⟨mo_mS_pre hS, fun ρ1 h2 => ?_⟩, fun qo => ⟨mo_mS_pre hS, fun ρ4 h2 => ?_⟩⟩, fun qa => ⟨⟨hS, Or.inr (Or.inl rfl)⟩, fun qo => ?_, fun qo => ⟨⟨hS, Or.inr (Or.inl rfl)⟩, mo_mS_pre hS, fun ρ7 h2 => ?_⟩⟩⟩⟩
    · rw [hN] at h2
      obtain ⟨r1, r2, r3, r4⟩ := h2
      rw [e72, emz] at r3
      have hB : mo_lB σ (mo_rowI τ 50 0 ρ1) W s (m + 1) := by
        refine mo_nstep (v := τ.1 50 0 44) hl hF hG (Or.inr qa) ?_ r2 r3 (r4 44 (by decide) (by decide)) (fun f b1 b2 _ => r4 f b1 b2)
        rw [g44]
        exact congrArg nI (mo_ite_f (x := tk_tm (σ.1 72 0) (mo_mz σ) s m + 1) (y := tk_tm (σ.1 72 0) (mo_mz σ) s m) qo).symm
      obtain ⟨t1, t2, t3⟩ := mo_tstep hl hW hW2 hB
      exact ⟨t1, fun q ρ hρ => ⟨trivial, t2 q ρ hρ⟩, fun q ρ hρ => ⟨trivial, t3 q ρ hρ⟩⟩
    · obtain ⟨t1, t2, t3⟩ := mo_tstep hl hW hW2 (hor ρ4 qo h2)
      exact ⟨t1, fun q ρ hρ => ⟨trivial, t2 q ρ hρ⟩, fun q ρ hρ => ⟨trivial, t3 q ρ hρ⟩⟩
    · have hng : ¬ tk_go (σ.1 72 0) (mo_mz σ) s m := fun z => by rcases z.2 with z | z; (· exact qo z); exact qa z
      have hJ : tk_J (σ.1 72 0) (mo_mz σ) s = m := tk_J_at (by omega) ggo (Or.inr hng)
      have ew : (τ.1 50 0 36).toNatClampNeg = W := by rw [e36, hW]; exact mo_cl (by omega)
      have hv20 : vp_in (τ.1 50 0 36) 20 := by rw [e36, hW]; exact mo_inN hW2 (by decide)
      have e1 : τ.1 50 0 36 + (1 : Int32) = nI (W + 1) := by rw [e36, hW, nI_1]
      have e2 : nI (W + 1) - (1 : Int32) = nI W := nI_pred W
      have hk : mo_kn (σ.1 72 0) (mo_mz σ) (tk_tst (σ.1 72 0) (mo_mz σ) (tk_ps (σ.1 72 0) (mo_mz σ) s m)).2.1 = 0 ↔ mo_mz σ ≤ (tk_tst (σ.1 72 0) (mo_mz σ) (tk_ps (σ.1 72 0) (mo_mz σ) s m)).2.1 := mo_kn0
      have h31 : σ.1 50 0 31 = nI (mo_mz σ) := hl.1
      refine ⟨fun z => ?_, fun z => ⟨fun y => absurd g35 y, fun _ => ⟨fun y => ?_, fun _ => ?_⟩⟩⟩
      · rw [e31, g32, h31, nI_leI (by omega) (by omega)] at z
        have hfl : tk_fl (σ.1 72 0) (mo_mz σ) s = -1 := by
          unfold tk_fl
          rw [hJ, mo_ite_f (by omega), mo_ite_t ⟨gok, hk.mpr z⟩]
        refine ⟨fun _ => ⟨hv20, hv20, hv20, ?_⟩, fun y => absurd g35 y⟩
        rw [ew, e1, e2]
        have y := hQ _ (mo_E0 (p := p) (y := τ.1 50 0 35) (x := if nI W < 0 then nI W else 0) (a := nI (W + 1)) hW hF hG hfl hJ (if_neg (nI_pos (by omega))) g35 rfl)
        rw [mo_ite_t hfl] at y
        exact y
      · rw [e31, g32, h31, nI_leI (by omega) (by omega)] at z
        exact absurd y (show ¬ τ.1 50 0 32 = (-1 : Int32) by rw [g32]; exact mo_nIm (by omega))
      · rw [e31, g32, h31, nI_leI (by omega) (by omega)] at z
        have hfl : tk_fl (σ.1 72 0) (mo_mz σ) s = nI (tk_tst (σ.1 72 0) (mo_mz σ) (tk_ps (σ.1 72 0) (mo_mz σ) s m)).2.1 := by
          unfold tk_fl
          rw [hJ, mo_ite_f (by omega), mo_ite_f (fun y => z (hk.mp y.2))]
        have hF2 : mo_lF σ (mo_wI τ 50 0 35 (τ.1 50 0 32)) W := by
          rw [mo_wI_row]
          exact mo_lF_50 hF (fun f _ _ b3 _ _ => mo_une _ _ b3)
        have y := hQ _ (mo_E6 (p := p) (y := τ.1 50 0 32) (x := if (-6 : Int32) < 0 then (-6 : Int32) else 0) hW hF2 (by omega) hfl (if_pos (by decide)) g32)
        rw [mo_ite_f (by rw [hfl]; exact mo_nIm (by omega))] at y
        exact y
    · obtain ⟨t1, t2, t3⟩ := mo_tstep hl hW hW2 (hor ρ7 qo h2)
      exact ⟨t1, fun q ρ hρ => ⟨trivial, t2 q ρ hρ⟩, fun q ρ hρ => ⟨trivial, t3 q ρ hρ⟩⟩
