def ST_X7_read : mo_S := fun as σ Q => ∃ a : Int32, ∃ w : Nat, as = [.inr (.inr (32, 0)), .inl a, .inr (.inr (39, w))] ∧ ((mo_le (σ.1 30 0 1) 200 ∧ mo_le ((mo_wI σ 32 0 3 (0 : Int32)).1 32 0 3) (σ.1 30 0 1).toNatClampNeg) ∧ ((mo_cS (mo_stp (mo_wI σ 32 0 3 (0 : Int32))) ∧ 91 ≤ 91 ∧ 91 ≤ 94) ∧ ((mo_cwd (mo_stp (mo_wI σ 32 0 3 (0 : Int32))) 91 → (∀ ρ1 : Nat → Int32, (mo_cto (mo_stp (mo_wI σ 32 0 3 (0 : Int32))) ρ1 (mo_cN (mo_stp (mo_wI σ 32 0 3 (0 : Int32)))) ∧ ρ1 4 = (mo_stp (mo_wI σ 32 0 3 (0 : Int32))).1 32 0 4 ∧ ρ1 5 = (mo_stp (mo_wI σ 32 0 3 (0 : Int32))).1 32 0 5) → ((mo_cS (mo_rowI (mo_stp (mo_wI σ 32 0 3 (0 : Int32))) 32 0 ρ1) ∧ (a - (1 : Int32)).toInt ≤ 999) ∧ ((mo_cnum (mo_rowI (mo_stp (mo_wI σ 32 0 3 (0 : Int32))) 32 0 ρ1) (a - (1 : Int32)) → (∀ ρ2 : Nat → Int32, (mo_cto (mo_rowI (mo_stp (mo_wI σ 32 0 3 (0 : Int32))) 32 0 ρ1) ρ2 (mo_cN (mo_rowI (mo_stp (mo_wI σ 32 0 3 (0 : Int32))) 32 0 ρ1)) ∧ ρ2 4 = nI (mo_cnv (mo_rowI (mo_stp (mo_wI σ 32 0 3 (0 : Int32))) 32 0 ρ1)) ∧ ρ2 5 = (mo_rowI (mo_stp (mo_wI σ 32 0 3 (0 : Int32))) 32 0 ρ1).1 32 0 5) → ((w < 20) ∧ ((w < 20) ∧ ((w < 20 ∧ mo_le ((mo_beg (mo_rowI (mo_rowI (mo_stp (mo_wI σ 32 0 3 (0 : Int32))) 32 0 ρ1) 32 0 ρ2) w (ρ2 4)).1 30 0 1) 200 ∧ mo_rI (mo_beg (mo_rowI (mo_rowI (mo_stp (mo_wI σ 32 0 3 (0 : Int32))) 32 0 ρ1) 32 0 ρ2) w (ρ2 4)) (mo_beg (mo_rowI (mo_rowI (mo_stp (mo_wI σ 32 0 3 (0 : Int32))) 32 0 ρ1) 32 0 ρ2) w (ρ2 4)) w (mo_cp (mo_beg (mo_rowI (mo_rowI (mo_stp (mo_wI σ 32 0 3 (0 : Int32))) 32 0 ρ1) 32 0 ρ2) w (ρ2 4))) 0 ((mo_beg (mo_rowI (mo_rowI (mo_stp (mo_wI σ 32 0 3 (0 : Int32))) 32 0 ρ1) 32 0 ρ2) w (ρ2 4)).1 39 w 3)) ∧ ∀ υ : mo_M, mo_frm (mo_beg (mo_rowI (mo_rowI (mo_stp (mo_wI σ 32 0 3 (0 : Int32))) 32 0 ρ1) 32 0 ρ2) w (ρ2 4)) υ w → (tk_fl ((mo_beg (mo_rowI (mo_rowI (mo_stp (mo_wI σ 32 0 3 (0 : Int32))) 32 0 ρ1) 32 0 ρ2) w (ρ2 4)).1 31 0) (mo_cn (mo_beg (mo_rowI (mo_rowI (mo_stp (mo_wI σ 32 0 3 (0 : Int32))) 32 0 ρ1) 32 0 ρ2) w (ρ2 4))) (mo_cp (mo_beg (mo_rowI (mo_rowI (mo_stp (mo_wI σ 32 0 3 (0 : Int32))) 32 0 ρ1) 32 0 ρ2) w (ρ2 4))) = -1 → mo_rE (mo_beg (mo_rowI (mo_rowI (mo_stp (mo_wI σ 32 0 3 (0 : Int32))) 32 0 ρ1) 32 0 ρ2) w (ρ2 4)) υ w (mo_cp (mo_beg (mo_rowI (mo_rowI (mo_stp (mo_wI σ 32 0 3 (0 : Int32))) 32 0 ρ1) 32 0 ρ2) w (ρ2 4))) ((mo_beg (mo_rowI (mo_rowI (mo_stp (mo_wI σ 32 0 3 (0 : Int32))) 32 0 ρ1) 32 0 ρ2) w (ρ2 4)).1 39 w 3)) → Q (some (.inl (tk_fl ((mo_beg (mo_rowI (mo_rowI (mo_stp (mo_wI σ 32 0 3 (0 : Int32))) 32 0 ρ1) 32 0 ρ2) w (ρ2 4)).1 31 0) (mo_cn (mo_beg (mo_rowI (mo_rowI (mo_stp (mo_wI σ 32 0 3 (0 : Int32))) 32 0 ρ1) 32 0 ρ2) w (ρ2 4))) (mo_cp (mo_beg (mo_rowI (mo_rowI (mo_stp (mo_wI σ 32 0 3 (0 : Int32))) 32 0 ρ1) 32 0 ρ2) w (ρ2 4)))))) υ))))) ∧ (¬ mo_cnum (mo_rowI (mo_stp (mo_wI σ 32 0 3 (0 : Int32))) 32 0 ρ1) (a - (1 : Int32)) → (∀ ρ3 : Nat → Int32, (mo_cto (mo_rowI (mo_stp (mo_wI σ 32 0 3 (0 : Int32))) 32 0 ρ1) ρ3 (mo_cp (mo_rowI (mo_stp (mo_wI σ 32 0 3 (0 : Int32))) 32 0 ρ1)) ∧ ρ3 5 = (mo_rowI (mo_stp (mo_wI σ 32 0 3 (0 : Int32))) 32 0 ρ1).1 32 0 5) → Q (some (.inl (ρ3 2))) (mo_rowI (mo_rowI (mo_stp (mo_wI σ 32 0 3 (0 : Int32))) 32 0 ρ1) 32 0 ρ3))))))) ∧ (¬ mo_cwd (mo_stp (mo_wI σ 32 0 3 (0 : Int32))) 91 → Q (some (.inl ((mo_stp (mo_wI σ 32 0 3 (0 : Int32))).1 32 0 2))) (mo_stp (mo_wI σ 32 0 3 (0 : Int32)))))))
theorem mT_X7_read : ∀ (as : List mo_V) (σ : mo_M) (P P' : mo_Q), (∀ x τ, P x τ → P' x τ) → ST_X7_read as σ P → ST_X7_read as σ P' := by
  rintro as σ P P' hm ⟨a, w, e, hq⟩
  exact ⟨a, w, e, ⟨hq.1, ⟨hq.2.1, ⟨fun c1 => fun ρ1 hr1 => ⟨((hq.2.2.1 c1) ρ1 hr1).1, ⟨fun c3 => fun ρ2 hr2 => ⟨((((hq.2.2.1 c1) ρ1 hr1).2.1 c3) ρ2 hr2).1, ⟨((((hq.2.2.1 c1) ρ1 hr1).2.1 c3) ρ2 hr2).2.1, ⟨((((hq.2.2.1 c1) ρ1 hr1).2.1 c3) ρ2 hr2).2.2.1, fun υ q1 q2 => hm _ _ (((((hq.2.2.1 c1) ρ1 hr1).2.1 c3) ρ2 hr2).2.2.2 υ q1 q2)⟩⟩⟩, fun c3 => fun ρ3 hr3 => hm _ _ ((((hq.2.2.1 c1) ρ1 hr1).2.2 c3) ρ3 hr3)⟩⟩, fun c1 => hm _ _ (hq.2.2.2 c1)⟩⟩⟩⟩
set_option maxRecDepth 20000 in
set_option maxHeartbeats 2000000 in
theorem ctT_X7_read : mo_ct yX7_read t_X7_read ST_X7_read := by
  refine mo_ct_of (by decide) rfl ?_
  rintro g as σ Q ⟨a, w, rfl, hQ⟩
  refine ⟨Nat.le_of_ble_eq_true rfl, mo_go ok_X7_read (cs_X7_read_ok g) [43] 59 ?_⟩
  intro K hK
  refine And.intro rfl (And.intro (show mo_le (σ.1 30 0 1) 200 ∧ mo_le ((mo_wI σ 32 0 3 (0 : Int32)).1 32 0 3) (σ.1 30 0 1).toNatClampNeg from hQ.1) ?_)
  refine Exists.intro 91 (And.intro rfl ?_)
  refine And.intro (show mo_cS (mo_stp (mo_wI σ 32 0 3 (0 : Int32))) ∧ 91 ≤ 91 ∧ 91 ≤ 94 from hQ.2.1) ?_
  refine And.intro (fun (c1 : mo_cwd (mo_stp (mo_wI σ 32 0 3 (0 : Int32))) 91) => ?_) (fun (c1 : ¬ mo_cwd (mo_stp (mo_wI σ 32 0 3 (0 : Int32))) 91) => ?_)
  · intro ρ1 hr1
    refine And.intro (fun (c2 : (1 : Int32) = 0) => ?_) (fun (c2 : ¬ (1 : Int32) = 0) => ?_)
    · exact absurd c2 (by decide)
    · refine Exists.intro (a - (1 : Int32)) (And.intro rfl ?_)
      refine And.intro (show mo_cS (mo_rowI (mo_stp (mo_wI σ 32 0 3 (0 : Int32))) 32 0 ρ1) ∧ (a - (1 : Int32)).toInt ≤ 999 from ((hQ.2.2.1 c1) ρ1 hr1).1) ?_
      refine And.intro (fun (c3 : mo_cnum (mo_rowI (mo_stp (mo_wI σ 32 0 3 (0 : Int32))) 32 0 ρ1) (a - (1 : Int32))) => ?_) (fun (c3 : ¬ mo_cnum (mo_rowI (mo_stp (mo_wI σ 32 0 3 (0 : Int32))) 32 0 ρ1) (a - (1 : Int32))) => ?_)
      · intro ρ2 hr2
        refine And.intro (fun (c4 : ¬ (1 : Int32) = 0) => ?_) (fun (c4 : (1 : Int32) = 0) => ?_)
        · refine And.intro (show w < 20 from ((((hQ.2.2.1 c1) ρ1 hr1).2.1 c3) ρ2 hr2).1) ?_
          refine Exists.intro w (Exists.intro (ρ2 4) (And.intro rfl ?_))
          refine And.intro (show w < 20 from ((((hQ.2.2.1 c1) ρ1 hr1).2.1 c3) ρ2 hr2).2.1) ?_
          exact hK _ _ _ _ (lp_X7_read g (mo_beg (mo_rowI (mo_rowI (mo_stp (mo_wI σ 32 0 3 (0 : Int32))) 32 0 ρ1) 32 0 ρ2) w (ρ2 4)) Q a w _ _ ((((hQ.2.2.1 c1) ρ1 hr1).2.1 c3) ρ2 hr2).2.2.1.1 ((((hQ.2.2.1 c1) ρ1 hr1).2.1 c3) ρ2 hr2).2.2.1.2.1 ((((hQ.2.2.1 c1) ρ1 hr1).2.1 c3) ρ2 hr2).2.2.2 31 0 _ (by omega) (by omega) ((((hQ.2.2.1 c1) ρ1 hr1).2.1 c3) ρ2 hr2).2.2.1.2.2)
        · exact absurd c4 (by decide)
      · intro ρ3 hr3
        refine And.intro (fun (c4 : ¬ (0 : Int32) = 0) => ?_) (fun (c4 : (0 : Int32) = 0) => ?_)
        · exact absurd c4 (by decide)
        · exact ((((hQ.2.2.1 c1) ρ1 hr1).2.2 c3) ρ3 hr3)
  · refine And.intro (fun (c2 : (0 : Int32) = 0) => ?_) (fun (c2 : ¬ (0 : Int32) = 0) => ?_)
    · exact (hQ.2.2.2 c1)
    · exact absurd c2 (by decide)
noncomputable def tk_s0 (r : Nat → Int32) (n : Nat) : Nat := mo_tS r n 0
noncomputable def tk_rd (r : Nat → Int32) (n : Nat) (a : Int) : Int32 := mo_ite (tk_wd r n [98, 97, 100] (tk_s0 r n)) (mo_ite (tk_num r n (a - 1) (tk_N r n (tk_s0 r n))) (tk_fl r n (tk_N r n (tk_N r n (tk_s0 r n)))) (nI (tk_N r n (tk_s0 r n)))) (nI (tk_s0 r n))
noncomputable def mo_cs2 (σ : mo_M) : Nat := tk_N (σ.1 31 0) (mo_cn σ) (tk_N (σ.1 31 0) (mo_cn σ) (tk_s0 (σ.1 31 0) (mo_cn σ)))
noncomputable def mo_cs1v (σ : mo_M) : Nat := tk_nv (σ.1 31 0) (mo_cn σ) (tk_N (σ.1 31 0) (mo_cn σ) (tk_s0 (σ.1 31 0) (mo_cn σ)))
def S_X7_read : mo_S := fun as σ Q => ∃ a : Int32, ∃ w : Nat, as = [.inr (.inr (32, 0)), .inl a, .inr (.inr (39, w))] ∧ ((mo_le (σ.1 30 0 1) 200 ∧ w < 20 ∧ 0 ≤ a ∧ a ≤ 30) ∧ (∀ τ : mo_M, (mo_frm σ τ w ∧ (tk_rd (σ.1 31 0) (mo_cn σ) a.toInt = -1 → mo_rE σ τ w (mo_cs2 σ) (nI (mo_cs1v σ)))) → Q (some (.inl (tk_rd (σ.1 31 0) (mo_cn σ) a.toInt))) (τ)))
theorem m_X7_read : ∀ (as : List mo_V) (σ : mo_M) (P P' : mo_Q), (∀ x τ, P x τ → P' x τ) → S_X7_read as σ P → S_X7_read as σ P' := by
  rintro as σ P P' hm ⟨a, w, e, hq⟩
  exact ⟨a, w, e, ⟨hq.1, fun τ hz => hm _ _ (hq.2 τ hz)⟩⟩

theorem mo_frm_t {σ τ υ : mo_M} {w : Nat} (h1 : mo_frm σ τ w) (h2 : mo_frm τ υ w) : mo_frm σ υ w := ⟨h2.1.trans h1.1, fun o b a1 a2 a3 a4 => (h2.2.1 o b a1 a2 a3 a4).trans (h1.2.1 o b a1 a2 a3 a4), h2.2.2.trans h1.2.2⟩
theorem mo_frm_32 (σ : mo_M) (ρ : Nat → Int32) (w : Nat) : mo_frm σ (mo_rowI σ 32 0 ρ) w := ⟨rfl, fun o b g1 _ _ _ => mo_rowI_o _ _ _ _ g1, rfl⟩
theorem mo_frm_beg (σ : mo_M) (w : Nat) (a : Int32) : mo_frm σ (mo_beg σ w a) w := by
  refine ⟨rfl, fun o b g1 g2 g3 g4 => ?_, ?_⟩
  · unfold mo_beg
    rw [mo_wI_o _ _ _ _ _ _ _ g2, mo_wI_o _ _ _ _ _ _ _ g4, mo_wI_o _ _ _ _ _ _ _ g3, mo_wI_o _ _ _ _ _ _ _ g2, mo_wI_o _ _ _ _ _ _ _ g2]
  · unfold mo_beg
    rw [mo_wI_s]
    show upd ((mo_wI (mo_wI σ 39 w 3 a) 39 w 2 0).1 39 w) 2 1 4 = σ.1 39 w 4
    rw [mo_wI_s, mo_wI_s]
    simp [upd]
theorem mo_beg_f (σ : mo_M) (w : Nat) (a : Int32) : (mo_beg σ w a).1 39 w 3 = a ∧ (mo_beg σ w a).1 39 w 2 = nI 1 ∧ (mo_beg σ w a).1 40 w 0 = 0 ∧ (mo_beg σ w a).1 41 w 0 = 999999999 := by
  unfold mo_beg
  refine ⟨?_, mo_wIg _ _ _ _ _, ?_, ?_⟩
  · rw [mo_wI_s]
    show upd ((mo_wI (mo_wI σ 39 w 3 a) 39 w 2 0).1 39 w) 2 1 3 = a
    rw [mo_wI_s, mo_wI_s]
    simp [upd]
  · show (mo_wI (mo_wI (mo_wI σ 39 w 3 a) 39 w 2 0) 40 w 0 0).1 40 w 0 = 0
    exact mo_wIg _ _ _ _ _
  · show (mo_wI (mo_wI (mo_wI (mo_wI σ 39 w 3 a) 39 w 2 0) 40 w 0 0) 41 w 0 999999999).1 41 w 0 = 999999999
    exact mo_wIg _ _ _ _ _
theorem mo_a1 {a : Int32} (h0 : 0 ≤ a) (h1 : a ≤ 30) : (a - (1 : Int32)).toInt = a.toInt - 1 := by
  obtain ⟨j, hj, rfl⟩ := nI_of (Int32.not_lt.mpr h0)
  rw [show (30 : Int32) = nI 30 from rfl, nI_leI hj (by omega)] at h1
  cases j with
  | zero => decide
  | succ j => rw [nI_pred, nI_toInt (by omega), nI_toInt (by omega)]; omega
set_option maxHeartbeats 4000000 in
theorem ct_X7_read : mo_ct yX7_read t_X7_read S_X7_read := mo_ct_imp ctT_X7_read (by
  rintro as σ Q ⟨a, w, rfl, ⟨hl, hw, ha0, ha1⟩, hQ⟩
  refine ⟨a, w, rfl, ?_⟩
  have e1 := mo_a1 ha0 ha1
  have ha : a.toInt ≤ 30 := Int32.le_iff_toInt_le.mp ha1
  obtain ⟨ρ0, e, hρ, -, -⟩ := mo_stp_row (σ := mo_wI σ 32 0 3 0) hl (p := 0) (Nat.zero_le _) rfl
  have hρ : mo_cto σ ρ0 (tk_s0 (σ.1 31 0) (mo_cn σ)) := hρ
  have c0 := mo_cto_cl hl hρ
  simp only [e]
  simp only [mo_w32, mo_rr32, mo_g32, mo_cS_r, mo_cto_r, mo_cnum_r, mo_cwd_r, mo_cN_r, mo_cp_r, mo_cnv_r, c0, e1]
  have hp0 : mo_le (0 : Int32) (σ.1 30 0 1).toNatClampNeg := ⟨rfl, Nat.zero_le _⟩
  refine ⟨⟨hl, hp0⟩, ⟨⟨hl, hρ⟩, by decide, by decide⟩, fun qb ρ1 h1 => ?_, fun qb => ?_⟩
  · have c1 := mo_cto_cl hl h1.1
    simp only [c1]
    refine ⟨⟨⟨hl, h1.1⟩, by omega⟩, fun qn ρ2 h2 => ⟨hw, hw, ?_⟩, fun qn ρ3 h3 => ?_⟩
    · have c2 := mo_cto_cl hl h2.1
      have hrd : tk_rd (σ.1 31 0) (mo_cn σ) a.toInt = tk_fl (σ.1 31 0) (mo_cn σ) (mo_cs2 σ) := (mo_ite_t qb).trans (mo_ite_t qn)
      have hbf := mo_beg_f (mo_rowI σ 32 0 ρ2) w (ρ2 4)
      have hfr := mo_frm_t (mo_frm_32 σ ρ2 w) (mo_frm_beg (mo_rowI σ 32 0 ρ2) w (ρ2 4))
      generalize hτ : mo_beg (mo_rowI σ 32 0 ρ2) w (ρ2 4) = τ at hbf hfr ⊢
      have t32 : τ.1 32 0 = ρ2 := by rw [← hτ]; rfl
      have t30 : τ.1 30 0 = σ.1 30 0 := hfr.2.1 30 0 (by omega) (by omega) (by omega) (by omega)
      have t31 : τ.1 31 0 = σ.1 31 0 := hfr.2.1 31 0 (by omega) (by omega) (by omega) (by omega)
      have tcn : mo_cn τ = mo_cn σ := by unfold mo_cn; rw [t30]
      have tcp : mo_cp τ = mo_cs2 σ := by unfold mo_cp; rw [t32]; exact c2
      have tcto : ∀ ρ q, mo_cto τ ρ q = mo_cto σ ρ q := fun ρ q => by unfold mo_cto; rw [t31, tcn]
      refine ⟨⟨hw, by rw [t30]; exact hl, ⟨rfl, fun _ _ _ _ _ _ => rfl, rfl⟩, ?_, fun j hj => absurd hj (by omega), rfl, 1, hbf.2.1, by omega, by omega, fun _ => ⟨rfl, fun v v0 v1 t ht => ?_⟩⟩, fun υ f1 f2 => ?_⟩
      · rw [tcp, tcto, t32, t31, tcn]; exact h2.1
      · rw [show t = 0 from by omega, hbf.2.2.1, hbf.2.2.2]
        exact ⟨fun _ j hj => absurd hj (by omega), fun _ => ⟨v0, v1⟩⟩
      · have hE : ∀ υ p, mo_rE τ υ w (mo_cs2 σ) p = mo_rE σ υ w (mo_cs2 σ) p := fun υ p => by unfold mo_rE; rw [t31, tcn]
        rw [t31, tcn, tcp] at f2 ⊢
        rw [hE, hbf.1, h2.2.1] at f2
        have z := hQ υ ⟨mo_frm_t hfr f1, fun q => f2 (by rw [← hrd]; exact q)⟩
        rw [hrd] at z
        exact z
    · have hrd : tk_rd (σ.1 31 0) (mo_cn σ) a.toInt = nI (tk_N (σ.1 31 0) (mo_cn σ) (tk_s0 (σ.1 31 0) (mo_cn σ))) := (mo_ite_t qb).trans (mo_ite_f qn)
      have z := hQ (mo_rowI σ 32 0 ρ3) ⟨mo_frm_32 σ ρ3 w, fun q => by rw [hrd] at q; exact absurd q (mo_nIm (by have := h3.1.1; have := hl.2; unfold mo_cn at *; omega))⟩
      rw [hrd] at z
      rw [h3.1.2.2.1]
      exact z
  · have hrd : tk_rd (σ.1 31 0) (mo_cn σ) a.toInt = nI (tk_s0 (σ.1 31 0) (mo_cn σ)) := mo_ite_f qb
    have z := hQ (mo_rowI σ 32 0 ρ0) ⟨mo_frm_32 σ ρ0 w, fun q => by rw [hrd] at q; exact absurd q (mo_nIm (by have := hρ.1; have := hl.2; unfold mo_cn at *; omega))⟩
    rw [hrd] at z
    rw [hρ.2.2.1]
    exact z)
def S_X11_warning : mo_S := fun as σ Q => as = [.inr (.inr (0, 0))] ∧ (((σ.1 0 0 12) < (20 : Int32) → (vp_in (σ.1 0 0 12) 20 ∧ ((mo_le (σ.1 30 0 1) 200 ∧ ((σ.1 0 0 12).toNatClampNeg) < 20 ∧ 0 ≤ (σ.1 1 0 1) ∧ (σ.1 1 0 1) ≤ 30) ∧ (∀ τ1 : mo_M, (mo_frm σ τ1 ((σ.1 0 0 12).toNatClampNeg) ∧ (tk_rd (σ.1 31 0) (mo_cn σ) (σ.1 1 0 1).toInt = -1 → mo_rE σ τ1 ((σ.1 0 0 12).toNatClampNeg) (mo_cs2 σ) (nI (mo_cs1v σ)))) → (((tk_rd (σ.1 31 0) (mo_cn σ) (σ.1 1 0 1).toInt) = (-1 : Int32) → Q (some (.inl ((((τ1.1 0 0 12) + (1 : Int32)) - (1 : Int32))))) (mo_wI (mo_wI (mo_wI (mo_wI τ1 0 0 13 (tk_rd (σ.1 31 0) (mo_cn σ) (σ.1 1 0 1).toInt)) 30 0 1 (0 : Int32)) 0 0 12 ((τ1.1 0 0 12) + (1 : Int32))) 0 0 14 0)) ∧ (¬ (tk_rd (σ.1 31 0) (mo_cn σ) (σ.1 1 0 1).toInt) = (-1 : Int32) → Q (some (.inl (-6 : Int32))) (mo_wI (mo_wI (mo_wI τ1 0 0 13 (tk_rd (σ.1 31 0) (mo_cn σ) (σ.1 1 0 1).toInt)) 30 0 1 (0 : Int32)) 0 0 14 (-6 : Int32)))))))) ∧ (¬ (σ.1 0 0 12) < (20 : Int32) → Q (some (.inl (-5 : Int32))) (mo_wI (mo_wI σ 30 0 1 (0 : Int32)) 0 0 14 (-5 : Int32))))
theorem m_X11_warning : ∀ (as : List mo_V) (σ : mo_M) (P P' : mo_Q), (∀ x τ, P x τ → P' x τ) → S_X11_warning as σ P → S_X11_warning as σ P' := by
  rintro as σ P P' hm ⟨e, hq⟩
  exact ⟨e, ⟨fun c1 => ⟨(hq.1 c1).1, ⟨(hq.1 c1).2.1, fun τ1 hr1 => ⟨fun c2 => hm _ _ (((hq.1 c1).2.2 τ1 hr1).1 c2), fun c2 => hm _ _ (((hq.1 c1).2.2 τ1 hr1).2 c2)⟩⟩⟩, fun c1 => hm _ _ (hq.2 c1)⟩⟩
def cs_X11_warning : Nat → mo_C := fun j => match j with
  | 0 => (2, true, 105, 11, S_X11_refuse)
  | 1 => (3, true, 190, 7, S_X7_read)
  | 2 => (2, true, 115, 11, S_X11_accept)
  | _ => (0, false, 0, 50, fun _ _ _ => False)
theorem cs_X11_warning_ok (g : mo_E) : ∀ j, mo_cok g t_X11_warning (cs_X11_warning j) ∧ mo_mon (cs_X11_warning j) := by
  intro j
  unfold cs_X11_warning
  split
  · exact ⟨mo_cokV ct_X11_refuse (by decide) ⟨_, _, rfl⟩ (by decide +kernel), m_X11_refuse⟩
  · exact ⟨mo_cokV ct_X7_read (by decide) ⟨_, _, rfl⟩ (by decide +kernel), m_X7_read⟩
  · exact ⟨mo_cokV ct_X11_accept (by decide) ⟨_, _, rfl⟩ (by decide +kernel), m_X11_accept⟩
  · exact ⟨mo_cok0 g _, mo_mon0⟩
set_option maxRecDepth 20000 in
set_option maxHeartbeats 2000000 in
theorem ct_X11_warning : mo_ct yX11_warning t_X11_warning S_X11_warning := by
  refine mo_ct_of (by decide) rfl ?_
  rintro g as σ Q ⟨rfl, hQ⟩
  refine ⟨Nat.le_of_ble_eq_true rfl, mo_go ok_X11_warning (cs_X11_warning_ok g) [] 51 ?_⟩
  intro K hK
  refine And.intro (fun (c1 : (σ.1 0 0 12) < (20 : Int32)) => ?_) (fun (c1 : ¬ (σ.1 0 0 12) < (20 : Int32)) => ?_)
  · refine And.intro (show vp_in (σ.1 0 0 12) 20 from (hQ.1 c1).1) ?_
    refine Exists.intro (σ.1 1 0 1) (Exists.intro ((σ.1 0 0 12).toNatClampNeg) (And.intro rfl ?_))
    refine And.intro (show mo_le (σ.1 30 0 1) 200 ∧ ((σ.1 0 0 12).toNatClampNeg) < 20 ∧ 0 ≤ (σ.1 1 0 1) ∧ (σ.1 1 0 1) ≤ 30 from (hQ.1 c1).2.1) ?_
    intro τ1 hr1
    refine And.intro (fun (c2 : (tk_rd (σ.1 31 0) (mo_cn σ) (σ.1 1 0 1).toInt) = (-1 : Int32)) => ?_) (fun (c2 : ¬ (tk_rd (σ.1 31 0) (mo_cn σ) (σ.1 1 0 1).toInt) = (-1 : Int32)) => ?_)
    · refine Exists.intro (((τ1.1 0 0 12) + (1 : Int32)) - (1 : Int32)) (And.intro rfl (And.intro trivial ?_))
      exact (((hQ.1 c1).2.2 τ1 hr1).1 c2)
    · refine Exists.intro (-6 : Int32) (And.intro rfl (And.intro trivial ?_))
      exact (((hQ.1 c1).2.2 τ1 hr1).2 c2)
  · refine Exists.intro (-5 : Int32) (And.intro rfl (And.intro trivial ?_))
    exact (hQ.2 c1)
