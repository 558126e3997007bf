theorem mo_ct_imp {y : MethodName} {mt : mo_T} {S S' : mo_S} (h : mo_ct y mt S') (hi : ∀ as σ Q, S as σ Q → S' as σ Q) : mo_ct y mt S := fun g l as σ Q hS => h g l as σ Q (hi _ _ _ hS)
/-! what tokens say -/
noncomputable def tk_N (r : Nat → Int32) (n s : Nat) : Nat := mo_tS r n (mo_tE r n s)
def tk_sg (r : Nat → Int32) (n : Nat) (c : Int32) (s : Nat) : Prop := mo_kn r n s = 3 ∧ r s = c
def tk_vl (r : Nat → Int32) (s : Nat) : Nat → Nat := mo_fo (fun i v => v * 10 + (r (s + i) - 48).toNatClampNeg) 0
noncomputable def tk_nv (r : Nat → Int32) (n s : Nat) : Nat := tk_vl r s (mo_tE r n s - s)
def tk_num (r : Nat → Int32) (n : Nat) (a : Int) (s : Nat) : Prop := mo_kn r n s = 2 ∧ (tk_nv r n s : Int) ≤ a
def tk_wd (r : Nat → Int32) (n : Nat) (ws : List Int32) (s : Nat) : Prop := mo_kn r n s = 1 ∧ mo_tE r n s = s + ws.length ∧ ∀ i, i < ws.length → r (s + i) = ws.getD i 0
theorem tk_N_le (r : Nat → Int32) {n s : Nat} (h : s ≤ n) : tk_N r n s ≤ n := (mo_tS_le r (mo_tE_le r h).2).2
theorem mo_ex_in {P : Nat → Prop} : ∀ {d p j : Nat}, p ≤ j → j < mo_ex P d p → P j
  | 0, p, j, h1, h2 => by simp only [mo_ex] at h2; omega
  | d + 1, p, j, h1, h2 => by
    rw [mo_ex] at h2
    by_cases h : P p
    · rw [mo_ite_t h] at h2
      by_cases e : j = p
      · subst e; exact h
      · exact mo_ex_in (d := d) (p := p + 1) (by omega) h2
    · rw [mo_ite_f h] at h2; omega
theorem mo_tE_in {r : Nat → Int32} {n s j : Nat} (h0 : ¬ mo_kn r n s = 0) (h3 : ¬ mo_kn r n s = 3) (h1 : s ≤ j) (h2 : j < mo_tE r n s) : mo_kn r n j = mo_kn r n s := by
  unfold mo_tE at h2
  rw [if_neg h0, if_neg h3] at h2
  by_cases e : j = s
  · rw [e]
  · exact mo_ex_in (P := fun j => mo_kn r n j = mo_kn r n s) (by omega) h2
theorem mo_kn2 {r : Nat → Int32} {n s : Nat} (h : mo_kn r n s = 2) : 48 ≤ r s ∧ r s ≤ 57 := by
  rcases mo_kn_c r n s with ⟨-, e⟩ | ⟨-, -, e⟩ | ⟨-, -, p, e⟩ | ⟨-, -, -, e⟩
  · rw [e] at h; exact absurd h (by decide)
  · rw [e] at h; exact absurd h (by decide)
  · exact p
  · rw [e] at h; exact absurd h (by decide)
theorem mo_dg {x : Int32} (h : 48 ≤ x ∧ x ≤ 57) : ∃ d, d ≤ 9 ∧ x = nI (d + 48) ∧ (x - 48).toNatClampNeg = d := by
  obtain ⟨j, hj, rfl⟩ := nI_of (x := x) (fun q => by have := h.1; simp only [Int32.le_iff_toInt_le, Int32.lt_iff_toInt_lt, show (48 : Int32).toInt = 48 from rfl, Int32.toInt_zero] at *; omega)
  have h1 := h.1
  have h2 := h.2
  rw [show (48 : Int32) = nI 48 from rfl, nI_leI (by omega) hj] at h1
  rw [show (57 : Int32) = nI 57 from rfl, nI_leI hj (by omega)] at h2
  refine ⟨j - 48, by omega, by rw [show j - 48 + 48 = j from by omega], ?_⟩
  rw [show j = (j - 48) + 48 from by omega, ← nI_add, show nI 48 = (48 : Int32) from rfl, Int32.add_sub_cancel, mo_cl (by omega)]
  omega
theorem mo_val_eq {σ : mo_M} {s : Nat} : ∀ {k : Nat}, (∀ i, i < k → 48 ≤ σ.1 31 0 (s + i) ∧ σ.1 31 0 (s + i) ≤ 57) → mo_val σ s k = nI (min (tk_vl (σ.1 31 0) s k) 1000)
  | 0, _ => rfl
  | k + 1, h => by
    have ih := mo_val_eq (σ := σ) (s := s) (k := k) (fun i hi => h i (by omega))
    obtain ⟨d, hd, hx, hy⟩ := mo_dg (h k (by omega))
    show (if (1000 : Int32) < (mo_val σ s k * (10 : Int32) + σ.1 31 0 (s + k)) - (48 : Int32) then (1000 : Int32) else (mo_val σ s k * (10 : Int32) + σ.1 31 0 (s + k)) - (48 : Int32)) = nI (min (tk_vl (σ.1 31 0) s k * 10 + (σ.1 31 0 (s + k) - 48).toNatClampNeg) 1000)
    rw [hy, ih]
    generalize tk_vl (σ.1 31 0) s k = w
    have e : (nI (min w 1000) * (10 : Int32) + σ.1 31 0 (s + k)) - (48 : Int32) = nI (min w 1000 * 10 + d) := by
      rw [hx, show (10 : Int32) = nI 10 from rfl, pk_mul, nI_add, show min w 1000 * 10 + (d + 48) = (min w 1000 * 10 + d) + 48 from by omega, ← nI_add, show nI 48 = (48 : Int32) from rfl, Int32.add_sub_cancel]
    rw [e]
    by_cases q : (1000 : Int32) < nI (min w 1000 * 10 + d)
    · rw [if_pos q]
      rw [show (1000 : Int32) = nI 1000 from rfl, nI_ltI (by omega) (by omega)] at q
      rw [show (1000 : Int32) = nI 1000 from rfl]
      congr 1
      omega
    · rw [if_neg q]
      rw [show (1000 : Int32) = nI 1000 from rfl, nI_ltI (by omega) (by omega)] at q
      congr 1
      omega
/-! the reader's state -/
def mo_cn (σ : mo_M) : Nat := (σ.1 30 0 1).toNatClampNeg
def mo_cp (σ : mo_M) : Nat := (σ.1 32 0 2).toNatClampNeg
def mo_cto (σ : mo_M) (ρ : Nat → Int32) (s : Nat) : Prop := s ≤ mo_cn σ ∧ ρ 1 = mo_kn (σ.1 31 0) (mo_cn σ) s ∧ ρ 2 = nI s ∧ ρ 3 = nI (mo_tE (σ.1 31 0) (mo_cn σ) s)
def mo_cS (σ : mo_M) : Prop := mo_le (σ.1 30 0 1) 200 ∧ mo_cto σ (σ.1 32 0) (mo_cp σ)
theorem mo_wI_row (σ : mo_M) (o w k : Nat) (v : Int32) : mo_wI σ o w k v = mo_rowI σ o w (upd (σ.1 o w) k v) := by
  conv => lhs; rw [← mo_rowI_id σ o w]
  exact mo_rowI_w _ _ _ _ _ _
theorem mo_stp_row {σ : mo_M} (hl : mo_le (σ.1 30 0 1) 200) {p : Nat} (hp : p ≤ mo_cn σ) (h3 : σ.1 32 0 3 = nI p) : ∃ ρ, mo_stp σ = mo_rowI σ 32 0 ρ ∧ mo_cto σ ρ (mo_tS (σ.1 31 0) (mo_cn σ) p) ∧ ρ 4 = σ.1 32 0 4 ∧ ρ 5 = σ.1 32 0 5 := by
  have hc : (σ.1 32 0 3).toNatClampNeg = p := by rw [h3]; exact mo_cl (by have := hl.2; unfold mo_cn at hp; omega)
  unfold mo_stp
  rw [hc, mo_wI_row σ 32 0 2, mo_rowI_w, mo_rowI_w]
  refine ⟨_, rfl, ⟨(mo_tS_le _ hp).2, ?_, ?_, ?_⟩, ?_, ?_⟩ <;> simp [upd, mo_cn]
theorem mo_cS_pre {σ : mo_M} (h : mo_cS σ) : (mo_le (σ.1 30 0 1) 200 ∧ mo_le (σ.1 32 0 3) (σ.1 30 0 1).toNatClampNeg) := by
  obtain ⟨h1, h2, -, -, h5⟩ := h
  have := (mo_tE_le (σ.1 31 0) h2).2
  have hn := h1.2
  unfold mo_cn at *
  refine ⟨h1, ?_⟩
  unfold mo_le
  rw [h5, mo_cl (by omega)]
  exact ⟨rfl, this⟩
noncomputable def mo_cN (σ : mo_M) : Nat := tk_N (σ.1 31 0) (mo_cn σ) (mo_cp σ)
def mo_csg (σ : mo_M) (c : Int32) : Prop := tk_sg (σ.1 31 0) (mo_cn σ) c (mo_cp σ)
def mo_cnum (σ : mo_M) (a : Int32) : Prop := tk_num (σ.1 31 0) (mo_cn σ) a.toInt (mo_cp σ)
noncomputable def mo_cnv (σ : mo_M) : Nat := tk_nv (σ.1 31 0) (mo_cn σ) (mo_cp σ)
def tk_wl (o : Nat) : List Int32 := [[98, 97, 100], [111, 114], [97, 110, 100], [97, 110, 121]].getD (o - 91) []
def mo_cwd (σ : mo_M) (o : Nat) : Prop := tk_wd (σ.1 31 0) (mo_cn σ) (tk_wl o) (mo_cp σ)
theorem mo_cS_step {σ : mo_M} (h : mo_cS σ) : ∃ ρ, mo_stp σ = mo_rowI σ 32 0 ρ ∧ mo_cto σ ρ (mo_cN σ) ∧ ρ 4 = σ.1 32 0 4 ∧ ρ 5 = σ.1 32 0 5 := mo_stp_row h.1 (mo_tE_le _ h.2.1).2 h.2.2.2.2
def ST_X7_takeSign : mo_S := fun as σ Q => ∃ c : Int32, as = [.inr (.inr (32, 0)), .inl c] ∧ ((¬ (σ.1 32 0 1) = (3 : Int32) → Q (some (.inl (0 : Int32))) (σ)) ∧ ((σ.1 32 0 1) = (3 : Int32) → (vp_in (σ.1 32 0 2) 200 ∧ (((σ.1 31 0 ((σ.1 32 0 2).toNatClampNeg)) = c → ((mo_le (σ.1 30 0 1) 200 ∧ mo_le (σ.1 32 0 3) (σ.1 30 0 1).toNatClampNeg) ∧ Q (some (.inl (1 : Int32))) (mo_stp σ))) ∧ (¬ (σ.1 31 0 ((σ.1 32 0 2).toNatClampNeg)) = c → Q (some (.inl (0 : Int32))) (σ))))))
theorem mT_X7_takeSign : ∀ (as : List mo_V) (σ : mo_M) (P P' : mo_Q), (∀ x τ, P x τ → P' x τ) → ST_X7_takeSign as σ P → ST_X7_takeSign as σ P' := by
  rintro as σ P P' hm ⟨c, e, hq⟩
  exact ⟨c, e, ⟨fun c1 => hm _ _ (hq.1 c1), fun c1 => ⟨(hq.2 c1).1, ⟨fun c2 => ⟨((hq.2 c1).2.1 c2).1, hm _ _ ((hq.2 c1).2.1 c2).2⟩, fun c2 => hm _ _ ((hq.2 c1).2.2 c2)⟩⟩⟩⟩
def cs_X7_takeSign : Nat → mo_C := fun j => match j with
  | 0 => (1, true, 31, 7, S_X7_step)
  | _ => (0, false, 0, 50, fun _ _ _ => False)
theorem cs_X7_takeSign_ok (g : mo_E) : ∀ j, mo_cok g t_X7_takeSign (cs_X7_takeSign j) ∧ mo_mon (cs_X7_takeSign j) := by
  intro j
  unfold cs_X7_takeSign
  split
  · exact ⟨mo_cokV ct_X7_step (by decide) ⟨_, _, rfl⟩ (by decide +kernel), m_X7_step⟩
  · exact ⟨mo_cok0 g _, mo_mon0⟩
set_option maxRecDepth 20000 in
set_option maxHeartbeats 2000000 in
theorem ctT_X7_takeSign : mo_ct yX7_takeSign t_X7_takeSign ST_X7_takeSign := by
  refine mo_ct_of (by decide) rfl ?_
  rintro g as σ Q ⟨c, rfl, hQ⟩
  refine ⟨Nat.le_of_ble_eq_true rfl, mo_go ok_X7_takeSign (cs_X7_takeSign_ok g) [] 19 ?_⟩
  intro K hK
  refine And.intro (fun (c1 : ¬ (σ.1 32 0 1) = (3 : Int32)) => ?_) (fun (c1 : (σ.1 32 0 1) = (3 : Int32)) => ?_)
  · refine And.intro (by first | decide | exact mo_bl01 _) ?_
    exact (hQ.1 c1)
  · refine And.intro (show vp_in (σ.1 32 0 2) 200 from (hQ.2 c1).1) ?_
    refine And.intro (fun (c2 : (σ.1 31 0 ((σ.1 32 0 2).toNatClampNeg)) = c) => ?_) (fun (c2 : ¬ (σ.1 31 0 ((σ.1 32 0 2).toNatClampNeg)) = c) => ?_)
    · refine And.intro rfl (And.intro (show mo_le (σ.1 30 0 1) 200 ∧ mo_le (σ.1 32 0 3) (σ.1 30 0 1).toNatClampNeg from ((hQ.2 c1).2.1 c2).1) ?_)
      refine And.intro (by first | decide | exact mo_bl01 _) ?_
      exact ((hQ.2 c1).2.1 c2).2
    · refine And.intro (by first | decide | exact mo_bl01 _) ?_
      exact ((hQ.2 c1).2.2 c2)
def S_X7_takeSign : mo_S := fun as σ Q => ∃ c : Int32, as = [.inr (.inr (32, 0)), .inl c] ∧ ((mo_cS σ) ∧ ((mo_csg σ c → (∀ ρ : Nat → Int32, (mo_cto σ ρ (mo_cN σ) ∧ ρ 4 = σ.1 32 0 4 ∧ ρ 5 = σ.1 32 0 5) → Q (some (.inl (1 : Int32))) (mo_rowI σ 32 0 ρ))) ∧ (¬ mo_csg σ c → Q (some (.inl (0 : Int32))) (σ))))
theorem m_X7_takeSign : ∀ (as : List mo_V) (σ : mo_M) (P P' : mo_Q), (∀ x τ, P x τ → P' x τ) → S_X7_takeSign as σ P → S_X7_takeSign as σ P' := by
  rintro as σ P P' hm ⟨c, e, hq⟩
  exact ⟨c, e, ⟨hq.1, ⟨fun cc => fun ρ hz => hm _ _ ((hq.2.1 cc) ρ hz), fun cc => hm _ _ (hq.2.2 cc)⟩⟩⟩

theorem ct_X7_takeSign : mo_ct yX7_takeSign t_X7_takeSign S_X7_takeSign := mo_ct_imp ctT_X7_takeSign (by
  rintro as σ Q ⟨c, rfl, hS, h1, h2⟩
  obtain ⟨ρ, e, hρ⟩ := mo_cS_step hS
  obtain ⟨hl, hs, k1, k2, k3⟩ := id hS
  have hn := hl.2
  refine ⟨c, rfl, fun q => h2 (fun z => q (k1.trans z.1)), fun q => ⟨?_, fun q2 => ⟨mo_cS_pre hS, ?_⟩, fun q2 => h2 (fun z => q2 z.2)⟩⟩
  · rw [k2]
    refine mo_inN ?_ (by decide)
    have : ¬ mo_cn σ ≤ mo_cp σ := fun z => by rw [k1, mo_kn0.mpr z] at q; exact absurd q (by decide)
    unfold mo_cn at *
    omega
  · rw [e]; exact h1 ⟨k1.symm.trans q, q2⟩ ρ hρ)
def ST_X7_takeNumber : mo_S := fun as σ Q => ∃ a : Int32, as = [.inr (.inr (32, 0)), .inl a] ∧ (((σ.1 32 0 1) = (2 : Int32) → ((σ.1 32 0 2 = nI (σ.1 32 0 2).toNatClampNeg ∧ σ.1 32 0 3 = nI (σ.1 32 0 3).toNatClampNeg ∧ (σ.1 32 0 2).toNatClampNeg ≤ (σ.1 32 0 3).toNatClampNeg ∧ (σ.1 32 0 3).toNatClampNeg ≤ 200) ∧ (((mo_val σ (σ.1 32 0 2).toNatClampNeg ((σ.1 32 0 3).toNatClampNeg - (σ.1 32 0 2).toNatClampNeg)) ≤ a → ((mo_le (σ.1 30 0 1) 200 ∧ mo_le ((mo_wI σ 32 0 4 (mo_val σ (σ.1 32 0 2).toNatClampNeg ((σ.1 32 0 3).toNatClampNeg - (σ.1 32 0 2).toNatClampNeg))).1 32 0 3) (σ.1 30 0 1).toNatClampNeg) ∧ Q (some (.inl (1 : Int32))) (mo_stp (mo_wI σ 32 0 4 (mo_val σ (σ.1 32 0 2).toNatClampNeg ((σ.1 32 0 3).toNatClampNeg - (σ.1 32 0 2).toNatClampNeg)))))) ∧ (¬ (mo_val σ (σ.1 32 0 2).toNatClampNeg ((σ.1 32 0 3).toNatClampNeg - (σ.1 32 0 2).toNatClampNeg)) ≤ a → Q (some (.inl (0 : Int32))) (mo_wI σ 32 0 4 (mo_val σ (σ.1 32 0 2).toNatClampNeg ((σ.1 32 0 3).toNatClampNeg - (σ.1 32 0 2).toNatClampNeg))))))) ∧ (¬ (σ.1 32 0 1) = (2 : Int32) → Q (some (.inl (0 : Int32))) (σ)))
theorem mT_X7_takeNumber : ∀ (as : List mo_V) (σ : mo_M) (P P' : mo_Q), (∀ x τ, P x τ → P' x τ) → ST_X7_takeNumber as σ P → ST_X7_takeNumber as σ P' := by
  rintro as σ P P' hm ⟨a, e, hq⟩
  exact ⟨a, e, ⟨fun c1 => ⟨(hq.1 c1).1, ⟨fun c2 => ⟨((hq.1 c1).2.1 c2).1, hm _ _ ((hq.1 c1).2.1 c2).2⟩, fun c2 => hm _ _ ((hq.1 c1).2.2 c2)⟩⟩, fun c1 => hm _ _ (hq.2 c1)⟩⟩
def cs_X7_takeNumber : Nat → mo_C := fun j => match j with
  | 0 => (1, true, 95, 7, S_X7_valueAtHand)
  | 1 => (1, true, 31, 7, S_X7_step)
  | _ => (0, false, 0, 50, fun _ _ _ => False)
theorem cs_X7_takeNumber_ok (g : mo_E) : ∀ j, mo_cok g t_X7_takeNumber (cs_X7_takeNumber j) ∧ mo_mon (cs_X7_takeNumber j) := by
  intro j
  unfold cs_X7_takeNumber
  split
  · exact ⟨mo_cokV ct_X7_valueAtHand (by decide) ⟨_, _, rfl⟩ (by decide +kernel), m_X7_valueAtHand⟩
  · exact ⟨mo_cokV ct_X7_step (by decide) ⟨_, _, rfl⟩ (by decide +kernel), m_X7_step⟩
  · exact ⟨mo_cok0 g _, mo_mon0⟩
set_option maxRecDepth 20000 in
set_option maxHeartbeats 2000000 in
theorem ctT_X7_takeNumber : mo_ct yX7_takeNumber t_X7_takeNumber ST_X7_takeNumber := by
  refine mo_ct_of (by decide) rfl ?_
  rintro g as σ Q ⟨a, rfl, hQ⟩
  refine ⟨Nat.le_of_ble_eq_true rfl, mo_go ok_X7_takeNumber (cs_X7_takeNumber_ok g) [] 21 ?_⟩
  intro K hK
  refine And.intro (fun (c1 : (σ.1 32 0 1) = (2 : Int32)) => ?_) (fun (c1 : ¬ (σ.1 32 0 1) = (2 : Int32)) => ?_)
  · refine And.intro rfl (And.intro (show σ.1 32 0 2 = nI (σ.1 32 0 2).toNatClampNeg ∧ σ.1 32 0 3 = nI (σ.1 32 0 3).toNatClampNeg ∧ (σ.1 32 0 2).toNatClampNeg ≤ (σ.1 32 0 3).toNatClampNeg ∧ (σ.1 32 0 3).toNatClampNeg ≤ 200 from (hQ.1 c1).1) ?_)
    refine And.intro (fun (c2 : (mo_val σ (σ.1 32 0 2).toNatClampNeg ((σ.1 32 0 3).toNatClampNeg - (σ.1 32 0 2).toNatClampNeg)) ≤ a) => ?_) (fun (c2 : ¬ (mo_val σ (σ.1 32 0 2).toNatClampNeg ((σ.1 32 0 3).toNatClampNeg - (σ.1 32 0 2).toNatClampNeg)) ≤ a) => ?_)
    · refine And.intro rfl (And.intro (show mo_le (σ.1 30 0 1) 200 ∧ mo_le ((mo_wI σ 32 0 4 (mo_val σ (σ.1 32 0 2).toNatClampNeg ((σ.1 32 0 3).toNatClampNeg - (σ.1 32 0 2).toNatClampNeg))).1 32 0 3) (σ.1 30 0 1).toNatClampNeg from ((hQ.1 c1).2.1 c2).1) ?_)
      refine And.intro (by first | decide | exact mo_bl01 _) ?_
      exact ((hQ.1 c1).2.1 c2).2
    · refine And.intro (by first | decide | exact mo_bl01 _) ?_
      exact ((hQ.1 c1).2.2 c2)
  · refine And.intro (by first | decide | exact mo_bl01 _) ?_
    exact (hQ.2 c1)
def S_X7_takeNumber : mo_S := fun as σ Q => ∃ a : Int32, as = [.inr (.inr (32, 0)), .inl a] ∧ ((mo_cS σ ∧ a.toInt ≤ 999) ∧ ((mo_cnum σ a → (∀ ρ : Nat → Int32, (mo_cto σ ρ (mo_cN σ) ∧ ρ 4 = nI (mo_cnv σ) ∧ ρ 5 = σ.1 32 0 5) → Q (some (.inl (1 : Int32))) (mo_rowI σ 32 0 ρ))) ∧ (¬ mo_cnum σ a → (∀ ρ : Nat → Int32, (mo_cto σ ρ (mo_cp σ) ∧ ρ 5 = σ.1 32 0 5) → Q (some (.inl (0 : Int32))) (mo_rowI σ 32 0 ρ)))))
theorem m_X7_takeNumber : ∀ (as : List mo_V) (σ : mo_M) (P P' : mo_Q), (∀ x τ, P x τ → P' x τ) → S_X7_takeNumber as σ P → S_X7_takeNumber as σ P' := by
  rintro as σ P P' hm ⟨a, e, hq⟩
  exact ⟨a, e, ⟨hq.1, ⟨fun cc => fun ρ hz => hm _ _ ((hq.2.1 cc) ρ hz), fun cc => fun ρ hz => hm _ _ ((hq.2.2 cc) ρ hz)⟩⟩⟩

theorem ct_X7_takeNumber : mo_ct yX7_takeNumber t_X7_takeNumber S_X7_takeNumber := mo_ct_imp ctT_X7_takeNumber (by
  rintro as σ Q ⟨a, rfl, ⟨hS, ha⟩, h1, h2⟩
  obtain ⟨hl, hs, k1, k2, k3⟩ := id hS
  have hn := hl.2
  have hE := mo_tE_le (σ.1 31 0) hs
  have hcn : mo_cn σ ≤ 200 := hn
  have c3 : (σ.1 32 0 3).toNatClampNeg = mo_tE (σ.1 31 0) (mo_cn σ) (mo_cp σ) := by rw [k3]; exact mo_cl (by omega)
  refine ⟨a, rfl, fun q => ?_, fun q => ?_⟩
  · have hk : mo_kn (σ.1 31 0) (mo_cn σ) (mo_cp σ) = 2 := k1.symm.trans q
    have hv : mo_val σ (σ.1 32 0 2).toNatClampNeg ((σ.1 32 0 3).toNatClampNeg - (σ.1 32 0 2).toNatClampNeg) = nI (min (mo_cnv σ) 1000) := by
      rw [c3]
      exact mo_val_eq (fun j hj => mo_kn2 ((mo_tE_in (by rw [hk]; decide) (by rw [hk]; decide) (by unfold mo_cp; omega) (by unfold mo_cp at *; omega)).trans hk))
    have hva : nI (min (mo_cnv σ) 1000) ≤ a ↔ (mo_cnv σ : Int) ≤ a.toInt := by
      rw [Int32.le_iff_toInt_le, nI_toInt (by omega)]
      omega
    refine ⟨⟨k2, by rw [c3]; exact k3, by rw [c3]; exact hE.1, by rw [c3]; omega⟩, fun q2 => ?_, fun q2 => ?_⟩
    · rw [hv] at q2 ⊢
      have h3' : (mo_wI σ 32 0 4 (nI (min (mo_cnv σ) 1000))).1 32 0 3 = σ.1 32 0 3 := rfl
      refine ⟨⟨hl, by rw [h3']; exact (mo_cS_pre hS).2⟩, ?_⟩
      obtain ⟨ρ, e, hρ, e4, e5⟩ := mo_stp_row (σ := mo_wI σ 32 0 4 (nI (min (mo_cnv σ) 1000))) hl (p := mo_tE (σ.1 31 0) (mo_cn σ) (mo_cp σ)) hE.2 k3
      rw [e, mo_wI_row, mo_rowI_r]
      refine h1 ⟨hk, hva.mp q2⟩ ρ ⟨hρ, ?_, e5⟩
      rw [e4, mo_wIg, Nat.min_eq_left]
      have := hva.mp q2
      omega
    · rw [hv] at q2 ⊢
      rw [mo_wI_row]
      refine h2 (fun z => q2 (hva.mpr z.2)) _ ⟨⟨hs, ?_, ?_, ?_⟩, ?_⟩ <;> simp [upd]
      · exact k1
      · exact k2
      · exact k3
  · have e : σ = mo_rowI σ 32 0 (σ.1 32 0) := (mo_rowI_id σ 32 0).symm
    rw [e]
    exact h2 (fun z => q (k1.trans z.1)) _ ⟨hS.2, rfl⟩)
def cs_X7_takeWord : Nat → mo_C := fun j => match j with
  | 0 => (1, true, 80, 50, S_J0_length_8abf5)
  | 1 => (2, true, 91, 50, S_J0_charAt_5068e)
  | 2 => (1, true, 31, 7, S_X7_step)
  | _ => (0, false, 0, 50, fun _ _ _ => False)
theorem cs_X7_takeWord_ok (g : mo_E) : ∀ j, mo_cok g t_X7_takeWord (cs_X7_takeWord j) ∧ mo_mon (cs_X7_takeWord j) := by
  intro j
  unfold cs_X7_takeWord
  split
  · exact ⟨ck_J0_length_8abf5 g, m_J0_length_8abf5⟩
  · exact ⟨ck_J0_charAt_5068e g, m_J0_charAt_5068e⟩
  · exact ⟨mo_cokV ct_X7_step (by decide) ⟨_, _, rfl⟩ (by decide +kernel), m_X7_step⟩
  · exact ⟨mo_cok0 g _, mo_mon0⟩

set_option maxRecDepth 20000 in
set_option maxHeartbeats 2000000 in
theorem lp_X7_takeWord (g : mo_E) (σ : mo_M) (Q : mo_Q) (o s n : Nat) (ho : 91 ≤ o ∧ o ≤ 94) (hn : mo_sl o = nI n) (hle : n ≤ 10) (hsc : σ.1 32 0 2 = nI s) (hs : s + n ≤ 200) (hp : mo_le (σ.1 30 0 1) 200 ∧ mo_le (σ.1 32 0 3) (σ.1 30 0 1).toNatClampNeg) (hq1 : (∀ k, k < n → (fun k => σ.1 31 0 (s + k) = mo_sc o k) k) → Q (some (.inl (1 : Int32))) (mo_stp σ)) (hq0 : (∃ k, k < n ∧ ¬ (fun k => σ.1 31 0 (s + k) = mo_sc o k) k) → Q (some (.inl (0 : Int32))) σ) : ∀ (d k : Nat), n < k + d → k ≤ n → (∀ j, j < k → (fun k => σ.1 31 0 (s + k) = mo_sc o k) j) → mo_X g t_X7_takeWord Q 28 [some (.inr (.inr (32, 0))), some (.inr (.inr (o, 0))), some (.inl (nI k))] [] (σ) := by
  intro d
  induction d with
  | zero => intro k h1 h2; omega
  | succ d ih =>
    intro k h1 h2 hinv
    have hkc : (nI k).toNatClampNeg = k := mo_cl (by omega)
    refine mo_go ok_X7_takeWord (cs_X7_takeWord_ok g) [28] 41 ?_
    intro K hK
    refine Exists.intro o (And.intro rfl (And.intro (show 91 ≤ o ∧ o ≤ 94 by exact ho) ?_))
    refine And.intro (fun (c1 : (mo_sl o) ≤ (nI k)) => ?_) (fun (c1 : ¬ (mo_sl o) ≤ (nI k)) => ?_)
    · have hk : n ≤ k := mo_cge hn (by omega) (by omega) c1
      refine And.intro rfl (And.intro (show mo_le (σ.1 30 0 1) 200 ∧ mo_le (σ.1 32 0 3) (σ.1 30 0 1).toNatClampNeg by exact hp) ?_)
      refine And.intro (by first | decide | exact mo_bl01 _) ?_
      (have e : k = n := (by omega); subst e; exact hq1 (fun j hj => hinv j hj))
    · have hk : k < n := mo_clt hn (by omega) (by omega) c1
      refine And.intro (show vp_in ((σ.1 32 0 2) + (nI k)) 200 by rw [hsc, nI_add]; exact mo_inN (by omega) (by decide)) ?_
      refine Exists.intro o (Exists.intro (nI k) (And.intro rfl (And.intro (show (91 ≤ o ∧ o ≤ 94) ∧ vp_in (nI k) (mo_sl o).toNatClampNeg by exact ⟨ho, by rw [hn, mo_cl (by omega)]; exact mo_inN (by omega) (by omega)⟩) ?_)))
      refine And.intro (fun (c2 : (σ.1 31 0 (((σ.1 32 0 2) + (nI k)).toNatClampNeg)) = (mo_sc o (nI k).toNatClampNeg)) => ?_) (fun (c2 : ¬ (σ.1 31 0 (((σ.1 32 0 2) + (nI k)).toNatClampNeg)) = (mo_sc o (nI k).toNatClampNeg)) => ?_)
      · (have hih := ih (k + 1) (by omega) (by omega) (lt_s hinv (by have z := c2; rw [hkc, hsc, nI_add, mo_cl (by omega)] at z; first | exact z | exact Classical.not_not.mp z)); rw [nI_succ] at hih; exact hK _ _ _ _ hih)
      · refine And.intro (by first | decide | exact mo_bl01 _) ?_
        (exact hq0 ⟨k, hk, fun q => c2 (by rw [hkc, hsc, nI_add, mo_cl (by omega)]; exact q)⟩)
def ST_X7_takeWord : mo_S := fun as σ Q => ∃ o : Nat, as = [.inr (.inr (32, 0)), .inr (.inr (o, 0))] ∧ ((¬ (σ.1 32 0 1) = (1 : Int32) → Q (some (.inl (0 : Int32))) (σ)) ∧ ((σ.1 32 0 1) = (1 : Int32) → ((91 ≤ o ∧ o ≤ 94) ∧ ((((σ.1 32 0 3) - (σ.1 32 0 2)) = (mo_sl o) → (∃ s n : Nat, mo_sl o = nI n ∧ n ≤ 10 ∧ σ.1 32 0 2 = nI s ∧ s + n ≤ 200 ∧ (mo_le (σ.1 30 0 1) 200 ∧ mo_le (σ.1 32 0 3) (σ.1 30 0 1).toNatClampNeg) ∧ (91 ≤ o ∧ o ≤ 94) ∧ ((∀ k, k < n → σ.1 31 0 (s + k) = mo_sc o k) → Q (some (.inl (1 : Int32))) (mo_stp σ)) ∧ ((∃ k, k < n ∧ ¬ σ.1 31 0 (s + k) = mo_sc o k) → Q (some (.inl (0 : Int32))) σ))) ∧ (¬ ((σ.1 32 0 3) - (σ.1 32 0 2)) = (mo_sl o) → Q (some (.inl (0 : Int32))) (σ))))))
theorem mT_X7_takeWord : ∀ (as : List mo_V) (σ : mo_M) (P P' : mo_Q), (∀ x τ, P x τ → P' x τ) → ST_X7_takeWord as σ P → ST_X7_takeWord as σ P' := by
  rintro as σ P P' hm ⟨o, e, hq⟩
  exact ⟨o, e, ⟨fun c1 => hm _ _ (hq.1 c1), fun c1 => ⟨(hq.2 c1).1, ⟨fun c2 => (let ⟨s, n, w1, w2, w3, w4, w5, w6, w7, w8⟩ := ((hq.2 c1).2.1 c2); ⟨s, n, w1, w2, w3, w4, w5, w6, fun z => hm _ _ (w7 z), fun z => hm _ _ (w8 z)⟩), fun c2 => hm _ _ ((hq.2 c1).2.2 c2)⟩⟩⟩⟩
set_option maxRecDepth 20000 in
set_option maxHeartbeats 2000000 in
theorem ctT_X7_takeWord : mo_ct yX7_takeWord t_X7_takeWord ST_X7_takeWord := by
  refine mo_ct_of (by decide) rfl ?_
  rintro g as σ Q ⟨o, rfl, hQ⟩
  refine ⟨Nat.le_of_ble_eq_true rfl, mo_go ok_X7_takeWord (cs_X7_takeWord_ok g) [28] 41 ?_⟩
  intro K hK
  refine And.intro (fun (c1 : ¬ (σ.1 32 0 1) = (1 : Int32)) => ?_) (fun (c1 : (σ.1 32 0 1) = (1 : Int32)) => ?_)
  · refine And.intro (by first | decide | exact mo_bl01 _) ?_
    exact (hQ.1 c1)
  · refine Exists.intro o (And.intro rfl (And.intro (show 91 ≤ o ∧ o ≤ 94 from (hQ.2 c1).1) ?_))
    refine And.intro (fun (c2 : ((σ.1 32 0 3) - (σ.1 32 0 2)) = (mo_sl o)) => ?_) (fun (c2 : ¬ ((σ.1 32 0 3) - (σ.1 32 0 2)) = (mo_sl o)) => ?_)
    · obtain ⟨s, n, w1, w2, w3, w4, w5, w6, w7, w8⟩ := ((hQ.2 c1).2.1 c2)
      exact hK _ _ _ _ (lp_X7_takeWord g σ Q o s n w6 w1 w2 w3 w4 w5 w7 w8 (n + 1) 0 (by omega) (by omega) (fun j hj => absurd hj (by omega)))
    · refine And.intro (by first | decide | exact mo_bl01 _) ?_
      exact ((hQ.2 c1).2.2 c2)
def S_X7_takeWord : mo_S := fun as σ Q => ∃ o : Nat, as = [.inr (.inr (32, 0)), .inr (.inr (o, 0))] ∧ ((mo_cS σ ∧ 91 ≤ o ∧ o ≤ 94) ∧ ((mo_cwd σ o → (∀ ρ : Nat → Int32, (mo_cto σ ρ (mo_cN σ) ∧ ρ 4 = σ.1 32 0 4 ∧ ρ 5 = σ.1 32 0 5) → Q (some (.inl (1 : Int32))) (mo_rowI σ 32 0 ρ))) ∧ (¬ mo_cwd σ o → Q (some (.inl (0 : Int32))) (σ))))
theorem m_X7_takeWord : ∀ (as : List mo_V) (σ : mo_M) (P P' : mo_Q), (∀ x τ, P x τ → P' x τ) → S_X7_takeWord as σ P → S_X7_takeWord as σ P' := by
  rintro as σ P P' hm ⟨o, e, hq⟩
  exact ⟨o, e, ⟨hq.1, ⟨fun cc => fun ρ hz => hm _ _ ((hq.2.1 cc) ρ hz), fun cc => hm _ _ (hq.2.2 cc)⟩⟩⟩

theorem tk_wl_ok {o : Nat} (h : 91 ≤ o ∧ o ≤ 94) : mo_sl o = nI (tk_wl o).length ∧ (tk_wl o).length ≤ 10 ∧ ∀ k, mo_sc o k = (tk_wl o).getD k 0 := by
  refine ⟨?_, ?_, fun k => rfl⟩
  · have q : o = 91 ∨ o = 92 ∨ o = 93 ∨ o = 94 := by omega
    rcases q with rfl | rfl | rfl | rfl <;> rfl
  · have q : o = 91 ∨ o = 92 ∨ o = 93 ∨ o = 94 := by omega
    rcases q with rfl | rfl | rfl | rfl <;> decide
theorem ct_X7_takeWord : mo_ct yX7_takeWord t_X7_takeWord S_X7_takeWord := mo_ct_imp ctT_X7_takeWord (by
  rintro as σ Q ⟨o, rfl, ⟨hS, ho⟩, h1, h2⟩
  obtain ⟨ρ, e, hρ⟩ := mo_cS_step hS
  obtain ⟨hl, hs, k1, k2, k3⟩ := id hS
  have hn := hl.2
  have hcn : mo_cn σ ≤ 200 := hn
  have hE := mo_tE_le (σ.1 31 0) hs
  obtain ⟨w1, w2, w3⟩ := tk_wl_ok ho
  have hlen : σ.1 32 0 3 - σ.1 32 0 2 = mo_sl o ↔ mo_tE (σ.1 31 0) (mo_cn σ) (mo_cp σ) = mo_cp σ + (tk_wl o).length := by
    rw [k2, k3, w1]
    have e1 : nI (mo_tE (σ.1 31 0) (mo_cn σ) (mo_cp σ)) = nI (mo_tE (σ.1 31 0) (mo_cn σ) (mo_cp σ) - mo_cp σ) + nI (mo_cp σ) := by rw [nI_add]; congr 1; omega
    rw [e1, Int32.add_sub_cancel, nI_eq (by omega) (by omega)]
    omega
  refine ⟨o, rfl, ?_⟩
  refine ⟨fun q => h2 (fun z => q (k1.trans z.1)), fun q => ⟨ho, fun q2 => ⟨mo_cp σ, (tk_wl o).length, w1, w2, k2, ?_, mo_cS_pre hS, ho, fun z => ?_, fun ⟨k, hk, z⟩ => h2 (fun w => z ?_)⟩, fun q2 => h2 (fun z => q2 (hlen.mpr z.2.1))⟩⟩
  · have := hlen.mp q2; omega
  · rw [e]; exact h1 ⟨k1.symm.trans q, hlen.mp q2, fun j hj => (z j hj).trans (w3 j)⟩ ρ hρ
  · exact (w.2.2 k hk).trans (w3 k).symm)
def ST_X7_readVersion : mo_S := fun as σ Q => as = [.inr (.inr (32, 0))] ∧ ((mo_cS (mo_wI σ 32 0 5 (0 : Int32)) ∧ (999 : Int32).toInt ≤ 999) ∧ ((mo_cnum (mo_wI σ 32 0 5 (0 : Int32)) (999 : Int32) → (∀ ρ1 : Nat → Int32, (mo_cto (mo_wI σ 32 0 5 (0 : Int32)) ρ1 (mo_cN (mo_wI σ 32 0 5 (0 : Int32))) ∧ ρ1 4 = nI (mo_cnv (mo_wI σ 32 0 5 (0 : Int32))) ∧ ρ1 5 = (mo_wI σ 32 0 5 (0 : Int32)).1 32 0 5) → ((mo_cS (mo_wI (mo_rowI (mo_wI σ 32 0 5 (0 : Int32)) 32 0 ρ1) 32 0 5 ((ρ1 5) + ((ρ1 4) * (1000000 : Int32))))) ∧ ((mo_csg (mo_wI (mo_rowI (mo_wI σ 32 0 5 (0 : Int32)) 32 0 ρ1) 32 0 5 ((ρ1 5) + ((ρ1 4) * (1000000 : Int32)))) (46 : Int32) → (∀ ρ2 : Nat → Int32, (mo_cto (mo_wI (mo_rowI (mo_wI σ 32 0 5 (0 : Int32)) 32 0 ρ1) 32 0 5 ((ρ1 5) + ((ρ1 4) * (1000000 : Int32)))) ρ2 (mo_cN (mo_wI (mo_rowI (mo_wI σ 32 0 5 (0 : Int32)) 32 0 ρ1) 32 0 5 ((ρ1 5) + ((ρ1 4) * (1000000 : Int32))))) ∧ ρ2 4 = (mo_wI (mo_rowI (mo_wI σ 32 0 5 (0 : Int32)) 32 0 ρ1) 32 0 5 ((ρ1 5) + ((ρ1 4) * (1000000 : Int32)))).1 32 0 4 ∧ ρ2 5 = (mo_wI (mo_rowI (mo_wI σ 32 0 5 (0 : Int32)) 32 0 ρ1) 32 0 5 ((ρ1 5) + ((ρ1 4) * (1000000 : Int32)))).1 32 0 5) → ((mo_cS (mo_rowI (mo_wI (mo_rowI (mo_wI σ 32 0 5 (0 : Int32)) 32 0 ρ1) 32 0 5 ((ρ1 5) + ((ρ1 4) * (1000000 : Int32)))) 32 0 ρ2) ∧ (999 : Int32).toInt ≤ 999) ∧ ((mo_cnum (mo_rowI (mo_wI (mo_rowI (mo_wI σ 32 0 5 (0 : Int32)) 32 0 ρ1) 32 0 5 ((ρ1 5) + ((ρ1 4) * (1000000 : Int32)))) 32 0 ρ2) (999 : Int32) → (∀ ρ3 : Nat → Int32, (mo_cto (mo_rowI (mo_wI (mo_rowI (mo_wI σ 32 0 5 (0 : Int32)) 32 0 ρ1) 32 0 5 ((ρ1 5) + ((ρ1 4) * (1000000 : Int32)))) 32 0 ρ2) ρ3 (mo_cN (mo_rowI (mo_wI (mo_rowI (mo_wI σ 32 0 5 (0 : Int32)) 32 0 ρ1) 32 0 5 ((ρ1 5) + ((ρ1 4) * (1000000 : Int32)))) 32 0 ρ2)) ∧ ρ3 4 = nI (mo_cnv (mo_rowI (mo_wI (mo_rowI (mo_wI σ 32 0 5 (0 : Int32)) 32 0 ρ1) 32 0 5 ((ρ1 5) + ((ρ1 4) * (1000000 : Int32)))) 32 0 ρ2)) ∧ ρ3 5 = (mo_rowI (mo_wI (mo_rowI (mo_wI σ 32 0 5 (0 : Int32)) 32 0 ρ1) 32 0 5 ((ρ1 5) + ((ρ1 4) * (1000000 : Int32)))) 32 0 ρ2).1 32 0 5) → ((mo_cS (mo_wI (mo_rowI (mo_rowI (mo_wI (mo_rowI (mo_wI σ 32 0 5 (0 : Int32)) 32 0 ρ1) 32 0 5 ((ρ1 5) + ((ρ1 4) * (1000000 : Int32)))) 32 0 ρ2) 32 0 ρ3) 32 0 5 ((ρ3 5) + ((ρ3 4) * (1000 : Int32))))) ∧ ((mo_csg (mo_wI (mo_rowI (mo_rowI (mo_wI (mo_rowI (mo_wI σ 32 0 5 (0 : Int32)) 32 0 ρ1) 32 0 5 ((ρ1 5) + ((ρ1 4) * (1000000 : Int32)))) 32 0 ρ2) 32 0 ρ3) 32 0 5 ((ρ3 5) + ((ρ3 4) * (1000 : Int32)))) (46 : Int32) → (∀ ρ4 : Nat → Int32, (mo_cto (mo_wI (mo_rowI (mo_rowI (mo_wI (mo_rowI (mo_wI σ 32 0 5 (0 : Int32)) 32 0 ρ1) 32 0 5 ((ρ1 5) + ((ρ1 4) * (1000000 : Int32)))) 32 0 ρ2) 32 0 ρ3) 32 0 5 ((ρ3 5) + ((ρ3 4) * (1000 : Int32)))) ρ4 (mo_cN (mo_wI (mo_rowI (mo_rowI (mo_wI (mo_rowI (mo_wI σ 32 0 5 (0 : Int32)) 32 0 ρ1) 32 0 5 ((ρ1 5) + ((ρ1 4) * (1000000 : Int32)))) 32 0 ρ2) 32 0 ρ3) 32 0 5 ((ρ3 5) + ((ρ3 4) * (1000 : Int32))))) ∧ ρ4 4 = (mo_wI (mo_rowI (mo_rowI (mo_wI (mo_rowI (mo_wI σ 32 0 5 (0 : Int32)) 32 0 ρ1) 32 0 5 ((ρ1 5) + ((ρ1 4) * (1000000 : Int32)))) 32 0 ρ2) 32 0 ρ3) 32 0 5 ((ρ3 5) + ((ρ3 4) * (1000 : Int32)))).1 32 0 4 ∧ ρ4 5 = (mo_wI (mo_rowI (mo_rowI (mo_wI (mo_rowI (mo_wI σ 32 0 5 (0 : Int32)) 32 0 ρ1) 32 0 5 ((ρ1 5) + ((ρ1 4) * (1000000 : Int32)))) 32 0 ρ2) 32 0 ρ3) 32 0 5 ((ρ3 5) + ((ρ3 4) * (1000 : Int32)))).1 32 0 5) → ((mo_cS (mo_rowI (mo_wI (mo_rowI (mo_rowI (mo_wI (mo_rowI (mo_wI σ 32 0 5 (0 : Int32)) 32 0 ρ1) 32 0 5 ((ρ1 5) + ((ρ1 4) * (1000000 : Int32)))) 32 0 ρ2) 32 0 ρ3) 32 0 5 ((ρ3 5) + ((ρ3 4) * (1000 : Int32)))) 32 0 ρ4) ∧ (999 : Int32).toInt ≤ 999) ∧ ((mo_cnum (mo_rowI (mo_wI (mo_rowI (mo_rowI (mo_wI (mo_rowI (mo_wI σ 32 0 5 (0 : Int32)) 32 0 ρ1) 32 0 5 ((ρ1 5) + ((ρ1 4) * (1000000 : Int32)))) 32 0 ρ2) 32 0 ρ3) 32 0 5 ((ρ3 5) + ((ρ3 4) * (1000 : Int32)))) 32 0 ρ4) (999 : Int32) → (∀ ρ5 : Nat → Int32, (mo_cto (mo_rowI (mo_wI (mo_rowI (mo_rowI (mo_wI (mo_rowI (mo_wI σ 32 0 5 (0 : Int32)) 32 0 ρ1) 32 0 5 ((ρ1 5) + ((ρ1 4) * (1000000 : Int32)))) 32 0 ρ2) 32 0 ρ3) 32 0 5 ((ρ3 5) + ((ρ3 4) * (1000 : Int32)))) 32 0 ρ4) ρ5 (mo_cN (mo_rowI (mo_wI (mo_rowI (mo_rowI (mo_wI (mo_rowI (mo_wI σ 32 0 5 (0 : Int32)) 32 0 ρ1) 32 0 5 ((ρ1 5) + ((ρ1 4) * (1000000 : Int32)))) 32 0 ρ2) 32 0 ρ3) 32 0 5 ((ρ3 5) + ((ρ3 4) * (1000 : Int32)))) 32 0 ρ4)) ∧ ρ5 4 = nI (mo_cnv (mo_rowI (mo_wI (mo_rowI (mo_rowI (mo_wI (mo_rowI (mo_wI σ 32 0 5 (0 : Int32)) 32 0 ρ1) 32 0 5 ((ρ1 5) + ((ρ1 4) * (1000000 : Int32)))) 32 0 ρ2) 32 0 ρ3) 32 0 5 ((ρ3 5) + ((ρ3 4) * (1000 : Int32)))) 32 0 ρ4)) ∧ ρ5 5 = (mo_rowI (mo_wI (mo_rowI (mo_rowI (mo_wI (mo_rowI (mo_wI σ 32 0 5 (0 : Int32)) 32 0 ρ1) 32 0 5 ((ρ1 5) + ((ρ1 4) * (1000000 : Int32)))) 32 0 ρ2) 32 0 ρ3) 32 0 5 ((ρ3 5) + ((ρ3 4) * (1000 : Int32)))) 32 0 ρ4).1 32 0 5) → Q (some (.inl (1 : Int32))) (mo_wI (mo_rowI (mo_rowI (mo_wI (mo_rowI (mo_rowI (mo_wI (mo_rowI (mo_wI σ 32 0 5 (0 : Int32)) 32 0 ρ1) 32 0 5 ((ρ1 5) + ((ρ1 4) * (1000000 : Int32)))) 32 0 ρ2) 32 0 ρ3) 32 0 5 ((ρ3 5) + ((ρ3 4) * (1000 : Int32)))) 32 0 ρ4) 32 0 ρ5) 32 0 5 ((ρ5 5) + ((ρ5 4) * (1 : Int32)))))) ∧ (¬ mo_cnum (mo_rowI (mo_wI (mo_rowI (mo_rowI (mo_wI (mo_rowI (mo_wI σ 32 0 5 (0 : Int32)) 32 0 ρ1) 32 0 5 ((ρ1 5) + ((ρ1 4) * (1000000 : Int32)))) 32 0 ρ2) 32 0 ρ3) 32 0 5 ((ρ3 5) + ((ρ3 4) * (1000 : Int32)))) 32 0 ρ4) (999 : Int32) → (∀ ρ6 : Nat → Int32, (mo_cto (mo_rowI (mo_wI (mo_rowI (mo_rowI (mo_wI (mo_rowI (mo_wI σ 32 0 5 (0 : Int32)) 32 0 ρ1) 32 0 5 ((ρ1 5) + ((ρ1 4) * (1000000 : Int32)))) 32 0 ρ2) 32 0 ρ3) 32 0 5 ((ρ3 5) + ((ρ3 4) * (1000 : Int32)))) 32 0 ρ4) ρ6 (mo_cp (mo_rowI (mo_wI (mo_rowI (mo_rowI (mo_wI (mo_rowI (mo_wI σ 32 0 5 (0 : Int32)) 32 0 ρ1) 32 0 5 ((ρ1 5) + ((ρ1 4) * (1000000 : Int32)))) 32 0 ρ2) 32 0 ρ3) 32 0 5 ((ρ3 5) + ((ρ3 4) * (1000 : Int32)))) 32 0 ρ4)) ∧ ρ6 5 = (mo_rowI (mo_wI (mo_rowI (mo_rowI (mo_wI (mo_rowI (mo_wI σ 32 0 5 (0 : Int32)) 32 0 ρ1) 32 0 5 ((ρ1 5) + ((ρ1 4) * (1000000 : Int32)))) 32 0 ρ2) 32 0 ρ3) 32 0 5 ((ρ3 5) + ((ρ3 4) * (1000 : Int32)))) 32 0 ρ4).1 32 0 5) → Q (some (.inl (0 : Int32))) (mo_rowI (mo_rowI (mo_wI (mo_rowI (mo_rowI (mo_wI (mo_rowI (mo_wI σ 32 0 5 (0 : Int32)) 32 0 ρ1) 32 0 5 ((ρ1 5) + ((ρ1 4) * (1000000 : Int32)))) 32 0 ρ2) 32 0 ρ3) 32 0 5 ((ρ3 5) + ((ρ3 4) * (1000 : Int32)))) 32 0 ρ4) 32 0 ρ6))))))) ∧ (¬ mo_csg (mo_wI (mo_rowI (mo_rowI (mo_wI (mo_rowI (mo_wI σ 32 0 5 (0 : Int32)) 32 0 ρ1) 32 0 5 ((ρ1 5) + ((ρ1 4) * (1000000 : Int32)))) 32 0 ρ2) 32 0 ρ3) 32 0 5 ((ρ3 5) + ((ρ3 4) * (1000 : Int32)))) (46 : Int32) → Q (some (.inl (1 : Int32))) (mo_wI (mo_rowI (mo_rowI (mo_wI (mo_rowI (mo_wI σ 32 0 5 (0 : Int32)) 32 0 ρ1) 32 0 5 ((ρ1 5) + ((ρ1 4) * (1000000 : Int32)))) 32 0 ρ2) 32 0 ρ3) 32 0 5 ((ρ3 5) + ((ρ3 4) * (1000 : Int32))))))))) ∧ (¬ mo_cnum (mo_rowI (mo_wI (mo_rowI (mo_wI σ 32 0 5 (0 : Int32)) 32 0 ρ1) 32 0 5 ((ρ1 5) + ((ρ1 4) * (1000000 : Int32)))) 32 0 ρ2) (999 : Int32) → (∀ ρ7 : Nat → Int32, (mo_cto (mo_rowI (mo_wI (mo_rowI (mo_wI σ 32 0 5 (0 : Int32)) 32 0 ρ1) 32 0 5 ((ρ1 5) + ((ρ1 4) * (1000000 : Int32)))) 32 0 ρ2) ρ7 (mo_cp (mo_rowI (mo_wI (mo_rowI (mo_wI σ 32 0 5 (0 : Int32)) 32 0 ρ1) 32 0 5 ((ρ1 5) + ((ρ1 4) * (1000000 : Int32)))) 32 0 ρ2)) ∧ ρ7 5 = (mo_rowI (mo_wI (mo_rowI (mo_wI σ 32 0 5 (0 : Int32)) 32 0 ρ1) 32 0 5 ((ρ1 5) + ((ρ1 4) * (1000000 : Int32)))) 32 0 ρ2).1 32 0 5) → Q (some (.inl (0 : Int32))) (mo_rowI (mo_rowI (mo_wI (mo_rowI (mo_wI σ 32 0 5 (0 : Int32)) 32 0 ρ1) 32 0 5 ((ρ1 5) + ((ρ1 4) * (1000000 : Int32)))) 32 0 ρ2) 32 0 ρ7))))))) ∧ (¬ mo_csg (mo_wI (mo_rowI (mo_wI σ 32 0 5 (0 : Int32)) 32 0 ρ1) 32 0 5 ((ρ1 5) + ((ρ1 4) * (1000000 : Int32)))) (46 : Int32) → Q (some (.inl (1 : Int32))) (mo_wI (mo_rowI (mo_wI σ 32 0 5 (0 : Int32)) 32 0 ρ1) 32 0 5 ((ρ1 5) + ((ρ1 4) * (1000000 : Int32))))))))) ∧ (¬ mo_cnum (mo_wI σ 32 0 5 (0 : Int32)) (999 : Int32) → (∀ ρ8 : Nat → Int32, (mo_cto (mo_wI σ 32 0 5 (0 : Int32)) ρ8 (mo_cp (mo_wI σ 32 0 5 (0 : Int32))) ∧ ρ8 5 = (mo_wI σ 32 0 5 (0 : Int32)).1 32 0 5) → Q (some (.inl (0 : Int32))) (mo_rowI (mo_wI σ 32 0 5 (0 : Int32)) 32 0 ρ8)))))
theorem mT_X7_readVersion : ∀ (as : List mo_V) (σ : mo_M) (P P' : mo_Q), (∀ x τ, P x τ → P' x τ) → ST_X7_readVersion as σ P → ST_X7_readVersion as σ P' := by
  rintro as σ P P' hm ⟨e, hq⟩
  exact ⟨e, ⟨hq.1, ⟨fun c3 => fun ρ1 hr1 => ⟨((hq.2.1 c3) ρ1 hr1).1, ⟨fun c7 => fun ρ2 hr2 => ⟨((((hq.2.1 c3) ρ1 hr1).2.1 c7) ρ2 hr2).1, ⟨fun c9 => fun ρ3 hr3 => ⟨((((((hq.2.1 c3) ρ1 hr1).2.1 c7) ρ2 hr2).2.1 c9) ρ3 hr3).1, ⟨fun c13 => fun ρ4 hr4 => ⟨((((((((hq.2.1 c3) ρ1 hr1).2.1 c7) ρ2 hr2).2.1 c9) ρ3 hr3).2.1 c13) ρ4 hr4).1, ⟨fun c15 => fun ρ5 hr5 => hm _ _ ((((((((((hq.2.1 c3) ρ1 hr1).2.1 c7) ρ2 hr2).2.1 c9) ρ3 hr3).2.1 c13) ρ4 hr4).2.1 c15) ρ5 hr5), fun c15 => fun ρ6 hr6 => hm _ _ ((((((((((hq.2.1 c3) ρ1 hr1).2.1 c7) ρ2 hr2).2.1 c9) ρ3 hr3).2.1 c13) ρ4 hr4).2.2 c15) ρ6 hr6)⟩⟩, fun c13 => hm _ _ (((((((hq.2.1 c3) ρ1 hr1).2.1 c7) ρ2 hr2).2.1 c9) ρ3 hr3).2.2 c13)⟩⟩, fun c9 => fun ρ7 hr7 => hm _ _ ((((((hq.2.1 c3) ρ1 hr1).2.1 c7) ρ2 hr2).2.2 c9) ρ7 hr7)⟩⟩, fun c7 => hm _ _ (((hq.2.1 c3) ρ1 hr1).2.2 c7)⟩⟩, fun c3 => fun ρ8 hr8 => hm _ _ ((hq.2.2 c3) ρ8 hr8)⟩⟩⟩
def cs_X7_readVersion : Nat → mo_C := fun j => match j with
  | 0 => (2, true, 63, 7, S_X7_takeSign)
  | 1 => (2, true, 40, 7, S_X7_takeNumber)
  | _ => (0, false, 0, 50, fun _ _ _ => False)
theorem cs_X7_readVersion_ok (g : mo_E) : ∀ j, mo_cok g t_X7_readVersion (cs_X7_readVersion j) ∧ mo_mon (cs_X7_readVersion j) := by
  intro j
  unfold cs_X7_readVersion
  split
  · exact ⟨mo_cokV ct_X7_takeSign (by decide) ⟨_, _, rfl⟩ (by decide +kernel), m_X7_takeSign⟩
  · exact ⟨mo_cokV ct_X7_takeNumber (by decide) ⟨_, _, rfl⟩ (by decide +kernel), m_X7_takeNumber⟩
  · exact ⟨mo_cok0 g _, mo_mon0⟩
set_option maxRecDepth 20000 in
set_option maxHeartbeats 2000000 in
theorem ctT_X7_readVersion : mo_ct yX7_readVersion t_X7_readVersion ST_X7_readVersion := by
  refine mo_ct_of (by decide) rfl ?_
  rintro g as σ Q ⟨rfl, hQ⟩
  refine ⟨Nat.le_of_ble_eq_true rfl, mo_go ok_X7_readVersion (cs_X7_readVersion_ok g) [] 39 ?_⟩
  intro K hK
  refine And.intro (fun (c1 : (3 : Int32) ≤ (0 : Int32)) => ?_) (fun (c1 : ¬ (3 : Int32) ≤ (0 : Int32)) => ?_)
  · exact absurd c1 (by decide)
  · refine And.intro (fun (c2 : (0 : Int32) ≤ 0) => ?_) (fun (c2 : ¬ (0 : Int32) ≤ 0) => ?_)
    · refine Exists.intro (999 : Int32) (And.intro rfl ?_)
      refine And.intro (show mo_cS (mo_wI σ 32 0 5 (0 : Int32)) ∧ (999 : Int32).toInt ≤ 999 from hQ.1) ?_
      refine And.intro (fun (c3 : mo_cnum (mo_wI σ 32 0 5 (0 : Int32)) (999 : Int32)) => ?_) (fun (c3 : ¬ mo_cnum (mo_wI σ 32 0 5 (0 : Int32)) (999 : Int32)) => ?_)
      · intro ρ1 hr1
        refine And.intro (fun (c4 : ¬ (1 : Int32) = 0) => ?_) (fun (c4 : (1 : Int32) = 0) => ?_)
        · refine And.intro (show vp_in (0 : Int32) 3 by unfold vp_in; decide) ?_
          refine hK _ _ _ _ (show mo_X g t_X7_readVersion Q 7 [some (.inr (.inr (32, 0))), some (.inl (1 : Int32))] [] (mo_wI (mo_rowI (mo_wI σ 32 0 5 (0 : Int32)) 32 0 ρ1) 32 0 5 ((ρ1 5) + ((ρ1 4) * (1000000 : Int32)))) from ?_)
          refine mo_go ok_X7_readVersion (cs_X7_readVersion_ok g) [] 39 ?_
          intro K hK
          refine And.intro (fun (c5 : (3 : Int32) ≤ (1 : Int32)) => ?_) (fun (c5 : ¬ (3 : Int32) ≤ (1 : Int32)) => ?_)
          · exact absurd c5 (by decide)
          · refine And.intro (fun (c6 : (1 : Int32) ≤ 0) => ?_) (fun (c6 : ¬ (1 : Int32) ≤ 0) => ?_)
            · exact absurd c6 (by decide)
            · refine Exists.intro (46 : Int32) (And.intro rfl ?_)
              refine And.intro (show mo_cS (mo_wI (mo_rowI (mo_wI σ 32 0 5 (0 : Int32)) 32 0 ρ1) 32 0 5 ((ρ1 5) + ((ρ1 4) * (1000000 : Int32)))) from ((hQ.2.1 c3) ρ1 hr1).1) ?_
              refine And.intro (fun (c7 : mo_csg (mo_wI (mo_rowI (mo_wI σ 32 0 5 (0 : Int32)) 32 0 ρ1) 32 0 5 ((ρ1 5) + ((ρ1 4) * (1000000 : Int32)))) (46 : Int32)) => ?_) (fun (c7 : ¬ mo_csg (mo_wI (mo_rowI (mo_wI σ 32 0 5 (0 : Int32)) 32 0 ρ1) 32 0 5 ((ρ1 5) + ((ρ1 4) * (1000000 : Int32)))) (46 : Int32)) => ?_)
              · intro ρ2 hr2
                refine And.intro (fun (c8 : ¬ (1 : Int32) = 0) => ?_) (fun (c8 : (1 : Int32) = 0) => ?_)
                · refine Exists.intro (999 : Int32) (And.intro rfl ?_)
                  refine And.intro (show mo_cS (mo_rowI (mo_wI (mo_rowI (mo_wI σ 32 0 5 (0 : Int32)) 32 0 ρ1) 32 0 5 ((ρ1 5) + ((ρ1 4) * (1000000 : Int32)))) 32 0 ρ2) ∧ (999 : Int32).toInt ≤ 999 from ((((hQ.2.1 c3) ρ1 hr1).2.1 c7) ρ2 hr2).1) ?_
                  refine And.intro (fun (c9 : mo_cnum (mo_rowI (mo_wI (mo_rowI (mo_wI σ 32 0 5 (0 : Int32)) 32 0 ρ1) 32 0 5 ((ρ1 5) + ((ρ1 4) * (1000000 : Int32)))) 32 0 ρ2) (999 : Int32)) => ?_) (fun (c9 : ¬ mo_cnum (mo_rowI (mo_wI (mo_rowI (mo_wI σ 32 0 5 (0 : Int32)) 32 0 ρ1) 32 0 5 ((ρ1 5) + ((ρ1 4) * (1000000 : Int32)))) 32 0 ρ2) (999 : Int32)) => ?_)
                  · intro ρ3 hr3
                    refine And.intro (fun (c10 : ¬ (1 : Int32) = 0) => ?_) (fun (c10 : (1 : Int32) = 0) => ?_)
                    · refine And.intro (show vp_in (1 : Int32) 3 by unfold vp_in; decide) ?_
                      refine hK _ _ _ _ (show mo_X g t_X7_readVersion Q 7 [some (.inr (.inr (32, 0))), some (.inl (2 : Int32))] [] (mo_wI (mo_rowI (mo_rowI (mo_wI (mo_rowI (mo_wI σ 32 0 5 (0 : Int32)) 32 0 ρ1) 32 0 5 ((ρ1 5) + ((ρ1 4) * (1000000 : Int32)))) 32 0 ρ2) 32 0 ρ3) 32 0 5 ((ρ3 5) + ((ρ3 4) * (1000 : Int32)))) from ?_)
                      refine mo_go ok_X7_readVersion (cs_X7_readVersion_ok g) [] 39 ?_
                      intro K hK
                      refine And.intro (fun (c11 : (3 : Int32) ≤ (2 : Int32)) => ?_) (fun (c11 : ¬ (3 : Int32) ≤ (2 : Int32)) => ?_)
                      · exact absurd c11 (by decide)
                      · refine And.intro (fun (c12 : (2 : Int32) ≤ 0) => ?_) (fun (c12 : ¬ (2 : Int32) ≤ 0) => ?_)
                        · exact absurd c12 (by decide)
                        · refine Exists.intro (46 : Int32) (And.intro rfl ?_)
                          refine And.intro (show mo_cS (mo_wI (mo_rowI (mo_rowI (mo_wI (mo_rowI (mo_wI σ 32 0 5 (0 : Int32)) 32 0 ρ1) 32 0 5 ((ρ1 5) + ((ρ1 4) * (1000000 : Int32)))) 32 0 ρ2) 32 0 ρ3) 32 0 5 ((ρ3 5) + ((ρ3 4) * (1000 : Int32)))) from ((((((hQ.2.1 c3) ρ1 hr1).2.1 c7) ρ2 hr2).2.1 c9) ρ3 hr3).1) ?_
                          refine And.intro (fun (c13 : mo_csg (mo_wI (mo_rowI (mo_rowI (mo_wI (mo_rowI (mo_wI σ 32 0 5 (0 : Int32)) 32 0 ρ1) 32 0 5 ((ρ1 5) + ((ρ1 4) * (1000000 : Int32)))) 32 0 ρ2) 32 0 ρ3) 32 0 5 ((ρ3 5) + ((ρ3 4) * (1000 : Int32)))) (46 : Int32)) => ?_) (fun (c13 : ¬ mo_csg (mo_wI (mo_rowI (mo_rowI (mo_wI (mo_rowI (mo_wI σ 32 0 5 (0 : Int32)) 32 0 ρ1) 32 0 5 ((ρ1 5) + ((ρ1 4) * (1000000 : Int32)))) 32 0 ρ2) 32 0 ρ3) 32 0 5 ((ρ3 5) + ((ρ3 4) * (1000 : Int32)))) (46 : Int32)) => ?_)
                          · intro ρ4 hr4
                            refine And.intro (fun (c14 : ¬ (1 : Int32) = 0) => ?_) (fun (c14 : (1 : Int32) = 0) => ?_)
                            · refine Exists.intro (999 : Int32) (And.intro rfl ?_)
                              refine And.intro (show mo_cS (mo_rowI (mo_wI (mo_rowI (mo_rowI (mo_wI (mo_rowI (mo_wI σ 32 0 5 (0 : Int32)) 32 0 ρ1) 32 0 5 ((ρ1 5) + ((ρ1 4) * (1000000 : Int32)))) 32 0 ρ2) 32 0 ρ3) 32 0 5 ((ρ3 5) + ((ρ3 4) * (1000 : Int32)))) 32 0 ρ4) ∧ (999 : Int32).toInt ≤ 999 from ((((((((hQ.2.1 c3) ρ1 hr1).2.1 c7) ρ2 hr2).2.1 c9) ρ3 hr3).2.1 c13) ρ4 hr4).1) ?_
                              refine And.intro (fun (c15 : mo_cnum (mo_rowI (mo_wI (mo_rowI (mo_rowI (mo_wI (mo_rowI (mo_wI σ 32 0 5 (0 : Int32)) 32 0 ρ1) 32 0 5 ((ρ1 5) + ((ρ1 4) * (1000000 : Int32)))) 32 0 ρ2) 32 0 ρ3) 32 0 5 ((ρ3 5) + ((ρ3 4) * (1000 : Int32)))) 32 0 ρ4) (999 : Int32)) => ?_) (fun (c15 : ¬ mo_cnum (mo_rowI (mo_wI (mo_rowI (mo_rowI (mo_wI (mo_rowI (mo_wI σ 32 0 5 (0 : Int32)) 32 0 ρ1) 32 0 5 ((ρ1 5) + ((ρ1 4) * (1000000 : Int32)))) 32 0 ρ2) 32 0 ρ3) 32 0 5 ((ρ3 5) + ((ρ3 4) * (1000 : Int32)))) 32 0 ρ4) (999 : Int32)) => ?_)
                              · intro ρ5 hr5
                                refine And.intro (fun (c16 : ¬ (1 : Int32) = 0) => ?_) (fun (c16 : (1 : Int32) = 0) => ?_)
                                · refine And.intro (show vp_in (2 : Int32) 3 by unfold vp_in; decide) ?_
                                  refine hK _ _ _ _ (show mo_X g t_X7_readVersion Q 7 [some (.inr (.inr (32, 0))), some (.inl (3 : Int32))] [] (mo_wI (mo_rowI (mo_rowI (mo_wI (mo_rowI (mo_rowI (mo_wI (mo_rowI (mo_wI σ 32 0 5 (0 : Int32)) 32 0 ρ1) 32 0 5 ((ρ1 5) + ((ρ1 4) * (1000000 : Int32)))) 32 0 ρ2) 32 0 ρ3) 32 0 5 ((ρ3 5) + ((ρ3 4) * (1000 : Int32)))) 32 0 ρ4) 32 0 ρ5) 32 0 5 ((ρ5 5) + ((ρ5 4) * (1 : Int32)))) from ?_)
                                  refine mo_go ok_X7_readVersion (cs_X7_readVersion_ok g) [] 39 ?_
                                  intro K hK
                                  refine And.intro (fun (c17 : (3 : Int32) ≤ (3 : Int32)) => ?_) (fun (c17 : ¬ (3 : Int32) ≤ (3 : Int32)) => ?_)
                                  · refine And.intro (by first | decide | exact mo_bl01 _) ?_
                                    exact ((((((((((hQ.2.1 c3) ρ1 hr1).2.1 c7) ρ2 hr2).2.1 c9) ρ3 hr3).2.1 c13) ρ4 hr4).2.1 c15) ρ5 hr5)
                                  · exact absurd c17 (by decide)
                                · exact absurd c16 (by decide)
                              · intro ρ6 hr6
                                refine And.intro (fun (c16 : ¬ (0 : Int32) = 0) => ?_) (fun (c16 : (0 : Int32) = 0) => ?_)
                                · exact absurd c16 (by decide)
                                · refine And.intro (by first | decide | exact mo_bl01 _) ?_
                                  exact ((((((((((hQ.2.1 c3) ρ1 hr1).2.1 c7) ρ2 hr2).2.1 c9) ρ3 hr3).2.1 c13) ρ4 hr4).2.2 c15) ρ6 hr6)
                            · exact absurd c14 (by decide)
                          · refine And.intro (fun (c14 : ¬ (0 : Int32) = 0) => ?_) (fun (c14 : (0 : Int32) = 0) => ?_)
                            · exact absurd c14 (by decide)
                            · refine And.intro (by first | decide | exact mo_bl01 _) ?_
                              exact (((((((hQ.2.1 c3) ρ1 hr1).2.1 c7) ρ2 hr2).2.1 c9) ρ3 hr3).2.2 c13)
                    · exact absurd c10 (by decide)
                  · intro ρ7 hr7
                    refine And.intro (fun (c10 : ¬ (0 : Int32) = 0) => ?_) (fun (c10 : (0 : Int32) = 0) => ?_)
                    · exact absurd c10 (by decide)
                    · refine And.intro (by first | decide | exact mo_bl01 _) ?_
                      exact ((((((hQ.2.1 c3) ρ1 hr1).2.1 c7) ρ2 hr2).2.2 c9) ρ7 hr7)
                · exact absurd c8 (by decide)
              · refine And.intro (fun (c8 : ¬ (0 : Int32) = 0) => ?_) (fun (c8 : (0 : Int32) = 0) => ?_)
                · exact absurd c8 (by decide)
                · refine And.intro (by first | decide | exact mo_bl01 _) ?_
                  exact (((hQ.2.1 c3) ρ1 hr1).2.2 c7)
        · exact absurd c4 (by decide)
      · intro ρ8 hr8
        refine And.intro (fun (c4 : ¬ (0 : Int32) = 0) => ?_) (fun (c4 : (0 : Int32) = 0) => ?_)
        · exact absurd c4 (by decide)
        · refine And.intro (by first | decide | exact mo_bl01 _) ?_
          exact ((hQ.2.2 c3) ρ8 hr8)
    · exact absurd c2 (by decide)
noncomputable def tk_ver (r : Nat → Int32) (n s : Nat) : Prop × Nat × Nat := mo_ite (tk_num r n 999 s) (mo_ite (tk_sg r n 46 (tk_N r n s)) (mo_ite (tk_num r n 999 (tk_N r n (tk_N r n s))) (mo_ite (tk_sg r n 46 (tk_N r n (tk_N r n (tk_N r n s)))) (mo_ite (tk_num r n 999 (tk_N r n (tk_N r n (tk_N r n (tk_N r n s))))) (True, (tk_N r n (tk_N r n (tk_N r n (tk_N r n (tk_N r n s))))), tk_nv r n s * 1000000 + tk_nv r n (tk_N r n (tk_N r n s)) * 1000 + tk_nv r n (tk_N r n (tk_N r n (tk_N r n (tk_N r n s))))) (False, (tk_N r n (tk_N r n (tk_N r n (tk_N r n s)))), 0)) (True, (tk_N r n (tk_N r n (tk_N r n s))), tk_nv r n s * 1000000 + tk_nv r n (tk_N r n (tk_N r n s)) * 1000)) (False, (tk_N r n (tk_N r n s)), 0)) (True, (tk_N r n s), tk_nv r n s * 1000000)) (False, s, 0)
noncomputable def mo_cver (σ : mo_M) : Prop × Nat × Nat := tk_ver (σ.1 31 0) (mo_cn σ) (mo_cp σ)
theorem mo_w32 (σ : mo_M) (k : Nat) (v : Int32) : mo_wI σ 32 0 k v = mo_rowI σ 32 0 (upd (σ.1 32 0) k v) := mo_wI_row _ _ _ _ _
theorem mo_g32 (σ : mo_M) (ρ : Nat → Int32) : (mo_rowI σ 32 0 ρ).1 32 0 = ρ := rfl
theorem mo_rr32 (σ : mo_M) (ρ ρ' : Nat → Int32) : mo_rowI (mo_rowI σ 32 0 ρ) 32 0 ρ' = mo_rowI σ 32 0 ρ' := mo_rowI_r _ _ _ _ _
theorem mo_cS_r (σ : mo_M) (ρ : Nat → Int32) : mo_cS (mo_rowI σ 32 0 ρ) = (mo_le (σ.1 30 0 1) 200 ∧ mo_cto σ ρ (ρ 2).toNatClampNeg) := rfl
theorem mo_cto_r (σ : mo_M) (ρ ρ' : Nat → Int32) (s : Nat) : mo_cto (mo_rowI σ 32 0 ρ) ρ' s = mo_cto σ ρ' s := rfl
theorem mo_cnum_r (σ : mo_M) (ρ : Nat → Int32) (a : Int32) : mo_cnum (mo_rowI σ 32 0 ρ) a = tk_num (σ.1 31 0) (mo_cn σ) a.toInt (ρ 2).toNatClampNeg := rfl
theorem mo_csg_r (σ : mo_M) (ρ : Nat → Int32) (c : Int32) : mo_csg (mo_rowI σ 32 0 ρ) c = tk_sg (σ.1 31 0) (mo_cn σ) c (ρ 2).toNatClampNeg := rfl
theorem mo_cwd_r (σ : mo_M) (ρ : Nat → Int32) (o : Nat) : mo_cwd (mo_rowI σ 32 0 ρ) o = tk_wd (σ.1 31 0) (mo_cn σ) (tk_wl o) (ρ 2).toNatClampNeg := rfl
theorem mo_cN_r (σ : mo_M) (ρ : Nat → Int32) : mo_cN (mo_rowI σ 32 0 ρ) = tk_N (σ.1 31 0) (mo_cn σ) (ρ 2).toNatClampNeg := rfl
theorem mo_cp_r (σ : mo_M) (ρ : Nat → Int32) : mo_cp (mo_rowI σ 32 0 ρ) = (ρ 2).toNatClampNeg := rfl
theorem mo_cnv_r (σ : mo_M) (ρ : Nat → Int32) : mo_cnv (mo_rowI σ 32 0 ρ) = tk_nv (σ.1 31 0) (mo_cn σ) (ρ 2).toNatClampNeg := rfl
theorem mo_cver_r (σ : mo_M) (ρ : Nat → Int32) : mo_cver (mo_rowI σ 32 0 ρ) = tk_ver (σ.1 31 0) (mo_cn σ) (ρ 2).toNatClampNeg := rfl
theorem mo_cto_cl {σ : mo_M} {ρ : Nat → Int32} {s : Nat} (hl : mo_le (σ.1 30 0 1) 200) (h : mo_cto σ ρ s) : (ρ 2).toNatClampNeg = s := by
  rw [h.2.2.1]; exact mo_cl (by have := hl.2; have h := h.1; unfold mo_cn at h; omega)
theorem mo_cto_u {σ : mo_M} {ρ : Nat → Int32} {s k : Nat} {v : Int32} (hk : 4 ≤ k) (h : mo_cto σ ρ s) : mo_cto σ (upd ρ k v) s := by
  obtain ⟨h1, h2, h3, h4⟩ := h
  refine ⟨h1, ?_, ?_, ?_⟩
  · rw [show upd ρ k v 1 = ρ 1 from by simp [upd]; omega]; exact h2
  · rw [show upd ρ k v 2 = ρ 2 from by simp [upd]; omega]; exact h3
  · rw [show upd ρ k v 3 = ρ 3 from by simp [upd]; omega]; exact h4
def S_X7_readVersion : mo_S := fun as σ Q => as = [.inr (.inr (32, 0))] ∧ ((mo_cS σ) ∧ (((mo_cver σ).1 → (∀ ρ : Nat → Int32, (mo_cto σ ρ (mo_cver σ).2.1 ∧ ρ 5 = nI (mo_cver σ).2.2) → Q (some (.inl (1 : Int32))) (mo_rowI σ 32 0 ρ))) ∧ (¬ (mo_cver σ).1 → (∀ ρ : Nat → Int32, (mo_cto σ ρ (mo_cver σ).2.1) → Q (some (.inl (0 : Int32))) (mo_rowI σ 32 0 ρ)))))
theorem m_X7_readVersion : ∀ (as : List mo_V) (σ : mo_M) (P P' : mo_Q), (∀ x τ, P x τ → P' x τ) → S_X7_readVersion as σ P → S_X7_readVersion as σ P' := by
  rintro as σ P P' hm ⟨e, hq⟩
  exact ⟨e, ⟨hq.1, ⟨fun cc => fun ρ hz => hm _ _ ((hq.2.1 cc) ρ hz), fun cc => fun ρ hz => hm _ _ ((hq.2.2 cc) ρ hz)⟩⟩⟩

set_option maxHeartbeats 4000000 in
theorem ct_X7_readVersion : mo_ct yX7_readVersion t_X7_readVersion S_X7_readVersion := mo_ct_imp ctT_X7_readVersion (by
  rintro as σ Q ⟨rfl, hS, hok, hbad⟩
  refine ⟨rfl, ?_⟩
  have hl := hS.1
  have hc2 : ((σ.1 32 0) 2).toNatClampNeg = mo_cp σ := rfl
  simp only [mo_w32, mo_rr32, mo_g32, mo_cS_r, mo_cto_r, mo_cnum_r, mo_csg_r, mo_cN_r, mo_cp_r, mo_cnv_r]
  have u2 : ∀ (ρ : Nat → Int32) (v : Int32), upd ρ 5 v 2 = ρ 2 := fun ρ v => by simp [upd]
  have u4 : ∀ (ρ : Nat → Int32) (v : Int32), upd ρ 5 v 4 = ρ 4 := fun ρ v => by simp [upd]
  have u5 : ∀ (ρ : Nat → Int32) (v : Int32), upd ρ 5 v 5 = v := fun ρ v => by simp [upd]
  simp only [u2, u4, u5, hc2]
  have h999 : (999 : Int32).toInt = 999 := rfl
  simp only [h999]
  unfold mo_cver tk_ver at hok hbad
  generalize hr : σ.1 31 0 = r at *
  generalize hn : mo_cn σ = n at *
  generalize hs : mo_cp σ = s at *
  have e0 : mo_cto σ (upd (σ.1 32 0) 5 0) s := mo_cto_u (by omega) (hs ▸ hS.2)
  refine ⟨⟨⟨hl, e0⟩, Int.le_refl _⟩, fun q0 ρ1 h1 => ?_, fun q0 ρ8 h8 => ?_⟩
  · rw [mo_ite_t q0] at hok hbad
    obtain ⟨h1a, h1b, h1c⟩ := h1
    have c1 := mo_cto_cl hl h1a
    have v1 : ρ1 5 + ρ1 4 * (1000000 : Int32) = nI (tk_nv r n s * 1000000) := by rw [h1b, h1c, show (1000000 : Int32) = nI 1000000 from rfl, pk_mul]; exact Int32.zero_add _
    simp only [c1, v1]
    refine ⟨⟨hl, mo_cto_u (by omega) h1a⟩, fun q1 ρ2 h2 => ?_, fun q1 => ?_⟩
    · rw [mo_ite_t q1] at hok hbad
      obtain ⟨h2a, h2b, h2c⟩ := h2
      have c2 := mo_cto_cl hl h2a
      simp only [c2]
      refine ⟨⟨⟨hl, h2a⟩, Int.le_refl _⟩, fun q2 ρ3 h3 => ?_, fun q2 ρ7 h7 => ?_⟩
      · rw [mo_ite_t q2] at hok hbad
        obtain ⟨h3a, h3b, h3c⟩ := h3
        have c3 := mo_cto_cl hl h3a
        have v3 : ρ3 5 + ρ3 4 * (1000 : Int32) = nI (tk_nv r n s * 1000000 + tk_nv r n (tk_N r n (tk_N r n s)) * 1000) := by rw [h3b, h3c, h2c, show (1000 : Int32) = nI 1000 from rfl, pk_mul, nI_add]
        simp only [c3, v3]
        refine ⟨⟨hl, mo_cto_u (by omega) h3a⟩, fun q3 ρ4 h4 => ?_, fun q3 => ?_⟩
        · rw [mo_ite_t q3] at hok hbad
          obtain ⟨h4a, h4b, h4c⟩ := h4
          have c4 := mo_cto_cl hl h4a
          simp only [c4]
          refine ⟨⟨⟨hl, h4a⟩, Int.le_refl _⟩, fun q4 ρ5 h5 => ?_, fun q4 ρ6 h6 => ?_⟩
          · rw [mo_ite_t q4] at hok hbad
            obtain ⟨h5a, h5b, h5c⟩ := h5
            refine hok trivial _ ⟨mo_cto_u (by omega) h5a, ?_⟩
            rw [u5, h5b, h5c, h4c, show (1 : Int32) = nI 1 from rfl, pk_mul, nI_add, Nat.mul_one]
          · rw [mo_ite_f q4] at hok hbad
            exact hbad id _ h6.1
        · rw [mo_ite_f q3] at hok hbad
          exact hok trivial _ ⟨mo_cto_u (by omega) h3a, u5 _ _⟩
      · rw [mo_ite_f q2] at hok hbad
        exact hbad id _ h7.1
    · rw [mo_ite_f q1] at hok hbad
      exact hok trivial _ ⟨mo_cto_u (by omega) h1a, u5 _ _⟩
  · rw [mo_ite_f q0] at hok hbad
    exact hbad id _ h8.1)
