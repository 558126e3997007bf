/-! the state of the reference's reading -/
def mo_mz (σ : mo_M) : Nat := (σ.1 50 0 31).toNatClampNeg
def mo_mp (σ : mo_M) : Nat := (σ.1 50 0 32).toNatClampNeg
def mo_mto (σ : mo_M) (ρ : Nat → Int32) (s : Nat) : Prop := s ≤ mo_mz σ ∧ ρ 32 = nI s ∧ ρ 33 = nI (mo_tE (σ.1 72 0) (mo_mz σ) s) ∧ ∀ k, k ≠ 32 → k ≠ 33 → ρ k = σ.1 50 0 k
def mo_mS (σ : mo_M) : Prop := mo_le (σ.1 50 0 31) 200 ∧ mo_mp σ ≤ mo_mz σ ∧ σ.1 50 0 32 = nI (mo_mp σ) ∧ σ.1 50 0 33 = nI (mo_tE (σ.1 72 0) (mo_mz σ) (mo_mp σ))
noncomputable def mo_mN (σ : mo_M) : Nat := tk_N (σ.1 72 0) (mo_mz σ) (mo_mp σ)
def mo_msg (σ : mo_M) (c : Int32) : Prop := tk_sg (σ.1 72 0) (mo_mz σ) c (mo_mp σ)
def mo_mnum (σ : mo_M) (a : Int32) : Prop := tk_num (σ.1 72 0) (mo_mz σ) a.toInt (mo_mp σ)
noncomputable def mo_mnv (σ : mo_M) : Nat := tk_nv (σ.1 72 0) (mo_mz σ) (mo_mp σ)
def tk_wof (x : Int64) : List Int32 := if x = 4130 then [98, 97, 100] else if x = 591 then [111, 114] else if x = 4545 then [97, 110, 100] else [97, 110, 121]
def mo_mwd (σ : mo_M) (x : Int64) : Prop := tk_wd (σ.1 72 0) (mo_mz σ) (tk_wof x) (mo_mp σ)
def tk_wok (x : Int64) : Prop := x = 4130 ∨ x = 591 ∨ x = 4545 ∨ x = 26049
def tk_code : Int64 → List Int32 → Prop
  | x, [] => x ≤ 0
  | x, c :: ws => ¬ x ≤ 0 ∧ c.toInt64 = 96 + (x &&& 31) ∧ tk_code (x >>> ((5 : Int32).toInt64 &&& 63)) ws
theorem tk_wof_code {x : Int64} (h : tk_wok x) : tk_code x (tk_wof x) := by
  rcases h with rfl | rfl | rfl | rfl <;> exact ⟨by decide, by decide, by decide, by decide, by first | exact (show (_ : Int64) ≤ 0 by decide) | exact ⟨by decide, by decide, show (_ : Int64) ≤ 0 by decide⟩⟩
theorem mo_mS_pre {σ : mo_M} (h : mo_mS σ) : mo_le (σ.1 50 0 31) 200 ∧ mo_le (σ.1 50 0 33) (σ.1 50 0 31).toNatClampNeg := by
  obtain ⟨h1, h2, h3, h4⟩ := h
  have := (mo_tE_le (σ.1 72 0) h2).2
  have hn := h1.2
  unfold mo_mz at *
  refine ⟨h1, ?_⟩
  unfold mo_le
  rw [h4, mo_cl (by omega)]
  exact ⟨rfl, this⟩
def SN_X12_next : mo_S := fun as σ Q => as = [.inr (.inr (50, 0))] ∧ ((mo_le (σ.1 50 0 31) 200 ∧ mo_le (σ.1 50 0 33) (σ.1 50 0 31).toNatClampNeg) ∧ (∀ ρ : Nat → Int32, (mo_mto σ ρ (mo_tS (σ.1 72 0) (mo_mz σ) (σ.1 50 0 33).toNatClampNeg)) → Q (none) (mo_rowI σ 50 0 ρ)))
theorem mN_X12_next : ∀ (as : List mo_V) (σ : mo_M) (P P' : mo_Q), (∀ x τ, P x τ → P' x τ) → SN_X12_next as σ P → SN_X12_next as σ P' := by
  rintro as σ P P' hm ⟨e, hq⟩
  exact ⟨e, ⟨hq.1, fun ρ hz => hm _ _ (hq.2 ρ hz)⟩⟩

theorem ctN_X12_next : mo_ct yX12_next t_X12_next SN_X12_next := mo_ct_imp ct_X12_next (by
  rintro as σ Q ⟨rfl, ⟨h1, h2⟩, hq⟩
  refine ⟨rfl, ⟨h1, h2⟩, ?_⟩
  unfold mo_nxM
  rw [mo_wI_row σ 50 0 32, mo_rowI_w]
  refine hq _ ⟨(mo_tS_le _ h2.2).2, ?_, ?_, fun k a b => ?_⟩
  · simp [upd, mo_mz]
  · simp [upd, mo_mz]
  · simp [upd, a, b])
def SN_X12_isSign : mo_S := fun as σ Q => ∃ c : Int32, as = [.inr (.inr (50, 0)), .inl c] ∧ (mo_mS σ ∧ (¬ (48 ≤ c ∧ c ≤ 57) ∧ ¬ (97 ≤ c ∧ c ≤ 122))) ∧ Q (some (.inl (mo_bl (mo_msg σ c)))) (σ)
theorem mN_X12_isSign : ∀ (as : List mo_V) (σ : mo_M) (P P' : mo_Q), (∀ x τ, P x τ → P' x τ) → SN_X12_isSign as σ P → SN_X12_isSign as σ P' := by
  rintro as σ P P' h ⟨c, e, hp, hq⟩
  exact ⟨c, e, hp, h _ _ hq⟩
theorem ctN_X12_isSign : mo_ct yX12_isSign t_X12_isSign SN_X12_isSign := mo_ct_imp ct_X12_isSign (by
  rintro as σ Q ⟨c, rfl, ⟨hS, hc⟩, hq⟩
  obtain ⟨h1, h2, h3, h4⟩ := hS
  have hn := h1.2
  have hmn : mo_mz σ ≤ 200 := hn
  have hlt : σ.1 50 0 32 < σ.1 50 0 31 ↔ mo_mp σ < mo_mz σ := by
    rw [h3, h1.1, nI_ltI (by omega) (by omega)]; rfl
  refine ⟨c, rfl, fun q => ?_, ?_⟩
  · rw [h3]; exact mo_inN (by have := hlt.mp q; omega) (by decide)
  · have e : mo_bl (σ.1 50 0 32 < σ.1 50 0 31 ∧ σ.1 72 0 (σ.1 50 0 32).toNatClampNeg = c) = mo_bl (mo_msg σ c) := by
      refine mo_blc ⟨fun q => ?_, fun q => ?_⟩
      · have hp := hlt.mp q.1
        have q2 : σ.1 72 0 (mo_mp σ) = c := q.2
        refine ⟨?_, q2⟩
        rcases mo_kn_c (σ.1 72 0) (mo_mz σ) (mo_mp σ) with ⟨z, -⟩ | ⟨-, z, -⟩ | ⟨-, -, z, -⟩ | ⟨-, -, -, z⟩
        · omega
        · rw [q2] at z; exact absurd z hc.2
        · rw [q2] at z; exact absurd z hc.1
        · exact z
      · refine ⟨hlt.mpr ?_, q.2⟩
        by_cases z : mo_mp σ < mo_mz σ
        · exact z
        · have := q.1; rw [mo_kn0.mpr (by omega)] at this; exact absurd this (by decide)
    rw [e]; exact hq)
theorem mo_linj {x y : Int32} (h : x.toInt64 = y.toInt64) : x = y := by
  have := congrArg Int64.toInt h
  rw [Int32.toInt_toInt64, Int32.toInt_toInt64] at this
  exact Int32.toInt_inj.mp this
theorem tk_cons {r : Nat → Int32} {e k : Nat} {c : Int32} {ws : List Int32} (h : r k = c) : (e = k + 1 + ws.length ∧ ∀ i, i < ws.length → r (k + 1 + i) = ws.getD i 0) ↔ (e = k + (c :: ws).length ∧ ∀ i, i < (c :: ws).length → r (k + i) = (c :: ws).getD i 0) := by
  constructor
  · rintro ⟨h1, h2⟩
    refine ⟨by simp; omega, fun i hi => ?_⟩
    cases i with
    | zero => simpa using h
    | succ i =>
      have := h2 i (by simp at hi; omega)
      rw [show k + (i + 1) = k + 1 + i from by omega, this]
      simp
  · rintro ⟨h1, h2⟩
    refine ⟨by simp at h1; omega, fun i hi => ?_⟩
    have := h2 (i + 1) (by simp; omega)
    rw [show k + (i + 1) = k + 1 + i from by omega] at this
    rw [this]
    simp
set_option maxRecDepth 20000 in
set_option maxHeartbeats 2000000 in
theorem lp_X12_isWord (g : mo_E) (σ : mo_M) (Q : mo_Q) (x0 : Int64) (e : Nat) (he : σ.1 50 0 33 = nI e) (hle : e ≤ 200) : ∀ (ws : List Int32) (x : Int64) (k : Nat), tk_code x ws → k ≤ 200 → Q (some (.inl (mo_bl (e = k + ws.length ∧ ∀ i, i < ws.length → σ.1 72 0 (k + i) = ws.getD i 0)))) σ → mo_X g t_X12_isWord Q 8 [some (.inr (.inr (50, 0))), some (.inr (.inl x0)), none, some (.inr (.inl x)), none, some (.inl (nI k))] [] σ := by
  intro ws
  induction ws with
  | nil =>
    intro x k hc hk hQ
    have hkc : (nI k).toNatClampNeg = k := mo_cl (by omega)
    refine mo_go ok_X12_isWord (mo_no_ok g _) [8] 42 ?_
    intro K hK
    refine And.intro (fun (c1 : (lg_cmp x (0 : Int64)) ≤ 0) => ?_) (fun (c1 : ¬ (lg_cmp x (0 : Int64)) ≤ 0) => ?_)
    · refine And.intro (fun (c2 : ¬ (nI k) = (σ.1 50 0 33)) => ?_) (fun (c2 : (nI k) = (σ.1 50 0 33)) => ?_)
      · refine And.intro (by first | decide | exact mo_bl01 _) ?_
        (refine mo_q hQ (mo_r0 (fun q => ?_)) rfl; have z : ¬ nI k = nI e := (by rw [← he]; exact c2); exact z (by have := q.1; simp at this; rw [this]))
      · refine And.intro (by first | decide | exact mo_bl01 _) ?_
        (refine mo_q hQ (mo_r1 ⟨?_, fun i hi => absurd hi (by simp)⟩) rfl; have z := c2; rw [he] at z; have z : nI k = nI e := (by first | exact z | exact Classical.not_not.mp z); rw [nI_eq (by omega) (by omega)] at z; simp; omega)
    · exact absurd c1 (by rw [lg_cmp_le]; exact not_not_intro hc)
  | cons c ws ih =>
    intro x k hc hk hQ
    have hkc : (nI k).toNatClampNeg = k := mo_cl (by omega)
    refine mo_go ok_X12_isWord (mo_no_ok g _) [8] 42 ?_
    intro K hK
    refine And.intro (fun (c1 : (lg_cmp x (0 : Int64)) ≤ 0) => ?_) (fun (c1 : ¬ (lg_cmp x (0 : Int64)) ≤ 0) => ?_)
    · exact absurd c1 (by rw [lg_cmp_le]; exact hc.1)
    · refine And.intro (fun (c2 : (σ.1 50 0 33) ≤ (nI k)) => ?_) (fun (c2 : ¬ (σ.1 50 0 33) ≤ (nI k)) => ?_)
      · refine And.intro (by first | decide | exact mo_bl01 _) ?_
        (refine mo_q hQ (mo_r0 (fun q => ?_)) rfl; have z := c2; rw [he, nI_leI (by omega) (by omega)] at z; have := q.1; simp at this; omega)
      · refine And.intro (show vp_in (nI k) 200 by exact mo_inN (by have z := c2; rw [he, nI_leI (by omega) (by omega)] at z; omega) (by decide)) ?_
        refine And.intro (fun (c3 : (lg_cmp ((σ.1 72 0 ((nI k).toNatClampNeg)).toInt64) ((96 : Int64) + (x &&& (31 : Int64)))) = 0) => ?_) (fun (c3 : ¬ (lg_cmp ((σ.1 72 0 ((nI k).toNatClampNeg)).toInt64) ((96 : Int64) + (x &&& (31 : Int64)))) = 0) => ?_)
        · (have z2 := c2; rw [he, nI_leI (by omega) (by omega)] at z2; have z3 := c3; rw [lg_cmp_eq, hkc] at z3; have z4 : σ.1 72 0 k = c := mo_linj ((show (σ.1 72 0 k).toInt64 = _ by first | exact z3 | exact Classical.not_not.mp z3).trans hc.2.1.symm); have hih := ih (x >>> ((5 : Int32).toInt64 &&& 63)) (k + 1) hc.2.2 (by omega) (mo_q hQ (congrArg (fun z => some (Sum.inl z : mo_V)) (mo_blc (tk_cons z4))) rfl); rw [nI_succ] at hih; exact hK _ _ _ _ hih)
        · refine And.intro (by first | decide | exact mo_bl01 _) ?_
          (refine mo_q hQ (mo_r0 (fun q => ?_)) rfl; have z := c3; rw [lg_cmp_eq, hkc] at z; refine z ?_; have := q.2 0 (by simp); simp at this; rw [this]; exact hc.2.1)
def S_X12_isWord : mo_S := fun as σ Q => ∃ x : Int64, as = [.inr (.inr (50, 0)), .inr (.inl x)] ∧ (mo_mS σ ∧ tk_wok x) ∧ Q (some (.inl (mo_bl (mo_mwd σ x)))) (σ)
theorem m_X12_isWord : ∀ (as : List mo_V) (σ : mo_M) (P P' : mo_Q), (∀ x τ, P x τ → P' x τ) → S_X12_isWord as σ P → S_X12_isWord as σ P' := by
  rintro as σ P P' h ⟨x, e, hp, hq⟩
  exact ⟨x, e, hp, h _ _ hq⟩
theorem tk_wof_l {x : Int64} (h : tk_wok x) : 0 < (tk_wof x).length ∧ 97 ≤ (tk_wof x).getD 0 0 ∧ (tk_wof x).getD 0 0 ≤ 122 := by
  rcases h with rfl | rfl | rfl | rfl <;> decide
theorem tk_wdE {σ : mo_M} {x : Int64} (h : 0 < (tk_wof x).length ∧ 97 ≤ (tk_wof x).getD 0 0 ∧ (tk_wof x).getD 0 0 ≤ 122) (h2 : mo_mp σ ≤ mo_mz σ) : mo_bl (mo_tE (σ.1 72 0) (mo_mz σ) (mo_mp σ) = mo_mp σ + (tk_wof x).length ∧ ∀ i, i < (tk_wof x).length → σ.1 72 0 (mo_mp σ + i) = (tk_wof x).getD i 0) = mo_bl (mo_mwd σ x) := by
  refine mo_blc ⟨fun q => ⟨?_, q⟩, fun q => q.2⟩
  have q0 := q.2 0 h.1
  rw [Nat.add_zero] at q0
  rcases mo_kn_c (σ.1 72 0) (mo_mz σ) (mo_mp σ) with ⟨z, e⟩ | ⟨-, -, z⟩ | ⟨-, z, -⟩ | ⟨-, z, -⟩
  · have e2 : mo_tE (σ.1 72 0) (mo_mz σ) (mo_mp σ) = mo_mp σ := if_pos e
    have := q.1
    omega
  · exact z
  · rw [q0] at z; exact absurd h.2 z
  · rw [q0] at z; exact absurd h.2 z
set_option maxRecDepth 20000 in
set_option maxHeartbeats 2000000 in
theorem ct_X12_isWord : mo_ct yX12_isWord t_X12_isWord S_X12_isWord := by
  refine mo_ct_of (by decide) rfl ?_
  rintro g as σ Q ⟨x, rfl, hpre, hQ⟩
  refine ⟨Nat.le_of_ble_eq_true rfl, mo_go ok_X12_isWord (mo_no_ok g _) [8] 42 ?_⟩
  intro K hK
  (obtain ⟨⟨h1, h2, h3, h4⟩, hx⟩ := hpre; have hn := h1.2; have hmn : mo_mz σ ≤ 200 := hn; have hE := mo_tE_le (σ.1 72 0) h2; rw [← tk_wdE (tk_wof_l hx) h2] at hQ; have h0 := lp_X12_isWord g σ Q x _ h4 (by omega) (tk_wof x) x (mo_mp σ) (tk_wof_code hx) (by omega) hQ; rw [← h3] at h0; exact hK _ _ _ _ h0)
def cs_X12_number : Nat → mo_C := fun j => match j with
  | 0 => (4, true, 188, 12, S_X12_isIn)
  | 1 => (1, true, 202, 12, S_X12_faults)
  | 2 => (1, true, 205, 12, SN_X12_next)
  | _ => (0, false, 0, 50, fun _ _ _ => False)
theorem cs_X12_number_ok (g : mo_E) : ∀ j, mo_cok g t_X12_number (cs_X12_number j) ∧ mo_mon (cs_X12_number j) := by
  intro j
  unfold cs_X12_number
  split
  · exact ⟨mo_cokV ct_X12_isIn (by decide) ⟨_, _, rfl⟩ (by decide +kernel), m_X12_isIn⟩
  · exact ⟨mo_cokV ct_X12_faults (by decide) ⟨_, _, rfl⟩ (by decide +kernel), m_X12_faults⟩
  · exact ⟨mo_cokV ctN_X12_next (by decide) ⟨_, _, rfl⟩ (by decide +kernel), mN_X12_next⟩
  · exact ⟨mo_cok0 g _, mo_mon0⟩

noncomputable def tk_nf (r : Nat → Int32) (a : Int32) (s : Nat) : Nat → Int32 := mo_fo (fun i v => mo_ite (a < v) v (((10 : Int32) * v + r (s + i)) - 48)) 0
theorem tk_nf_eq {r : Nat → Int32} {s A : Nat} (hA : A ≤ 999) : ∀ {k : Nat}, (∀ i, i < k → 48 ≤ r (s + i) ∧ r (s + i) ≤ 57) → ∃ w, tk_nf r (nI A) s k = nI w ∧ w ≤ 10000 ∧ (tk_vl r s k ≤ A → w = tk_vl r s k) ∧ (w ≤ A → tk_vl r s k ≤ A)
  | 0, _ => ⟨0, rfl, by omega, fun _ => rfl, fun _ => Nat.zero_le _⟩
  | k + 1, h => by
    obtain ⟨w, h1, h2, h3, h4⟩ := tk_nf_eq (r := r) (s := s) hA (k := k) (fun i hi => h i (by omega))
    obtain ⟨d, hd, hx, hy⟩ := mo_dg (h k (by omega))
    have hs : tk_nf r (nI A) s (k + 1) = mo_ite (nI A < tk_nf r (nI A) s k) (tk_nf r (nI A) s k) (((10 : Int32) * tk_nf r (nI A) s k + r (s + k)) - 48) := rfl
    have hv : tk_vl r s (k + 1) = tk_vl r s k * 10 + d := by show tk_vl r s k * 10 + (r (s + k) - 48).toNatClampNeg = _; rw [hy]
    rw [hs, h1]
    by_cases q : nI A < nI w
    · rw [mo_ite_t q]
      rw [nI_ltI (by omega) (by omega)] at q
      refine ⟨w, rfl, h2, fun z => ?_, fun z => by omega⟩
      have := h3 (by omega)
      omega
    · rw [mo_ite_f q]
      rw [nI_ltI (by omega) (by omega)] at q
      have e : ((10 : Int32) * nI w + r (s + k)) - (48 : Int32) = nI (10 * w + d) := by
        rw [hx, show (10 : Int32) = nI 10 from rfl, pk_mul, nI_add, show 10 * w + (d + 48) = (10 * w + d) + 48 from by omega, ← nI_add, show nI 48 = (48 : Int32) from rfl, Int32.add_sub_cancel]
      have hle := h4 (by omega)
      have hw := h3 hle
      exact ⟨10 * w + d, e, by omega, fun _ => by omega, fun _ => by omega⟩
set_option maxRecDepth 20000 in
set_option maxHeartbeats 2000000 in
theorem lp_X12_number (g : mo_E) (σ : mo_M) (Q : mo_Q) (a : Int32) (s n : Nat) (hn : σ.1 50 0 33 = nI (s + n)) (hle : s + n ≤ 200) (hX : mo_X g t_X12_number Q 66 [some (.inr (.inr (50, 0))), some (.inl a), some (.inl (tk_nf (σ.1 72 0) a s n)), some (.inl (nI (s + n)))] [] σ) : ∀ (d k : Nat), n < k + d → k ≤ n → (True) → mo_X g t_X12_number Q 28 [some (.inr (.inr (50, 0))), some (.inl a), some (.inl (tk_nf (σ.1 72 0) a s k)), some (.inl (nI (s + k)))] [] (σ) := by
  intro d
  induction d with
  | zero => intro k h1 h2; omega
  | succ d ih =>
    intro k h1 h2 hinv
    have hkc : (nI k).toNatClampNeg = k := mo_cl (by omega)
    have hkc2 : (nI (s + k)).toNatClampNeg = s + k := mo_cl (by omega)
    refine mo_go ok_X12_number (cs_X12_number_ok g) [28, 66] 50 ?_
    intro K hK
    refine And.intro (fun (c1 : (σ.1 50 0 33) ≤ (nI (s + k))) => ?_) (fun (c1 : ¬ (σ.1 50 0 33) ≤ (nI (s + k))) => ?_)
    · have hk : s + n ≤ s + k := mo_cge hn (by omega) (by omega) c1
      (have e : k = n := (by omega); subst e; exact hK _ _ _ _ hX)
    · have hk : s + k < s + n := mo_clt hn (by omega) (by omega) c1
      refine And.intro (fun (c2 : (tk_nf (σ.1 72 0) a s k) ≤ a) => ?_) (fun (c2 : ¬ (tk_nf (σ.1 72 0) a s k) ≤ a) => ?_)
      · refine And.intro (show vp_in (nI (s + k)) 200 by exact mo_inN (by omega) (by decide)) ?_
        (have hih := ih (k + 1) (by omega) (by omega) trivial; have e : tk_nf (σ.1 72 0) a s (k + 1) = (((10 : Int32) * (tk_nf (σ.1 72 0) a s k)) + (σ.1 72 0 ((s + k)))) - (48 : Int32) := mo_ite_f (by first | exact c2 | exact Int32.not_lt.mpr c2); rw [show s + (k + 1) = s + k + 1 from rfl, nI_succ, e] at hih; refine hK _ _ _ _ (show mo_X g t_X12_number Q 28 [some (.inr (.inr (50, 0))), some (.inl a), some (.inl ((((10 : Int32) * (tk_nf (σ.1 72 0) a s k)) + (σ.1 72 0 ((nI (s + k)).toNatClampNeg))) - (48 : Int32))), some (.inl ((nI (s + k)) + (1 : Int32)))] [] (σ) from ?_); (try rw [hkc2]); exact hih)
      · (have hih := ih (k + 1) (by omega) (by omega) trivial; have e : tk_nf (σ.1 72 0) a s (k + 1) = tk_nf (σ.1 72 0) a s k := mo_ite_t (Int32.not_le.mp c2); rw [show s + (k + 1) = s + k + 1 from rfl, nI_succ, e] at hih; refine hK _ _ _ _ (show mo_X g t_X12_number Q 28 [some (.inr (.inr (50, 0))), some (.inl a), some (.inl (tk_nf (σ.1 72 0) a s k)), some (.inl ((nI (s + k)) + (1 : Int32)))] [] (σ) from ?_); (try rw [hkc2]); exact hih)
def BT_X12_number (a : Int32) (v : Int32) (e : Int32) (KK : Int32 → mo_M → Prop) (σ : mo_M) (Q : mo_Q) : Prop := ((v ≤ a → ((mo_le (σ.1 50 0 31) 200 ∧ mo_le (σ.1 50 0 33) (σ.1 50 0 31).toNatClampNeg) ∧ (∀ ρ1 : Nat → Int32, (mo_mto σ ρ1 (mo_tS (σ.1 72 0) (mo_mz σ) (σ.1 50 0 33).toNatClampNeg)) → Q (some (.inl v)) (mo_rowI σ 50 0 ρ1)))) ∧ (¬ v ≤ a → ((¬ (σ.1 50 0 35 = (-1 : Int32)) → Q (some (.inl (0 : Int32))) (σ)) ∧ (σ.1 50 0 35 = (-1 : Int32) → Q (some (.inl (0 : Int32))) (mo_wI σ 50 0 35 (σ.1 50 0 32))))))
set_option maxRecDepth 20000 in
set_option maxHeartbeats 4000000 in
theorem bt_X12_number (g : mo_E) (a : Int32) (v : Int32) (e : Int32) (KK : Int32 → mo_M → Prop) (σ : mo_M) (Q : mo_Q) (hB : BT_X12_number a v e KK σ Q)  : mo_X g t_X12_number Q 66 [some (.inr (.inr (50, 0))), some (.inl a), some (.inl v), some (.inl e)] [] σ := by
  refine mo_go ok_X12_number (cs_X12_number_ok g) [66] 50 ?_
  intro K hK
  refine And.intro (fun (c1 : v ≤ a) => ?_) (fun (c1 : ¬ v ≤ a) => ?_)
  · refine And.intro rfl ?_
    refine And.intro (show mo_le (σ.1 50 0 31) 200 ∧ mo_le (σ.1 50 0 33) (σ.1 50 0 31).toNatClampNeg from (hB.1 c1).1) ?_
    intro ρ1 hr1
    exact ((hB.1 c1).2 ρ1 hr1)
  · refine And.intro rfl ?_
    refine And.intro (fun (c2 : ¬ (σ.1 50 0 35 = (-1 : Int32))) => ?_) (fun (c2 : σ.1 50 0 35 = (-1 : Int32)) => ?_)
    · exact ((hB.2 c1).1 c2)
    · exact ((hB.2 c1).2 c2)
theorem bm_X12_number (a : Int32) (v : Int32) (e : Int32) (KK : Int32 → mo_M → Prop) (σ : mo_M) (P P' : mo_Q) (hm : ∀ x τ, P x τ → P' x τ) (hq : BT_X12_number a v e KK σ P) : BT_X12_number a v e KK σ P' := ⟨fun c1 => ⟨(hq.1 c1).1, fun ρ1 hr1 => hm _ _ ((hq.1 c1).2 ρ1 hr1)⟩, fun c1 => ⟨fun c2 => hm _ _ ((hq.2 c1).1 c2), fun c2 => hm _ _ ((hq.2 c1).2 c2)⟩⟩
def ST_X12_number : mo_S := fun as σ Q => ∃ a : Int32, as = [.inr (.inr (50, 0)), .inl a] ∧ (((σ.1 50 0 32) < σ.1 50 0 31 → vp_in (σ.1 50 0 32) 200) ∧ (((σ.1 50 0 32) < σ.1 50 0 31 ∧ (48 : Int32) ≤ σ.1 72 0 (σ.1 50 0 32).toNatClampNeg ∧ σ.1 72 0 (σ.1 50 0 32).toNatClampNeg ≤ (57 : Int32) → (∃ s n : Nat, σ.1 50 0 33 = nI (s + n) ∧ s + n ≤ 200 ∧ σ.1 50 0 32 = nI s ∧ BT_X12_number a (tk_nf (σ.1 72 0) a s n) (nI (s + n)) (fun _ _ => True) σ Q)) ∧ (¬ ((σ.1 50 0 32) < σ.1 50 0 31 ∧ (48 : Int32) ≤ σ.1 72 0 (σ.1 50 0 32).toNatClampNeg ∧ σ.1 72 0 (σ.1 50 0 32).toNatClampNeg ≤ (57 : Int32)) → ((¬ (σ.1 50 0 35 = (-1 : Int32)) → Q (some (.inl (0 : Int32))) (σ)) ∧ (σ.1 50 0 35 = (-1 : Int32) → Q (some (.inl (0 : Int32))) (mo_wI σ 50 0 35 (σ.1 50 0 32)))))))
theorem mT_X12_number : ∀ (as : List mo_V) (σ : mo_M) (P P' : mo_Q), (∀ x τ, P x τ → P' x τ) → ST_X12_number as σ P → ST_X12_number as σ P' := by
  rintro as σ P P' hm ⟨a, e, hq⟩
  exact ⟨a, e, ⟨hq.1, ⟨fun c1 => (let ⟨s, n, w1, w2, w3, w4⟩ := (hq.2.1 c1); ⟨s, n, w1, w2, w3, bm_X12_number _ _ _ _ σ _ _ hm w4⟩), fun c1 => ⟨fun c2 => hm _ _ ((hq.2.2 c1).1 c2), fun c2 => hm _ _ ((hq.2.2 c1).2 c2)⟩⟩⟩⟩
set_option maxRecDepth 20000 in
set_option maxHeartbeats 2000000 in
theorem ctT_X12_number : mo_ct yX12_number t_X12_number ST_X12_number := by
  refine mo_ct_of (by decide) rfl ?_
  rintro g as σ Q ⟨a, rfl, hQ⟩
  refine ⟨Nat.le_of_ble_eq_true rfl, mo_go ok_X12_number (cs_X12_number_ok g) [28] 50 ?_⟩
  intro K hK
  refine Exists.intro (σ.1 50 0 32) (Exists.intro (48 : Int32) (Exists.intro (57 : Int32) (And.intro rfl (And.intro (show (σ.1 50 0 32) < σ.1 50 0 31 → vp_in (σ.1 50 0 32) 200 from hQ.1) ?_))))
  refine And.intro (fun (c1 : ¬ (mo_bl ((σ.1 50 0 32) < σ.1 50 0 31 ∧ (48 : Int32) ≤ σ.1 72 0 (σ.1 50 0 32).toNatClampNeg ∧ σ.1 72 0 (σ.1 50 0 32).toNatClampNeg ≤ (57 : Int32))) = 0) => ?_) (fun (c1 : (mo_bl ((σ.1 50 0 32) < σ.1 50 0 31 ∧ (48 : Int32) ≤ σ.1 72 0 (σ.1 50 0 32).toNatClampNeg ∧ σ.1 72 0 (σ.1 50 0 32).toNatClampNeg ≤ (57 : Int32))) = 0) => ?_)
  · replace c1 : (σ.1 50 0 32) < σ.1 50 0 31 ∧ (48 : Int32) ≤ σ.1 72 0 (σ.1 50 0 32).toNatClampNeg ∧ σ.1 72 0 (σ.1 50 0 32).toNatClampNeg ≤ (57 : Int32) := mo_blT c1
    obtain ⟨s, n, w1, w2, w3, w4⟩ := (hQ.2.1 c1)
    have h0 := lp_X12_number g σ Q a s n w1 w2 (bt_X12_number g _ _ _ _ σ Q w4) (n + 1) 0 (by omega) (by omega) trivial
    rw [show nI (s + 0) = σ.1 50 0 32 from w3.symm] at h0
    exact hK _ _ _ _ h0
  · replace c1 : ¬ ((σ.1 50 0 32) < σ.1 50 0 31 ∧ (48 : Int32) ≤ σ.1 72 0 (σ.1 50 0 32).toNatClampNeg ∧ σ.1 72 0 (σ.1 50 0 32).toNatClampNeg ≤ (57 : Int32)) := mo_bl0.mp c1
    refine And.intro rfl ?_
    refine And.intro (fun (c2 : ¬ (σ.1 50 0 35 = (-1 : Int32))) => ?_) (fun (c2 : σ.1 50 0 35 = (-1 : Int32)) => ?_)
    · exact ((hQ.2.2 c1).1 c2)
    · exact ((hQ.2.2 c1).2 c2)
def mo_mfl (σ : mo_M) (ρ : Nat → Int32) (s : Nat) : Prop := s ≤ mo_mz σ ∧ ρ 35 = nI s ∧ ∀ k, k ≠ 32 → k ≠ 33 → k ≠ 35 → ρ k = σ.1 50 0 k
def S_X12_number : mo_S := fun as σ Q => ∃ a : Int32, as = [.inr (.inr (50, 0)), .inl a] ∧ ((mo_mS σ ∧ σ.1 50 0 35 = (-1 : Int32) ∧ 0 ≤ a ∧ a ≤ 999) ∧ ((mo_mnum σ a → (∀ ρ : Nat → Int32, (mo_mto σ ρ (mo_mN σ)) → Q (some (.inl (nI (mo_mnv σ)))) (mo_rowI σ 50 0 ρ))) ∧ (¬ mo_mnum σ a → (∀ ρ : Nat → Int32, (mo_mfl σ ρ (mo_mp σ)) → Q (some (.inl (0 : Int32))) (mo_rowI σ 50 0 ρ)))))
theorem m_X12_number : ∀ (as : List mo_V) (σ : mo_M) (P P' : mo_Q), (∀ x τ, P x τ → P' x τ) → S_X12_number as σ P → S_X12_number as σ P' := by
  rintro as σ P P' hm ⟨a, e, hq⟩
  exact ⟨a, e, ⟨hq.1, ⟨fun cc => fun ρ hz => hm _ _ ((hq.2.1 cc) ρ hz), fun cc => fun ρ hz => hm _ _ ((hq.2.2 cc) ρ hz)⟩⟩⟩

set_option maxHeartbeats 2000000 in
theorem ct_X12_number : mo_ct yX12_number t_X12_number S_X12_number := mo_ct_imp ctT_X12_number (by
  rintro as σ Q ⟨a, rfl, ⟨hS, hg, ha0, ha1⟩, hok, hbad⟩
  obtain ⟨h1, h2, h3, h4⟩ := id hS
  have hn := h1.2
  have hmn : mo_mz σ ≤ 200 := hn
  have hE := mo_tE_le (σ.1 72 0) h2
  have hlt : σ.1 50 0 32 < σ.1 50 0 31 ↔ mo_mp σ < mo_mz σ := by
    rw [h3, h1.1, nI_ltI (by omega) (by omega)]; rfl
  have hfl : Q (some (.inl (0 : Int32))) (mo_wI σ 50 0 35 (σ.1 50 0 32)) ∨ mo_mnum σ a := by
    by_cases q : mo_mnum σ a
    · exact Or.inr q
    · refine Or.inl ?_
      rw [mo_wI_row]
      refine hbad q _ ⟨h2, ?_, fun k a b c => ?_⟩
      · simp [upd]; exact h3
      · simp [upd, c]
  have hin : (σ.1 50 0 32 < σ.1 50 0 31 ∧ 48 ≤ σ.1 72 0 (σ.1 50 0 32).toNatClampNeg ∧ σ.1 72 0 (σ.1 50 0 32).toNatClampNeg ≤ 57) ↔ mo_kn (σ.1 72 0) (mo_mz σ) (mo_mp σ) = 2 := by
    rw [hlt]
    show (mo_mp σ < mo_mz σ ∧ 48 ≤ σ.1 72 0 (mo_mp σ) ∧ σ.1 72 0 (mo_mp σ) ≤ 57) ↔ _
    rcases mo_kn_c (σ.1 72 0) (mo_mz σ) (mo_mp σ) with ⟨z, e⟩ | ⟨z, z2, e⟩ | ⟨z, z2, z3, e⟩ | ⟨z, z2, z3, e⟩ <;> rw [e]
    · exact ⟨fun q => absurd q.1 (by omega), fun q => absurd q (by decide)⟩
    · refine ⟨fun q => ?_, fun q => absurd q (by decide)⟩
      have := q.2.2
      have := z2.1
      simp only [Int32.le_iff_toInt_le, show (97 : Int32).toInt = 97 from rfl, show (57 : Int32).toInt = 57 from rfl] at *
      omega
    · exact ⟨fun _ => rfl, fun _ => ⟨z, z3⟩⟩
    · exact ⟨fun q => absurd q.2 z3, fun q => absurd q (by decide)⟩
  obtain ⟨A, hA, rfl⟩ := nI_of (Int32.not_lt.mpr ha0)
  rw [show (999 : Int32) = nI 999 from rfl, nI_leI hA (by omega)] at ha1
  refine ⟨nI A, rfl, fun q => ?_, fun q => ?_, fun q => ?_⟩
  · rw [h3]; exact mo_inN (by have := hlt.mp q; omega) (by decide)
  · have hk := hin.mp q
    obtain ⟨w, w1, w2, w3, w4⟩ := tk_nf_eq (r := σ.1 72 0) (s := mo_mp σ) ha1 (k := mo_tE (σ.1 72 0) (mo_mz σ) (mo_mp σ) - mo_mp σ) (fun j hj => mo_kn2 ((mo_tE_in (by rw [hk]; decide) (by rw [hk]; decide) (by omega) (by omega)).trans hk))
    have hnum : mo_mnum σ (nI A) ↔ w ≤ A := by
      constructor
      · intro z
        have z2 := z.2
        rw [nI_toInt (by omega)] at z2
        have z3 : tk_vl (σ.1 72 0) (mo_mp σ) (mo_tE (σ.1 72 0) (mo_mz σ) (mo_mp σ) - mo_mp σ) ≤ A := by unfold tk_nv at z2; omega
        rw [w3 z3]; exact z3
      · intro z
        refine ⟨hk, ?_⟩
        rw [nI_toInt (by omega)]
        have := w4 z
        unfold tk_nv
        omega
    refine ⟨mo_mp σ, mo_tE (σ.1 72 0) (mo_mz σ) (mo_mp σ) - mo_mp σ, ?_, by omega, h3, ?_⟩
    · rw [show mo_mp σ + (mo_tE (σ.1 72 0) (mo_mz σ) (mo_mp σ) - mo_mp σ) = mo_tE (σ.1 72 0) (mo_mz σ) (mo_mp σ) from by omega]; exact h4
    · rw [w1]
      refine ⟨fun z => ⟨mo_mS_pre hS, fun ρ hρ => ?_⟩, fun z => ⟨fun y => absurd hg y, fun _ => hfl.resolve_right (fun y => z ?_)⟩⟩
      · rw [nI_leI (by omega) (by omega)] at z
        have hv : w = mo_mnv σ := w3 (w4 z)
        have hc : (σ.1 50 0 33).toNatClampNeg = mo_tE (σ.1 72 0) (mo_mz σ) (mo_mp σ) := by rw [h4]; exact mo_cl (by omega)
        rw [hc] at hρ
        rw [hv]
        exact hok (hnum.mpr z) ρ hρ
      · rw [nI_leI (by omega) (by omega)]; exact hnum.mp y
  · exact ⟨fun z => absurd hg z, fun _ => hfl.resolve_right (fun z => q (hin.mpr z.1))⟩)
