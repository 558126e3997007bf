/-! tokens of a row of n bytes -/
noncomputable def mo_ex (P : Nat → Prop) : Nat → Nat → Nat
  | 0, p => p
  | d + 1, p => mo_ite (P p) (mo_ex P d (p + 1)) p
theorem mo_ex_ge (P : Nat → Prop) : ∀ d p, p ≤ mo_ex P d p ∧ mo_ex P d p ≤ p + d
  | 0, p => ⟨Nat.le_refl _, Nat.le_refl _⟩
  | d + 1, p => by
    rw [mo_ex]
    by_cases h : P p
    · rw [mo_ite_t h]; have := mo_ex_ge P d (p + 1); omega
    · rw [mo_ite_f h]; omega
theorem mo_ex_t {P : Nat → Prop} {n j : Nat} (h : j < n) (hp : P j) : mo_ex P (n - j) j = mo_ex P (n - (j + 1)) (j + 1) := by
  rw [show n - j = (n - (j + 1)) + 1 from by omega, mo_ex, mo_ite_t hp]
theorem mo_ex_f {P : Nat → Prop} {n j : Nat} (hp : ¬ P j) : mo_ex P (n - j) j = j := by
  cases h : n - j with
  | zero => rfl
  | succ d => rw [mo_ex, mo_ite_f hp]
theorem mo_ex_0 {P : Nat → Prop} {n j : Nat} (h : n ≤ j) : mo_ex P (n - j) j = j := by
  rw [show n - j = 0 from by omega]; rfl
theorem mo_ex_c {P P' : Nat → Prop} : ∀ {d p : Nat}, (∀ j, p ≤ j → j < p + d → (P j ↔ P' j)) → mo_ex P d p = mo_ex P' d p
  | 0, p, _ => rfl
  | d + 1, p, h => by
    rw [mo_ex, mo_ex, mo_ex_c (d := d) (p := p + 1) (fun j h1 h2 => h j (by omega) (by omega)), propext (h p (by omega) (by omega))]
noncomputable def mo_tS (r : Nat → Int32) (n p : Nat) : Nat := mo_ex (fun j => r j = 32) (n - p) p
def mo_kn (r : Nat → Int32) (n j : Nat) : Int32 := if n ≤ j then 0 else if 97 ≤ r j ∧ r j ≤ 122 then 1 else if 48 ≤ r j ∧ r j ≤ 57 then 2 else 3
noncomputable def mo_tE (r : Nat → Int32) (n s : Nat) : Nat := if mo_kn r n s = 0 then s else if mo_kn r n s = 3 then s + 1 else mo_ex (fun j => mo_kn r n j = mo_kn r n s) (n - (s + 1)) (s + 1)
theorem mo_kn_c (r : Nat → Int32) (n j : Nat) : (n ≤ j ∧ mo_kn r n j = 0) ∨ (j < n ∧ (97 ≤ r j ∧ r j ≤ 122) ∧ mo_kn r n j = 1) ∨ (j < n ∧ ¬ (97 ≤ r j ∧ r j ≤ 122) ∧ (48 ≤ r j ∧ r j ≤ 57) ∧ mo_kn r n j = 2) ∨ (j < n ∧ ¬ (97 ≤ r j ∧ r j ≤ 122) ∧ ¬ (48 ≤ r j ∧ r j ≤ 57) ∧ mo_kn r n j = 3) := by
  unfold mo_kn
  by_cases h : n ≤ j
  · rw [if_pos h]; exact Or.inl ⟨h, rfl⟩
  · rw [if_neg h]
    by_cases h1 : 97 ≤ r j ∧ r j ≤ 122
    · rw [if_pos h1]; exact Or.inr (Or.inl ⟨by omega, h1, rfl⟩)
    · rw [if_neg h1]
      by_cases h2 : 48 ≤ r j ∧ r j ≤ 57
      · rw [if_pos h2]; exact Or.inr (Or.inr (Or.inl ⟨by omega, h1, h2, rfl⟩))
      · rw [if_neg h2]; exact Or.inr (Or.inr (Or.inr ⟨by omega, h1, h2, rfl⟩))
theorem mo_kn0 {r : Nat → Int32} {n j : Nat} : mo_kn r n j = 0 ↔ n ≤ j := by
  rcases mo_kn_c r n j with ⟨h, e⟩ | ⟨h, -, e⟩ | ⟨h, -, -, e⟩ | ⟨h, -, -, e⟩ <;> rw [e]
  · exact ⟨fun _ => h, fun _ => rfl⟩
  all_goals exact ⟨fun q => absurd q (by decide), fun q => absurd q (by omega)⟩
theorem mo_tS_le (r : Nat → Int32) {n p : Nat} (h : p ≤ n) : p ≤ mo_tS r n p ∧ mo_tS r n p ≤ n := by
  have := mo_ex_ge (fun j => r j = 32) (n - p) p
  unfold mo_tS
  omega
theorem mo_tE_le (r : Nat → Int32) {n s : Nat} (h : s ≤ n) : s ≤ mo_tE r n s ∧ mo_tE r n s ≤ n := by
  unfold mo_tE
  by_cases h0 : mo_kn r n s = 0
  · rw [if_pos h0]; omega
  · have : ¬ n ≤ s := fun q => h0 (mo_kn0.mpr q)
    rw [if_neg h0]
    by_cases h1 : mo_kn r n s = 3
    · rw [if_pos h1]; omega
    · rw [if_neg h1]
      have := mo_ex_ge (fun j => mo_kn r n j = mo_kn r n s) (n - (s + 1)) (s + 1)
      omega
theorem mo_tE_lt (r : Nat → Int32) {n s : Nat} (h : s < n) : s < mo_tE r n s := by
  unfold mo_tE
  rw [if_neg (fun q => by have := mo_kn0.mp q; omega)]
  by_cases h1 : mo_kn r n s = 3
  · rw [if_pos h1]; omega
  · rw [if_neg h1]
    have := mo_ex_ge (fun j => mo_kn r n j = mo_kn r n s) (n - (s + 1)) (s + 1)
    omega
theorem mo_tE_1 {r : Nat → Int32} {n s : Nat} (h : s < n) (hc : 97 ≤ r s ∧ r s ≤ 122) : mo_ex (fun j => 97 ≤ r j ∧ r j ≤ 122) (n - s) s = mo_tE r n s := by
  have hk : mo_kn r n s = 1 := by unfold mo_kn; rw [if_neg (by omega), if_pos hc]
  unfold mo_tE
  rw [if_neg (by rw [hk]; decide), if_neg (by rw [hk]; decide), mo_ex_t (P := fun j => 97 ≤ r j ∧ r j ≤ 122) h hc]
  refine mo_ex_c (fun j h1 h2 => ?_)
  rw [hk]
  rcases mo_kn_c r n j with ⟨h, e⟩ | ⟨h, p, e⟩ | ⟨h, p, -, e⟩ | ⟨h, p, -, e⟩ <;> rw [e]
  · omega
  · exact ⟨fun _ => rfl, fun _ => p⟩
  all_goals exact ⟨fun q => absurd q p, fun q => absurd q (by decide)⟩
theorem mo_tE_2 {r : Nat → Int32} {n s : Nat} (h : s < n) (hc : 48 ≤ r s ∧ r s ≤ 57) (hn : ¬ (97 ≤ r s ∧ r s ≤ 122)) : mo_ex (fun j => 48 ≤ r j ∧ r j ≤ 57) (n - s) s = mo_tE r n s := by
  have hk : mo_kn r n s = 2 := by unfold mo_kn; rw [if_neg (by omega), if_neg hn, if_pos hc]
  unfold mo_tE
  rw [if_neg (by rw [hk]; decide), if_neg (by rw [hk]; decide), mo_ex_t (P := fun j => 48 ≤ r j ∧ r j ≤ 57) h hc]
  refine mo_ex_c (fun j h1 h2 => ?_)
  rw [hk]
  rcases mo_kn_c r n j with ⟨h, e⟩ | ⟨h, p, e⟩ | ⟨h, p, p2, e⟩ | ⟨h, p, p2, e⟩ <;> rw [e]
  · omega
  · refine ⟨fun q => absurd q ?_, fun q => absurd q (by decide)⟩
    rintro ⟨q1, q2⟩
    have := p.1
    simp only [Int32.le_iff_toInt_le, show (97 : Int32).toInt = 97 from rfl, show (57 : Int32).toInt = 57 from rfl] at *
    omega
  · exact ⟨fun _ => rfl, fun _ => p2⟩
  · exact ⟨fun q => absurd q p2, fun q => absurd q (by decide)⟩
noncomputable def mo_stp (σ : mo_M) : mo_M := mo_wI (mo_wI (mo_wI σ 32 0 2 (nI (mo_tS (σ.1 31 0) (σ.1 30 0 1).toNatClampNeg (σ.1 32 0 3).toNatClampNeg))) 32 0 1 (mo_kn (σ.1 31 0) (σ.1 30 0 1).toNatClampNeg (mo_tS (σ.1 31 0) (σ.1 30 0 1).toNatClampNeg (σ.1 32 0 3).toNatClampNeg))) 32 0 3 (nI (mo_tE (σ.1 31 0) (σ.1 30 0 1).toNatClampNeg (mo_tS (σ.1 31 0) (σ.1 30 0 1).toNatClampNeg (σ.1 32 0 3).toNatClampNeg)))
noncomputable def mo_nxM (σ : mo_M) : mo_M := mo_wI (mo_wI σ 50 0 32 (nI (mo_tS (σ.1 72 0) (σ.1 50 0 31).toNatClampNeg (σ.1 50 0 33).toNatClampNeg))) 50 0 33 (nI (mo_tE (σ.1 72 0) (σ.1 50 0 31).toNatClampNeg (mo_tS (σ.1 72 0) (σ.1 50 0 31).toNatClampNeg (σ.1 50 0 33).toNatClampNeg)))
def S2_X7_kindAt : mo_S := fun as σ Q => ∃ a : Int32, as = [.inr (.inr (32, 0)), .inl a] ∧ (mo_le a 200 ∧ mo_le (σ.1 30 0 1) 200) ∧ Q (some (.inl (mo_kn (σ.1 31 0) (σ.1 30 0 1).toNatClampNeg a.toNatClampNeg))) (σ)
theorem m2_X7_kindAt : ∀ (as : List mo_V) (σ : mo_M) (P P' : mo_Q), (∀ x τ, P x τ → P' x τ) → S2_X7_kindAt as σ P → S2_X7_kindAt as σ P' := by
  rintro as σ P P' h ⟨a, e, hp, hq⟩
  exact ⟨a, e, hp, h _ _ hq⟩
set_option maxRecDepth 20000 in
set_option maxHeartbeats 2000000 in
theorem ct2_X7_kindAt : mo_ct yX7_kindAt t_X7_kindAt S2_X7_kindAt := by
  refine mo_ct_of (by decide) rfl ?_
  rintro g as σ Q ⟨a, rfl, hpre, hQ⟩
  obtain ⟨⟨ha1, ha2⟩, hn1, hn2⟩ := hpre
  have hc1 : a < σ.1 30 0 1 → a.toNatClampNeg < (σ.1 30 0 1).toNatClampNeg := by
    intro q
    rw [ha1, hn1, nI_ltI (by omega) (by omega)] at q
    exact q
  have hc2 : ¬ a < σ.1 30 0 1 → (σ.1 30 0 1).toNatClampNeg ≤ a.toNatClampNeg := by
    intro q
    rw [ha1, hn1, nI_ltI (by omega) (by omega)] at q
    omega
  refine ⟨Nat.le_of_ble_eq_true rfl, mo_go ok_X7_kindAt (mo_no_ok g _) [] 32 ?_⟩
  intro K hK
  refine And.intro (fun (c1 : a < (σ.1 30 0 1)) => ?_) (fun (c1 : ¬ a < (σ.1 30 0 1)) => ?_)
  · refine And.intro (show vp_in a 200 by rw [ha1]; exact mo_inN (by have := hc1 (by assumption); omega) (by decide)) ?_
    refine And.intro (fun (c2 : (σ.1 31 0 a.toNatClampNeg) < (97 : Int32)) => ?_) (fun (c2 : ¬ (σ.1 31 0 a.toNatClampNeg) < (97 : Int32)) => ?_)
    · refine And.intro (fun (c3 : (σ.1 31 0 a.toNatClampNeg) < (48 : Int32)) => ?_) (fun (c3 : ¬ (σ.1 31 0 a.toNatClampNeg) < (48 : Int32)) => ?_)
      · (rcases mo_kn_c (σ.1 31 0) (σ.1 30 0 1).toNatClampNeg a.toNatClampNeg with ⟨h, e⟩ | ⟨h, p, e⟩ | ⟨h, p, p2, e⟩ | ⟨h, p, p2, e⟩ <;> first | exact mo_q hQ (by rw [e]; rfl) rfl | (exfalso; (try simp only [← Int32.not_lt] at *); clear hK hQ; grind))
      · refine And.intro (fun (c4 : (57 : Int32) < (σ.1 31 0 a.toNatClampNeg)) => ?_) (fun (c4 : ¬ (57 : Int32) < (σ.1 31 0 a.toNatClampNeg)) => ?_)
        · (rcases mo_kn_c (σ.1 31 0) (σ.1 30 0 1).toNatClampNeg a.toNatClampNeg with ⟨h, e⟩ | ⟨h, p, e⟩ | ⟨h, p, p2, e⟩ | ⟨h, p, p2, e⟩ <;> first | exact mo_q hQ (by rw [e]; rfl) rfl | (exfalso; (try simp only [← Int32.not_lt] at *); clear hK hQ; grind))
        · (rcases mo_kn_c (σ.1 31 0) (σ.1 30 0 1).toNatClampNeg a.toNatClampNeg with ⟨h, e⟩ | ⟨h, p, e⟩ | ⟨h, p, p2, e⟩ | ⟨h, p, p2, e⟩ <;> first | exact mo_q hQ (by rw [e]; rfl) rfl | (exfalso; (try simp only [← Int32.not_lt] at *); clear hK hQ; grind))
    · refine And.intro (fun (c3 : (122 : Int32) < (σ.1 31 0 a.toNatClampNeg)) => ?_) (fun (c3 : ¬ (122 : Int32) < (σ.1 31 0 a.toNatClampNeg)) => ?_)
      · refine And.intro (fun (c4 : (σ.1 31 0 a.toNatClampNeg) < (48 : Int32)) => ?_) (fun (c4 : ¬ (σ.1 31 0 a.toNatClampNeg) < (48 : Int32)) => ?_)
        · (rcases mo_kn_c (σ.1 31 0) (σ.1 30 0 1).toNatClampNeg a.toNatClampNeg with ⟨h, e⟩ | ⟨h, p, e⟩ | ⟨h, p, p2, e⟩ | ⟨h, p, p2, e⟩ <;> first | exact mo_q hQ (by rw [e]; rfl) rfl | (exfalso; (try simp only [← Int32.not_lt] at *); clear hK hQ; grind))
        · refine And.intro (fun (c5 : (57 : Int32) < (σ.1 31 0 a.toNatClampNeg)) => ?_) (fun (c5 : ¬ (57 : Int32) < (σ.1 31 0 a.toNatClampNeg)) => ?_)
          · (rcases mo_kn_c (σ.1 31 0) (σ.1 30 0 1).toNatClampNeg a.toNatClampNeg with ⟨h, e⟩ | ⟨h, p, e⟩ | ⟨h, p, p2, e⟩ | ⟨h, p, p2, e⟩ <;> first | exact mo_q hQ (by rw [e]; rfl) rfl | (exfalso; (try simp only [← Int32.not_lt] at *); clear hK hQ; grind))
          · (rcases mo_kn_c (σ.1 31 0) (σ.1 30 0 1).toNatClampNeg a.toNatClampNeg with ⟨h, e⟩ | ⟨h, p, e⟩ | ⟨h, p, p2, e⟩ | ⟨h, p, p2, e⟩ <;> first | exact mo_q hQ (by rw [e]; rfl) rfl | (exfalso; (try simp only [← Int32.not_lt] at *); clear hK hQ; grind))
      · (rcases mo_kn_c (σ.1 31 0) (σ.1 30 0 1).toNatClampNeg a.toNatClampNeg with ⟨h, e⟩ | ⟨h, p, e⟩ | ⟨h, p, p2, e⟩ | ⟨h, p, p2, e⟩ <;> first | exact mo_q hQ (by rw [e]; rfl) rfl | (exfalso; (try simp only [← Int32.not_lt] at *); clear hK hQ; grind))
  · (rcases mo_kn_c (σ.1 31 0) (σ.1 30 0 1).toNatClampNeg a.toNatClampNeg with ⟨h, e⟩ | ⟨h, p, e⟩ | ⟨h, p, p2, e⟩ | ⟨h, p, p2, e⟩ <;> first | exact mo_q hQ (by rw [e]; rfl) rfl | (exfalso; (try simp only [← Int32.not_lt] at *); clear hK hQ; grind))
def cs_X7_step : Nat → mo_C := fun j => match j with
  | 0 => (2, true, 107, 7, S2_X7_kindAt)
  | _ => (0, false, 0, 50, fun _ _ _ => False)
theorem cs_X7_step_ok (g : mo_E) : ∀ j, mo_cok g t_X7_step (cs_X7_step j) ∧ mo_mon (cs_X7_step j) := by
  intro j
  unfold cs_X7_step
  split
  · exact ⟨mo_cokV ct2_X7_kindAt (by decide) ⟨_, _, rfl⟩ (by decide +kernel), m2_X7_kindAt⟩
  · exact ⟨mo_cok0 g _, mo_mon0⟩

set_option maxRecDepth 20000 in
set_option maxHeartbeats 2000000 in
theorem la_X7_step (g : mo_E) (σ : mo_M) (Q : mo_Q) (n : Nat) (hn : σ.1 30 0 1 = nI n) (hle : n ≤ 200) : ∀ (d k : Nat), n < k + d → k ≤ n → (mo_X g t_X7_step Q 52 [some (.inr (.inr (32, 0)))] [] (mo_wI σ 32 0 2 (nI (mo_ex (fun j => σ.1 31 0 j = 32) (n - k) k)))) → mo_X g t_X7_step Q 8 [some (.inr (.inr (32, 0)))] [] (mo_wI σ 32 0 2 (nI k)) := by
  intro d
  induction d with
  | zero => intro k h1 h2; omega
  | succ d ih =>
    intro k h1 h2 hinv
    have hkc : (nI k).toNatClampNeg = k := mo_cl (by omega)
    refine mo_go ok_X7_step (cs_X7_step_ok g) [8, 52] 73 ?_
    intro K hK
    refine And.intro (fun (c1 : (σ.1 30 0 1) ≤ (nI k)) => ?_) (fun (c1 : ¬ (σ.1 30 0 1) ≤ (nI k)) => ?_)
    · have hk : n ≤ k := mo_cge hn (by omega) (by omega) c1
      (rw [show mo_ex (fun j => σ.1 31 0 j = 32) (n - k) k = k from mo_ex_0 hk] at hinv; exact hK _ _ _ _ hinv)
    · have hk : k < n := mo_clt hn (by omega) (by omega) c1
      refine And.intro (show vp_in (nI k) 200 by exact mo_inN (by omega) (by decide)) ?_
      refine And.intro (fun (c2 : ¬ (σ.1 31 0 ((nI k).toNatClampNeg)) = (32 : Int32)) => ?_) (fun (c2 : (σ.1 31 0 ((nI k).toNatClampNeg)) = (32 : Int32)) => ?_)
      · (rw [show mo_ex (fun j => σ.1 31 0 j = 32) (n - k) k = k from mo_ex_f (P := (fun j => σ.1 31 0 j = 32)) (by intro q; rw [hkc] at c2; exact c2 q)] at hinv; exact hK _ _ _ _ hinv)
      · (rw [mo_ex_t (P := (fun j => σ.1 31 0 j = 32)) hk (by rw [hkc] at c2; first | exact c2 | exact Classical.not_not.mp c2)] at hinv; have hih := ih (k + 1) (by omega) (by omega) hinv; rw [nI_succ] at hih; refine hK _ _ _ _ (show mo_X g t_X7_step Q 8 [some (.inr (.inr (32, 0)))] [] (mo_wI (mo_wI σ 32 0 2 (nI k)) 32 0 2 ((nI k) + (1 : Int32))) from ?_); rw [mo_wIwI]; exact hih)
set_option maxRecDepth 20000 in
set_option maxHeartbeats 2000000 in
theorem lb_X7_step (g : mo_E) (σ : mo_M) (Q : mo_Q) (n : Nat) (hn : σ.1 30 0 1 = nI n) (hle : n ≤ 200) : ∀ (d k : Nat), n < k + d → k ≤ n → (Q none (mo_wI σ 32 0 3 (nI (mo_ex (fun j => mo_kn (σ.1 31 0) n j = σ.1 32 0 1) (n - k) k)))) → mo_X g t_X7_step Q 104 [some (.inr (.inr (32, 0)))] [] (mo_wI σ 32 0 3 (nI k)) := by
  intro d
  induction d with
  | zero => intro k h1 h2; omega
  | succ d ih =>
    intro k h1 h2 hinv
    have hkc : (nI k).toNatClampNeg = k := mo_cl (by omega)
    refine mo_go ok_X7_step (cs_X7_step_ok g) [104] 73 ?_
    intro K hK
    refine And.intro (fun (c1 : (σ.1 30 0 1) ≤ (nI k)) => ?_) (fun (c1 : ¬ (σ.1 30 0 1) ≤ (nI k)) => ?_)
    · have hk : n ≤ k := mo_cge hn (by omega) (by omega) c1
      (rw [show mo_ex (fun j => mo_kn (σ.1 31 0) n j = σ.1 32 0 1) (n - k) k = k from mo_ex_0 hk] at hinv; exact hinv)
    · have hk : k < n := mo_clt hn (by omega) (by omega) c1
      refine Exists.intro (nI k) (And.intro rfl (And.intro (show mo_le (nI k) 200 ∧ mo_le (σ.1 30 0 1) 200 by exact ⟨⟨(by rw [hkc]), (by rw [hkc]; omega)⟩, (by rw [hn, mo_cl (by omega)]), (by rw [hn, mo_cl (by omega)]; omega)⟩) ?_))
      refine And.intro (fun (c2 : ¬ (mo_kn (σ.1 31 0) (σ.1 30 0 1).toNatClampNeg (nI k).toNatClampNeg) = (σ.1 32 0 1)) => ?_) (fun (c2 : (mo_kn (σ.1 31 0) (σ.1 30 0 1).toNatClampNeg (nI k).toNatClampNeg) = (σ.1 32 0 1)) => ?_)
      · (rw [show mo_ex (fun j => mo_kn (σ.1 31 0) n j = σ.1 32 0 1) (n - k) k = k from mo_ex_f (P := (fun j => mo_kn (σ.1 31 0) n j = σ.1 32 0 1)) (by intro q; rw [hkc, hn, mo_cl (by omega)] at c2; exact c2 q)] at hinv; exact hinv)
      · (rw [mo_ex_t (P := (fun j => mo_kn (σ.1 31 0) n j = σ.1 32 0 1)) hk (by rw [hkc, hn, mo_cl (by omega)] at c2; first | exact c2 | exact Classical.not_not.mp c2)] at hinv; have hih := ih (k + 1) (by omega) (by omega) hinv; rw [nI_succ] at hih; refine hK _ _ _ _ (show mo_X g t_X7_step Q 104 [some (.inr (.inr (32, 0)))] [] (mo_wI (mo_wI σ 32 0 3 (nI k)) 32 0 3 ((nI k) + (1 : Int32))) from ?_); rw [mo_wIwI]; exact hih)
set_option maxRecDepth 20000 in
set_option maxHeartbeats 2000000 in
theorem lm_X7_step (g : mo_E) (σ : mo_M) (Q : mo_Q) (n s : Nat) (hn : σ.1 30 0 1 = nI n) (hle : n ≤ 200) (hs : s ≤ n) (hQ : Q none (mo_wI (mo_wI (mo_wI σ 32 0 2 (nI s)) 32 0 1 (mo_kn (σ.1 31 0) n s)) 32 0 3 (nI (mo_tE (σ.1 31 0) n s)))) : mo_X g t_X7_step Q 52 [some (.inr (.inr (32, 0)))] [] (mo_wI σ 32 0 2 (nI s)) := by
  have hsc : (nI s).toNatClampNeg = s := mo_cl (by omega)
  refine mo_go ok_X7_step (cs_X7_step_ok g) [104] 73 ?_
  intro K hK
  refine Exists.intro (nI s) (And.intro rfl (And.intro (show mo_le (nI s) 200 ∧ mo_le (σ.1 30 0 1) 200 by exact ⟨⟨(by rw [hsc]), (by rw [hsc]; omega)⟩, (by rw [hn, mo_cl (by omega)]), (by rw [hn, mo_cl (by omega)]; omega)⟩) ?_))
  refine And.intro (fun (c1 : ¬ (mo_kn (σ.1 31 0) (σ.1 30 0 1).toNatClampNeg (nI s).toNatClampNeg) = 0) => ?_) (fun (c1 : (mo_kn (σ.1 31 0) (σ.1 30 0 1).toNatClampNeg (nI s).toNatClampNeg) = 0) => ?_)
  · refine And.intro (fun (c2 : (mo_kn (σ.1 31 0) (σ.1 30 0 1).toNatClampNeg (nI s).toNatClampNeg) = (1 : Int32)) => ?_) (fun (c2 : ¬ (mo_kn (σ.1 31 0) (σ.1 30 0 1).toNatClampNeg (nI s).toNatClampNeg) = (1 : Int32)) => ?_)
    · (have hz : ¬ mo_kn (σ.1 31 0) n s = 0 := (by have z := c1; rw [hsc, hn, mo_cl (by omega)] at z; exact z); have h3 : ¬ mo_kn (σ.1 31 0) n s = 3 := (by have z2 := c2; rw [hsc, hn, mo_cl (by omega)] at z2; rw [z2]; decide); have te : mo_tE (σ.1 31 0) n s = mo_ex (fun j => mo_kn (σ.1 31 0) n j = mo_kn (σ.1 31 0) n s) (n - (s + 1)) (s + 1) := (if_neg hz).trans (if_neg h3); rw [te] at hQ; have hsn : s < n := (by by_cases q : s < n; (· exact q); exact absurd (mo_kn0.mpr (by omega)) hz); have h0 := lb_X7_step g (mo_wI (mo_wI σ 32 0 2 (nI s)) 32 0 1 (mo_kn (σ.1 31 0) n s)) Q n hn hle (n + 1) (s + 1) (by omega) (by omega) hQ; refine hK _ _ _ _ (show mo_X g t_X7_step Q 104 [some (.inr (.inr (32, 0)))] [] (mo_wI (mo_wI (mo_wI σ 32 0 2 (nI s)) 32 0 1 (mo_kn (σ.1 31 0) (σ.1 30 0 1).toNatClampNeg (nI s).toNatClampNeg)) 32 0 3 ((nI s) + (1 : Int32))) from ?_); rw [hsc, hn, mo_cl (by omega)]; rw [nI_succ] at h0; exact h0)
    · refine And.intro (fun (c3 : ¬ (mo_kn (σ.1 31 0) (σ.1 30 0 1).toNatClampNeg (nI s).toNatClampNeg) = (2 : Int32)) => ?_) (fun (c3 : (mo_kn (σ.1 31 0) (σ.1 30 0 1).toNatClampNeg (nI s).toNatClampNeg) = (2 : Int32)) => ?_)
      · (have hz : ¬ mo_kn (σ.1 31 0) n s = 0 := (by have z := c1; rw [hsc, hn, mo_cl (by omega)] at z; exact z); have h3 : mo_kn (σ.1 31 0) n s = 3 := (by have z2 := c2; have z3 := c3; rw [hsc, hn, mo_cl (by omega)] at z2 z3; rcases mo_kn_c (σ.1 31 0) n s with ⟨-, e⟩ | ⟨-, -, e⟩ | ⟨-, -, -, e⟩ | ⟨-, -, -, e⟩; (· exact absurd e hz); (· exact absurd e z2); (· exact absurd e z3); exact e); have te : mo_tE (σ.1 31 0) n s = s + 1 := (if_neg hz).trans (if_pos h3); rw [te] at hQ; refine mo_q hQ rfl (show mo_wI (mo_wI (mo_wI σ 32 0 2 (nI s)) 32 0 1 (mo_kn (σ.1 31 0) (σ.1 30 0 1).toNatClampNeg (nI s).toNatClampNeg)) 32 0 3 ((nI s) + (1 : Int32)) = _ from ?_); rw [hsc, hn, mo_cl (by omega)]; rw [nI_succ])
      · (have hz : ¬ mo_kn (σ.1 31 0) n s = 0 := (by have z := c1; rw [hsc, hn, mo_cl (by omega)] at z; exact z); have h3 : ¬ mo_kn (σ.1 31 0) n s = 3 := (by have z2 := c3; rw [hsc, hn, mo_cl (by omega)] at z2; rw [z2]; decide); have te : mo_tE (σ.1 31 0) n s = mo_ex (fun j => mo_kn (σ.1 31 0) n j = mo_kn (σ.1 31 0) n s) (n - (s + 1)) (s + 1) := (if_neg hz).trans (if_neg h3); rw [te] at hQ; have hsn : s < n := (by by_cases q : s < n; (· exact q); exact absurd (mo_kn0.mpr (by omega)) hz); have h0 := lb_X7_step g (mo_wI (mo_wI σ 32 0 2 (nI s)) 32 0 1 (mo_kn (σ.1 31 0) n s)) Q n hn hle (n + 1) (s + 1) (by omega) (by omega) hQ; refine hK _ _ _ _ (show mo_X g t_X7_step Q 104 [some (.inr (.inr (32, 0)))] [] (mo_wI (mo_wI (mo_wI σ 32 0 2 (nI s)) 32 0 1 (mo_kn (σ.1 31 0) (σ.1 30 0 1).toNatClampNeg (nI s).toNatClampNeg)) 32 0 3 ((nI s) + (1 : Int32))) from ?_); rw [hsc, hn, mo_cl (by omega)]; rw [nI_succ] at h0; exact h0)
  · refine And.intro (fun (c2 : (mo_kn (σ.1 31 0) (σ.1 30 0 1).toNatClampNeg (nI s).toNatClampNeg) = (1 : Int32)) => ?_) (fun (c2 : ¬ (mo_kn (σ.1 31 0) (σ.1 30 0 1).toNatClampNeg (nI s).toNatClampNeg) = (1 : Int32)) => ?_)
    · exact absurd c2 (by rw [c1]; decide)
    · refine And.intro (fun (c3 : ¬ (mo_kn (σ.1 31 0) (σ.1 30 0 1).toNatClampNeg (nI s).toNatClampNeg) = (2 : Int32)) => ?_) (fun (c3 : (mo_kn (σ.1 31 0) (σ.1 30 0 1).toNatClampNeg (nI s).toNatClampNeg) = (2 : Int32)) => ?_)
      · (have hz : mo_kn (σ.1 31 0) n s = 0 := (by have z := c1; rw [hsc, hn, mo_cl (by omega)] at z; first | exact z | exact Classical.not_not.mp z); have te : mo_tE (σ.1 31 0) n s = s := if_pos hz; rw [te] at hQ; refine mo_q hQ rfl (show mo_wI (mo_wI (mo_wI σ 32 0 2 (nI s)) 32 0 1 (mo_kn (σ.1 31 0) (σ.1 30 0 1).toNatClampNeg (nI s).toNatClampNeg)) 32 0 3 (nI s) = _ from ?_); rw [hsc, hn, mo_cl (by omega)])
      · exact absurd c3 (by rw [c1]; decide)
def S_X7_step : mo_S := fun as σ Q => as = [.inr (.inr (32, 0))] ∧ (mo_le (σ.1 30 0 1) 200 ∧ mo_le (σ.1 32 0 3) (σ.1 30 0 1).toNatClampNeg) ∧ Q (none) (mo_stp σ)
theorem m_X7_step : ∀ (as : List mo_V) (σ : mo_M) (P P' : mo_Q), (∀ x τ, P x τ → P' x τ) → S_X7_step as σ P → S_X7_step as σ P' := by
  rintro as σ P P' h ⟨e, hp, hq⟩
  exact ⟨e, hp, h _ _ hq⟩
set_option maxRecDepth 20000 in
set_option maxHeartbeats 2000000 in
theorem ct_X7_step : mo_ct yX7_step t_X7_step S_X7_step := by
  refine mo_ct_of (by decide) rfl ?_
  rintro g as σ Q ⟨rfl, hpre, hQ⟩
  refine ⟨Nat.le_of_ble_eq_true rfl, mo_go ok_X7_step (cs_X7_step_ok g) [8] 73 ?_⟩
  intro K hK
  (have h0 := la_X7_step g σ Q (σ.1 30 0 1).toNatClampNeg hpre.1.1 hpre.1.2 ((σ.1 30 0 1).toNatClampNeg + 1) (σ.1 32 0 3).toNatClampNeg (by omega) hpre.2.2 (lm_X7_step g σ Q (σ.1 30 0 1).toNatClampNeg _ hpre.1.1 hpre.1.2 (mo_tS_le (σ.1 31 0) hpre.2.2).2 hQ); rw [← hpre.2.1] at h0; exact hK _ _ _ _ h0)
def cs_X12_next : Nat → mo_C := fun j => match j with
  | 0 => (4, true, 188, 12, S_X12_isIn)
  | _ => (0, false, 0, 50, fun _ _ _ => False)
theorem cs_X12_next_ok (g : mo_E) : ∀ j, mo_cok g t_X12_next (cs_X12_next j) ∧ mo_mon (cs_X12_next j) := by
  intro j
  unfold cs_X12_next
  split
  · exact ⟨mo_cokV ct_X12_isIn (by decide) ⟨_, _, rfl⟩ (by decide +kernel), m_X12_isIn⟩
  · exact ⟨mo_cok0 g _, mo_mon0⟩

set_option maxRecDepth 20000 in
set_option maxHeartbeats 2000000 in
theorem la_X12_next (g : mo_E) (σ : mo_M) (Q : mo_Q) (n : Nat) (hn : σ.1 50 0 31 = nI n) (hle : n ≤ 200) : ∀ (d k : Nat), n < k + d → k ≤ n → (mo_X g t_X12_next Q 46 [some (.inr (.inr (50, 0)))] [] (mo_wI σ 50 0 32 (nI (mo_ex (fun j => σ.1 72 0 j = 32) (n - k) k)))) → mo_X g t_X12_next Q 8 [some (.inr (.inr (50, 0)))] [] (mo_wI σ 50 0 32 (nI k)) := by
  intro d
  induction d with
  | zero => intro k h1 h2; omega
  | succ d ih =>
    intro k h1 h2 hinv
    have hkc : (nI k).toNatClampNeg = k := mo_cl (by omega)
    refine mo_go ok_X12_next (cs_X12_next_ok g) [8, 46] 83 ?_
    intro K hK
    refine And.intro (fun (c1 : (σ.1 50 0 31) ≤ (nI k)) => ?_) (fun (c1 : ¬ (σ.1 50 0 31) ≤ (nI k)) => ?_)
    · have hk : n ≤ k := mo_cge hn (by omega) (by omega) c1
      (rw [show mo_ex (fun j => σ.1 72 0 j = 32) (n - k) k = k from mo_ex_0 hk] at hinv; exact hK _ _ _ _ hinv)
    · have hk : k < n := mo_clt hn (by omega) (by omega) c1
      refine And.intro (show vp_in (nI k) 200 by exact mo_inN (by omega) (by decide)) ?_
      refine And.intro (fun (c2 : ¬ (σ.1 72 0 ((nI k).toNatClampNeg)) = (32 : Int32)) => ?_) (fun (c2 : (σ.1 72 0 ((nI k).toNatClampNeg)) = (32 : Int32)) => ?_)
      · (rw [show mo_ex (fun j => σ.1 72 0 j = 32) (n - k) k = k from mo_ex_f (P := (fun j => σ.1 72 0 j = 32)) (by intro q; rw [hkc] at c2; exact c2 q)] at hinv; exact hK _ _ _ _ hinv)
      · (rw [mo_ex_t (P := (fun j => σ.1 72 0 j = 32)) hk (by rw [hkc] at c2; first | exact c2 | exact Classical.not_not.mp c2)] at hinv; have hih := ih (k + 1) (by omega) (by omega) hinv; rw [nI_succ] at hih; refine hK _ _ _ _ (show mo_X g t_X12_next Q 8 [some (.inr (.inr (50, 0)))] [] (mo_wI (mo_wI σ 50 0 32 (nI k)) 50 0 32 ((nI k) + (1 : Int32))) from ?_); rw [mo_wIwI]; exact hih)
set_option maxRecDepth 20000 in
set_option maxHeartbeats 2000000 in
theorem lb_X12_next (g : mo_E) (σ : mo_M) (Q : mo_Q) (n : Nat) (hn : σ.1 50 0 31 = nI n) (hle : n ≤ 200) : ∀ (d k : Nat), n < k + d → k ≤ n → (Q none (mo_wI σ 50 0 33 (nI (mo_ex (fun j => 97 ≤ σ.1 72 0 j ∧ σ.1 72 0 j ≤ 122) (n - k) k)))) → mo_X g t_X12_next Q 81 [some (.inr (.inr (50, 0)))] [] (mo_wI σ 50 0 33 (nI k)) := by
  intro d
  induction d with
  | zero => intro k h1 h2; omega
  | succ d ih =>
    intro k h1 h2 hinv
    have hkc : (nI k).toNatClampNeg = k := mo_cl (by omega)
    refine mo_go ok_X12_next (cs_X12_next_ok g) [81] 83 ?_
    intro K hK
    refine Exists.intro (nI k) (Exists.intro (97 : Int32) (Exists.intro (122 : Int32) (And.intro rfl (And.intro (show (nI k) < (mo_wI σ 50 0 33 (nI k)).1 50 0 31 → vp_in (nI k) 200 by (intro q; have q : nI k < σ.1 50 0 31 := q; rw [hn, nI_ltI (by omega) (by omega)] at q; exact mo_inN (by omega) (by decide))) ?_))))
    refine And.intro (fun (c1 : (mo_bl ((nI k) < (mo_wI σ 50 0 33 (nI k)).1 50 0 31 ∧ (97 : Int32) ≤ σ.1 72 0 (nI k).toNatClampNeg ∧ σ.1 72 0 (nI k).toNatClampNeg ≤ (122 : Int32))) = 0) => ?_) (fun (c1 : ¬ (mo_bl ((nI k) < (mo_wI σ 50 0 33 (nI k)).1 50 0 31 ∧ (97 : Int32) ≤ σ.1 72 0 (nI k).toNatClampNeg ∧ σ.1 72 0 (nI k).toNatClampNeg ≤ (122 : Int32))) = 0) => ?_)
    · (rw [show mo_ex (fun j => 97 ≤ σ.1 72 0 j ∧ σ.1 72 0 j ≤ 122) (n - k) k = k from (by have z : ¬ (nI k < σ.1 50 0 31 ∧ 97 ≤ σ.1 72 0 (nI k).toNatClampNeg ∧ σ.1 72 0 (nI k).toNatClampNeg ≤ 122) := mo_bl0.mp c1; rw [hkc] at z; by_cases q : k < n; (· exact mo_ex_f (P := (fun j => 97 ≤ σ.1 72 0 j ∧ σ.1 72 0 j ≤ 122)) (fun w => z ⟨by rw [hn]; exact nI_lt q (by omega), w⟩)); exact mo_ex_0 (by omega))] at hinv; exact hinv)
    · (have z : nI k < σ.1 50 0 31 ∧ 97 ≤ σ.1 72 0 (nI k).toNatClampNeg ∧ σ.1 72 0 (nI k).toNatClampNeg ≤ 122 := mo_blT c1; rw [hkc, hn] at z; have hk : k < n := (by have q := z.1; rw [nI_ltI (by omega) (by omega)] at q; exact q); rw [mo_ex_t (P := (fun j => 97 ≤ σ.1 72 0 j ∧ σ.1 72 0 j ≤ 122)) hk z.2] at hinv; have hih := ih (k + 1) (by omega) (by omega) hinv; rw [nI_succ] at hih; refine hK _ _ _ _ (show mo_X g t_X12_next Q 81 [some (.inr (.inr (50, 0)))] [] (mo_wI (mo_wI σ 50 0 33 (nI k)) 50 0 33 ((nI k) + (1 : Int32))) from ?_); rw [mo_wIwI]; exact hih)
set_option maxRecDepth 20000 in
set_option maxHeartbeats 2000000 in
theorem lc_X12_next (g : mo_E) (σ : mo_M) (Q : mo_Q) (n : Nat) (hn : σ.1 50 0 31 = nI n) (hle : n ≤ 200) : ∀ (d k : Nat), n < k + d → k ≤ n → (Q none (mo_wI σ 50 0 33 (nI (mo_ex (fun j => 48 ≤ σ.1 72 0 j ∧ σ.1 72 0 j ≤ 57) (n - k) k)))) → mo_X g t_X12_next Q 124 [some (.inr (.inr (50, 0)))] [] (mo_wI σ 50 0 33 (nI k)) := by
  intro d
  induction d with
  | zero => intro k h1 h2; omega
  | succ d ih =>
    intro k h1 h2 hinv
    have hkc : (nI k).toNatClampNeg = k := mo_cl (by omega)
    refine mo_go ok_X12_next (cs_X12_next_ok g) [124] 83 ?_
    intro K hK
    refine Exists.intro (nI k) (Exists.intro (48 : Int32) (Exists.intro (57 : Int32) (And.intro rfl (And.intro (show (nI k) < (mo_wI σ 50 0 33 (nI k)).1 50 0 31 → vp_in (nI k) 200 by (intro q; have q : nI k < σ.1 50 0 31 := q; rw [hn, nI_ltI (by omega) (by omega)] at q; exact mo_inN (by omega) (by decide))) ?_))))
    refine And.intro (fun (c1 : (mo_bl ((nI k) < (mo_wI σ 50 0 33 (nI k)).1 50 0 31 ∧ (48 : Int32) ≤ σ.1 72 0 (nI k).toNatClampNeg ∧ σ.1 72 0 (nI k).toNatClampNeg ≤ (57 : Int32))) = 0) => ?_) (fun (c1 : ¬ (mo_bl ((nI k) < (mo_wI σ 50 0 33 (nI k)).1 50 0 31 ∧ (48 : Int32) ≤ σ.1 72 0 (nI k).toNatClampNeg ∧ σ.1 72 0 (nI k).toNatClampNeg ≤ (57 : Int32))) = 0) => ?_)
    · (rw [show mo_ex (fun j => 48 ≤ σ.1 72 0 j ∧ σ.1 72 0 j ≤ 57) (n - k) k = k from (by have z : ¬ (nI k < σ.1 50 0 31 ∧ 48 ≤ σ.1 72 0 (nI k).toNatClampNeg ∧ σ.1 72 0 (nI k).toNatClampNeg ≤ 57) := mo_bl0.mp c1; rw [hkc] at z; by_cases q : k < n; (· exact mo_ex_f (P := (fun j => 48 ≤ σ.1 72 0 j ∧ σ.1 72 0 j ≤ 57)) (fun w => z ⟨by rw [hn]; exact nI_lt q (by omega), w⟩)); exact mo_ex_0 (by omega))] at hinv; exact hinv)
    · (have z : nI k < σ.1 50 0 31 ∧ 48 ≤ σ.1 72 0 (nI k).toNatClampNeg ∧ σ.1 72 0 (nI k).toNatClampNeg ≤ 57 := mo_blT c1; rw [hkc, hn] at z; have hk : k < n := (by have q := z.1; rw [nI_ltI (by omega) (by omega)] at q; exact q); rw [mo_ex_t (P := (fun j => 48 ≤ σ.1 72 0 j ∧ σ.1 72 0 j ≤ 57)) hk z.2] at hinv; have hih := ih (k + 1) (by omega) (by omega) hinv; rw [nI_succ] at hih; refine hK _ _ _ _ (show mo_X g t_X12_next Q 124 [some (.inr (.inr (50, 0)))] [] (mo_wI (mo_wI σ 50 0 33 (nI k)) 50 0 33 ((nI k) + (1 : Int32))) from ?_); rw [mo_wIwI]; exact hih)
set_option maxRecDepth 20000 in
set_option maxHeartbeats 2000000 in
theorem lm_X12_next (g : mo_E) (σ : mo_M) (Q : mo_Q) (n s : Nat) (hn : σ.1 50 0 31 = nI n) (hle : n ≤ 200) (hs : s ≤ n) (hQ : Q none (mo_wI (mo_wI σ 50 0 32 (nI s)) 50 0 33 (nI (mo_tE (σ.1 72 0) n s)))) : mo_X g t_X12_next Q 46 [some (.inr (.inr (50, 0)))] [] (mo_wI σ 50 0 32 (nI s)) := by
  have hsc : (nI s).toNatClampNeg = s := mo_cl (by omega)
  refine mo_go ok_X12_next (cs_X12_next_ok g) [81, 124] 83 ?_
  intro K hK
  refine And.intro (fun (c1 : ¬ (nI s) = (σ.1 50 0 31)) => ?_) (fun (c1 : (nI s) = (σ.1 50 0 31)) => ?_)
  · refine Exists.intro (nI s) (Exists.intro (97 : Int32) (Exists.intro (122 : Int32) (And.intro rfl (And.intro (show (nI s) < (mo_wI (mo_wI σ 50 0 32 (nI s)) 50 0 33 (nI s)).1 50 0 31 → vp_in (nI s) 200 by (intro q; have q : nI s < σ.1 50 0 31 := q; rw [hn, nI_ltI (by omega) (by omega)] at q; exact mo_inN (by omega) (by decide))) ?_))))
    refine And.intro (fun (c2 : (mo_bl ((nI s) < (mo_wI (mo_wI σ 50 0 32 (nI s)) 50 0 33 (nI s)).1 50 0 31 ∧ (97 : Int32) ≤ σ.1 72 0 (nI s).toNatClampNeg ∧ σ.1 72 0 (nI s).toNatClampNeg ≤ (122 : Int32))) = 0) => ?_) (fun (c2 : ¬ (mo_bl ((nI s) < (mo_wI (mo_wI σ 50 0 32 (nI s)) 50 0 33 (nI s)).1 50 0 31 ∧ (97 : Int32) ≤ σ.1 72 0 (nI s).toNatClampNeg ∧ σ.1 72 0 (nI s).toNatClampNeg ≤ (122 : Int32))) = 0) => ?_)
    · refine Exists.intro (nI s) (Exists.intro (48 : Int32) (Exists.intro (57 : Int32) (And.intro rfl (And.intro (show (nI s) < (mo_wI (mo_wI σ 50 0 32 (nI s)) 50 0 33 (nI s)).1 50 0 31 → vp_in (nI s) 200 by (intro q; have q : nI s < σ.1 50 0 31 := q; rw [hn, nI_ltI (by omega) (by omega)] at q; exact mo_inN (by omega) (by decide))) ?_))))
      refine And.intro (fun (c3 : (mo_bl ((nI s) < (mo_wI (mo_wI σ 50 0 32 (nI s)) 50 0 33 (nI s)).1 50 0 31 ∧ (48 : Int32) ≤ σ.1 72 0 (nI s).toNatClampNeg ∧ σ.1 72 0 (nI s).toNatClampNeg ≤ (57 : Int32))) = 0) => ?_) (fun (c3 : ¬ (mo_bl ((nI s) < (mo_wI (mo_wI σ 50 0 32 (nI s)) 50 0 33 (nI s)).1 50 0 31 ∧ (48 : Int32) ≤ σ.1 72 0 (nI s).toNatClampNeg ∧ σ.1 72 0 (nI s).toNatClampNeg ≤ (57 : Int32))) = 0) => ?_)
      · (have hlt : s < n := (by by_cases q : s < n; (· exact q); exact absurd (show nI s = σ.1 50 0 31 by rw [hn, show s = n from by omega]) (by first | exact c1 | exact not_not_intro c1)); have z2 : ¬ (nI s < σ.1 50 0 31 ∧ 97 ≤ σ.1 72 0 (nI s).toNatClampNeg ∧ σ.1 72 0 (nI s).toNatClampNeg ≤ 122) := mo_bl0.mp c2; have z3 : ¬ (nI s < σ.1 50 0 31 ∧ 48 ≤ σ.1 72 0 (nI s).toNatClampNeg ∧ σ.1 72 0 (nI s).toNatClampNeg ≤ 57) := mo_bl0.mp c3; rw [hsc, hn] at z2 z3; have hs2 := nI_lt hlt (by omega); have k3 : mo_kn (σ.1 72 0) n s = 3 := (by rcases mo_kn_c (σ.1 72 0) n s with ⟨h, -⟩ | ⟨-, q, -⟩ | ⟨-, -, q, -⟩ | ⟨-, -, -, e⟩; (· omega); (· exact absurd ⟨hs2, q⟩ z2); (· exact absurd ⟨hs2, q⟩ z3); exact e); rw [show mo_tE (σ.1 72 0) n s = s + 1 from (if_neg (by rw [k3]; decide)).trans (if_pos k3)] at hQ; refine mo_q hQ rfl (show mo_wI (mo_wI (mo_wI σ 50 0 32 (nI s)) 50 0 33 (nI s)) 50 0 33 ((nI s) + (1 : Int32)) = _ from ?_); rw [mo_wIwI, nI_succ])
      · (have hlt : s < n := (by by_cases q : s < n; (· exact q); exact absurd (show nI s = σ.1 50 0 31 by rw [hn, show s = n from by omega]) (by first | exact c1 | exact not_not_intro c1)); have z2 : ¬ (nI s < σ.1 50 0 31 ∧ 97 ≤ σ.1 72 0 (nI s).toNatClampNeg ∧ σ.1 72 0 (nI s).toNatClampNeg ≤ 122) := mo_bl0.mp c2; have z3 : nI s < σ.1 50 0 31 ∧ 48 ≤ σ.1 72 0 (nI s).toNatClampNeg ∧ σ.1 72 0 (nI s).toNatClampNeg ≤ 57 := mo_blT c3; rw [hsc] at z2 z3; rw [← mo_tE_2 hlt z3.2 (fun q => z2 ⟨by rw [hn]; exact nI_lt hlt (by omega), q⟩)] at hQ; exact hK _ _ _ _ (lc_X12_next g (mo_wI σ 50 0 32 (nI s)) Q n hn hle (n + 1) s (by omega) hs hQ))
    · (have hlt : s < n := (by by_cases q : s < n; (· exact q); exact absurd (show nI s = σ.1 50 0 31 by rw [hn, show s = n from by omega]) (by first | exact c1 | exact not_not_intro c1)); have z2 : nI s < σ.1 50 0 31 ∧ 97 ≤ σ.1 72 0 (nI s).toNatClampNeg ∧ σ.1 72 0 (nI s).toNatClampNeg ≤ 122 := mo_blT c2; rw [hsc] at z2; rw [← mo_tE_1 hlt z2.2] at hQ; exact hK _ _ _ _ (lb_X12_next g (mo_wI σ 50 0 32 (nI s)) Q n hn hle (n + 1) s (by omega) hs hQ))
  · (have e : s = n := (by have z : nI s = σ.1 50 0 31 := (by first | exact c1 | exact Classical.not_not.mp c1); rw [hn, nI_eq (by omega) (by omega)] at z; exact z); rw [show mo_tE (σ.1 72 0) n s = s from if_pos (mo_kn0.mpr (by omega))] at hQ; exact hQ)
def S_X12_next : mo_S := fun as σ Q => as = [.inr (.inr (50, 0))] ∧ (mo_le (σ.1 50 0 31) 200 ∧ mo_le (σ.1 50 0 33) (σ.1 50 0 31).toNatClampNeg) ∧ Q (none) (mo_nxM σ)
theorem m_X12_next : ∀ (as : List mo_V) (σ : mo_M) (P P' : mo_Q), (∀ x τ, P x τ → P' x τ) → S_X12_next as σ P → S_X12_next as σ P' := by
  rintro as σ P P' h ⟨e, hp, hq⟩
  exact ⟨e, hp, h _ _ hq⟩
set_option maxRecDepth 20000 in
set_option maxHeartbeats 2000000 in
theorem ct_X12_next : mo_ct yX12_next t_X12_next S_X12_next := by
  refine mo_ct_of (by decide) rfl ?_
  rintro g as σ Q ⟨rfl, hpre, hQ⟩
  refine ⟨Nat.le_of_ble_eq_true rfl, mo_go ok_X12_next (cs_X12_next_ok g) [8] 83 ?_⟩
  intro K hK
  (have h0 := la_X12_next g σ Q (σ.1 50 0 31).toNatClampNeg hpre.1.1 hpre.1.2 ((σ.1 50 0 31).toNatClampNeg + 1) (σ.1 50 0 33).toNatClampNeg (by omega) hpre.2.2 (lm_X12_next g σ Q (σ.1 50 0 31).toNatClampNeg _ hpre.1.1 hpre.1.2 (mo_tS_le (σ.1 72 0) hpre.2.2).2 hQ); rw [← hpre.2.1] at h0; exact hK _ _ _ _ h0)
