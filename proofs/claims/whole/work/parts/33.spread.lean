/-! sums below N; walks; distances -/
def mo_sum (v : Nat → Nat) : Nat → Nat := mo_fo (fun m c => c + v m) 0
theorem mo_sum_s (v : Nat → Nat) (n : Nat) : mo_sum v (n + 1) = mo_sum v n + v n := rfl
theorem mo_sum_eq {v v' : Nat → Nat} : ∀ {n : Nat}, (∀ m, m < n → v' m = v m) → mo_sum v' n = mo_sum v n
  | 0, _ => rfl
  | n + 1, h => by rw [mo_sum_s, mo_sum_s, mo_sum_eq (fun m hm => h m (by omega)), h n (by omega)]
theorem mo_sum_upd {v v' : Nat → Nat} {a : Nat} (h : ∀ m, m ≠ a → v' m = v m) : ∀ {n : Nat}, a < n → mo_sum v' n + v a = mo_sum v n + v' a
  | 0, q => absurd q (by omega)
  | n + 1, q => by
    rw [mo_sum_s, mo_sum_s]
    by_cases e : a = n
    · subst e; rw [mo_sum_eq (fun m hm => h m (by omega))]; omega
    · have := mo_sum_upd h (n := n) (by omega); rw [h n (by omega)]; omega
theorem mo_sum_ge (v : Nat → Nat) {a : Nat} : ∀ {n : Nat}, a < n → v a ≤ mo_sum v n
  | 0, q => absurd q (by omega)
  | n + 1, q => by
    rw [mo_sum_s]
    by_cases e : a = n
    · subst e; omega
    · have := mo_sum_ge v (n := n) (a := a) (by omega); omega
theorem mo_sum_le {v : Nat → Nat} (h : ∀ m, v m ≤ 1) : ∀ n : Nat, mo_sum v n ≤ n
  | 0 => Nat.le_refl _
  | n + 1 => by rw [mo_sum_s]; have := mo_sum_le h n; have := h n; omega
def mo_wlk (E : Nat → Nat → Prop) (B : Nat → Prop) : Nat → Nat → Prop
  | 0, m => B m
  | d + 1, m => ∃ b, E m b ∧ mo_wlk E B d b
def mo_sh (E : Nat → Nat → Prop) (B : Nat → Prop) (r : Nat → Int32) (N : Nat) : Prop := ∀ m, m < N → (r m = -1 ∧ ∀ d, ¬ mo_wlk E B d m) ∨ ∃ d, d < 60 ∧ r m = nI d ∧ mo_wlk E B d m ∧ ∀ e, e < d → ¬ mo_wlk E B e m
def mo_cnt (r : Nat → Int32) : Nat → Nat := mo_sum (fun m => if r m = -1 then 0 else 1)
def mo_mea (r : Nat → Int32) : Nat → Nat := mo_sum (fun m => if r m = -1 then 61 else (r m).toNatClampNeg)
def mo_sI (E : Nat → Nat → Prop) (B : Nat → Prop) (r : Nat → Int32) (N : Nat) : Prop := (∀ m, m < N → r m = -1 ∨ ∃ d, d < mo_cnt r N ∧ r m = nI d ∧ mo_wlk E B d m) ∧ ∀ m, m < N → B m → r m = 0
theorem mo_cnt_le (r : Nat → Int32) (N : Nat) : mo_cnt r N ≤ N := mo_sum_le (fun m => by split <;> omega) N
theorem mo_nIm {d : Nat} (h : d < 1000000) : ¬ nI d = (-1 : Int32) := fun q => by
  have := congrArg Int32.toInt q
  rw [nI_toInt (by omega), mo_n1] at this
  omega
theorem mo_sI_upd {E : Nat → Nat → Prop} {B : Nat → Prop} {r : Nat → Int32} {N a b : Nat} (hN : N ≤ 60) (hI : mo_sI E B r N) (ha : a < N) (hb : b < N) (he : E a b) (h1 : ¬ r b = -1) (h2 : r a = -1 ∨ r b + 1 < r a) :
    mo_sI E B (upd r a (r b + 1)) N ∧ mo_mea (upd r a (r b + 1)) N < mo_mea r N := by
  have hc0 := mo_cnt_le r N
  rcases hI.1 b hb with q | ⟨d, hd, hr, hw⟩
  · exact absurd q h1
  have hv : r b + 1 = nI (d + 1) := by rw [hr, nI_succ]
  have hw2 : mo_wlk E B (d + 1) a := ⟨b, he, hw⟩
  have hne : ¬ r b + 1 = -1 := by rw [hv]; exact mo_nIm (by omega)
  have hcl : (r b + 1).toNatClampNeg = d + 1 := by rw [hv]; exact mo_cl (by omega)
  have u1 : upd r a (r b + 1) a = r b + 1 := by simp [upd]
  have u2 : ∀ m, m ≠ a → upd r a (r b + 1) m = r m := fun m hm => by simp [upd, hm]
  have s1 := mo_sum_upd (v := fun m => if r m = -1 then 0 else 1) (v' := fun m => if upd r a (r b + 1) m = -1 then 0 else 1) (a := a) (fun m hm => by show (if upd r a (r b + 1) m = -1 then 0 else 1) = _; rw [u2 m hm]) ha
  have s2 := mo_sum_upd (v := fun m => if r m = -1 then 61 else (r m).toNatClampNeg) (v' := fun m => if upd r a (r b + 1) m = -1 then 61 else (upd r a (r b + 1) m).toNatClampNeg) (a := a) (fun m hm => by show (if upd r a (r b + 1) m = -1 then 61 else (upd r a (r b + 1) m).toNatClampNeg) = _; rw [u2 m hm]) ha
  simp only [u1, if_neg hne, hcl] at s1 s2
  change mo_cnt (upd r a (r b + 1)) N + _ = mo_cnt r N + _ at s1
  change mo_mea (upd r a (r b + 1)) N + _ = mo_mea r N + _ at s2
  have hc1 := mo_cnt_le (upd r a (r b + 1)) N
  by_cases e : r a = -1
  · rw [if_pos e] at s1 s2
    refine ⟨⟨fun m hm => ?_, fun m hm hB => ?_⟩, by omega⟩
    · by_cases q : m = a
      · subst q; rw [u1]; exact Or.inr ⟨d + 1, by omega, hv, hw2⟩
      · rw [u2 m q]
        rcases hI.1 m hm with z | ⟨f, hf, z⟩
        · exact Or.inl z
        · exact Or.inr ⟨f, by omega, z⟩
    · by_cases q : m = a
      · subst q; exact absurd ((hI.2 m hm hB).symm.trans e) (by decide)
      · rw [u2 m q]; exact hI.2 m hm hB
  · rw [if_neg e] at s1 s2
    have h3 : r b + 1 < r a := h2.resolve_left e
    rcases hI.1 a ha with z | ⟨f, hf, hra, -⟩
    · exact absurd z e
    rw [hv, hra, nI_ltI (by omega) (by omega)] at h3
    have hcf : (r a).toNatClampNeg = f := by rw [hra]; exact mo_cl (by omega)
    rw [hcf] at s2
    refine ⟨⟨fun m hm => ?_, fun m hm hB => ?_⟩, by omega⟩
    · by_cases q : m = a
      · subst q; rw [u1]; exact Or.inr ⟨d + 1, by omega, hv, hw2⟩
      · rw [u2 m q]
        rcases hI.1 m hm with z | ⟨f, hf, z⟩
        · exact Or.inl z
        · exact Or.inr ⟨f, by omega, z⟩
    · by_cases q : m = a
      · subst q
        have z := hI.2 m hm hB
        rw [hra, show (0 : Int32) = nI 0 from rfl, nI_eq (by omega) (by omega)] at z
        omega
      · rw [u2 m q]; exact hI.2 m hm hB
theorem mo_sI_end {E : Nat → Nat → Prop} {B : Nat → Prop} {r : Nat → Int32} {N : Nat} (hN : N ≤ 60) (hE : ∀ a b, E a b → b < N) (hI : mo_sI E B r N) (hf : ∀ a b, a < N → E a b → ¬ r b = -1 → ¬ r a = -1 ∧ r a ≤ r b + 1) : mo_sh E B r N := by
  have hc0 := mo_cnt_le r N
  have key : ∀ d m, m < N → mo_wlk E B d m → ∃ e, e ≤ d ∧ r m = nI e ∧ e < 60 := by
    intro d
    induction d with
    | zero => intro m hm hw; exact ⟨0, Nat.le_refl _, hI.2 m hm hw, by omega⟩
    | succ d ih =>
      rintro m hm ⟨b, he, hw⟩
      obtain ⟨e, h1, h2, h3⟩ := ih b (hE _ _ he) hw
      obtain ⟨q1, q2⟩ := hf m b hm he (by rw [h2]; exact mo_nIm (by omega))
      rcases hI.1 m hm with z | ⟨f, hf, hr, -⟩
      · exact absurd z q1
      rw [hr, h2, nI_1, nI_leI (by omega) (by omega)] at q2
      exact ⟨f, by omega, hr, by omega⟩
  intro m hm
  rcases hI.1 m hm with z | ⟨d, hd, hr, hw⟩
  · refine Or.inl ⟨z, fun d hw => ?_⟩
    obtain ⟨e, -, h2, h3⟩ := key d m hm hw
    exact mo_nIm (by omega) (h2.symm.trans z)
  · refine Or.inr ⟨d, by omega, hr, hw, fun e he hw2 => ?_⟩
    obtain ⟨f, h1, h2, h3⟩ := key e m hm hw2
    rw [hr, nI_eq (by omega) (by omega)] at h2
    omega
theorem mo_sI_0 {E : Nat → Nat → Prop} {r : Nat → Int32} {N : Nat} (h : ∀ m, m < N → r m = -1 ∨ r m = 0) : mo_sI E (fun m => r m = 0) r N := by
  refine ⟨fun m hm => ?_, fun m _ h => h⟩
  rcases h m hm with q | q
  · exact Or.inl q
  · refine Or.inr ⟨0, ?_, q, q⟩
    have := mo_sum_ge (fun m => if r m = -1 then 0 else 1) hm
    have e : (if r m = -1 then 0 else 1) = 1 := if_neg (by rw [q]; decide)
    simp only [e] at this
    exact this
/-- the links that count on a day, as steps -/
def mo_lnk (σ : mo_M) (c z : Int32) (a b : Nat) : Prop := ∃ u, u < (σ.1 50 0 6).toNatClampNeg ∧ (σ.1 57 0 u ≤ c ∧ c < σ.1 58 0 u) ∧ (σ.1 56 0 u = 3 → ¬ z = 0) ∧ (σ.1 54 0 u).toNatClampNeg = a ∧ (σ.1 55 0 u).toNatClampNeg = b
def mo_rlx (σ : mo_M) (c z : Int32) (r : Nat → Int32) (u : Nat) : Prop := (σ.1 57 0 u ≤ c ∧ c < σ.1 58 0 u) → (σ.1 56 0 u = 3 → ¬ z = 0) → ¬ r (σ.1 55 0 u).toNatClampNeg = -1 → ¬ r (σ.1 54 0 u).toNatClampNeg = -1 ∧ r (σ.1 54 0 u).toNatClampNeg ≤ r (σ.1 55 0 u).toNatClampNeg + 1
def mo_phi (r : Nat → Int32) (N : Nat) (M : Int32) (n k : Nat) : Nat := 402 * mo_mea r N + (if M = 0 then 0 else 201) + (n - k)
def cs_X12_spreads : Nat → mo_C := fun j => match j with
  | 0 => (3, true, 150, 12, S_X12_is)
  | _ => (0, false, 0, 50, fun _ _ _ => False)
theorem cs_X12_spreads_ok (g : mo_E) : ∀ j, mo_cok g t_X12_spreads (cs_X12_spreads j) ∧ mo_mon (cs_X12_spreads j) := by
  intro j
  unfold cs_X12_spreads
  split
  · exact ⟨mo_cokV ct_X12_is (by decide) ⟨_, _, rfl⟩ (by decide +kernel), m_X12_is⟩
  · exact ⟨mo_cok0 g _, mo_mon0⟩

set_option maxRecDepth 20000 in
set_option maxHeartbeats 2000000 in
theorem lo_X12_spreads80 (g : mo_E) (τ : mo_M) (Q : mo_Q) (c z M v : Int32) (hM : M = 0 ∨ M = 1) (h0 : M = 0 → Q none τ) (hX : M = 1 → mo_X g t_X12_spreads Q 14 [some (.inr (.inr (50, 0))), some (.inr (.inr (80, 0))), some (.inl c), some (.inl z), some (.inl (0 : Int32)), some (.inl (0 : Int32)), none] [] τ) (x : Option mo_V) : mo_X g t_X12_spreads Q 3 [some (.inr (.inr (50, 0))), some (.inr (.inr (80, 0))), some (.inl c), some (.inl z), some (.inl M), some (.inl v), x] [] τ := by
  refine mo_wk (a := [some (.inr (.inr (50, 0))), some (.inr (.inr (80, 0))), some (.inl c), some (.inl z), some (.inl M), some (.inl v), none]) ?_ ?_
  · exact And.intro rfl (And.intro rfl (And.intro rfl (And.intro rfl (And.intro rfl (And.intro rfl (trivial))))))
  rcases hM with rfl | rfl
  · refine mo_go ok_X12_spreads (cs_X12_spreads_ok g) [14] 74 ?_
    intro K hK
    refine And.intro (fun (c1 : (0 : Int32) = 0) => ?_) (fun (c1 : ¬ (0 : Int32) = 0) => ?_)
    · exact h0 rfl
    · exact absurd c1 (by decide)
  · refine mo_go ok_X12_spreads (cs_X12_spreads_ok g) [14] 74 ?_
    intro K hK
    refine And.intro (fun (c1 : (1 : Int32) = 0) => ?_) (fun (c1 : ¬ (1 : Int32) = 0) => ?_)
    · exact absurd c1 (by decide)
    · exact hK _ _ _ _ (hX rfl)
theorem mo_inw {x : Int32} {N K : Nat} (h : vp_in x N) (hN : N ≤ K) : vp_in x K := by
  unfold vp_in at h ⊢
  exact fun q => h (q.imp id (fun z => by omega))
theorem mo_lnk_in {σ : mo_M} {c z : Int32} {N n a b : Nat} (hn : σ.1 50 0 6 = nI n) (hin : ∀ k, k < n → vp_in (σ.1 54 0 k) N ∧ vp_in (σ.1 55 0 k) N) (h : mo_lnk σ c z a b) (hle : n ≤ 200 := by omega) : a < N ∧ b < N := by
  obtain ⟨u, hu, -, -, rfl, rfl⟩ := h
  rw [hn, mo_cl (by omega)] at hu
  exact ⟨(mo_inI (hin u hu).1).2, (mo_inI (hin u hu).2).2⟩
set_option maxRecDepth 20000 in
set_option maxHeartbeats 2000000 in
theorem lp_X12_spreads80 (g : mo_E) (σ : mo_M) (Q : mo_Q) (c z : Int32) (B : Nat → Prop) (N n : Nat) (hN : N ≤ 60) (hn : σ.1 50 0 6 = nI n) (hle : n ≤ 200) (hin : ∀ k, k < n → vp_in (σ.1 54 0 k) N ∧ vp_in (σ.1 55 0 k) N) (hQ : ∀ r, mo_sh (mo_lnk σ c z) B r N → Q none (mo_rowI σ 80 0 r)) : ∀ (d : Nat) (r : Nat → Int32) (M : Int32) (k : Nat), mo_phi r N M n k < d → k ≤ n → mo_sI (mo_lnk σ c z) B r N → (M = 0 ∨ M = 1) → (M = 0 → ∀ u, u < k → mo_rlx σ c z r u) → mo_X g t_X12_spreads Q 14 [some (.inr (.inr (50, 0))), some (.inr (.inr (80, 0))), some (.inl c), some (.inl z), some (.inl M), some (.inl (nI k)), none] [] (mo_rowI σ 80 0 r) := by
  intro d
  induction d with
  | zero => intro r M k h1; omega
  | succ d ih =>
    intro r M k h1 h2 hI hM hR
    have hkc : (nI k).toNatClampNeg = k := mo_cl (by omega)
    refine mo_go ok_X12_spreads (cs_X12_spreads_ok g) [14] 74 ?_
    intro K hK
    refine And.intro (fun (c1 : (σ.1 50 0 6) ≤ (nI k)) => ?_) (fun (c1 : ¬ (σ.1 50 0 6) ≤ (nI k)) => ?_)
    · have hk : n ≤ k := mo_cge hn (by omega) (by omega) c1
      (have e : k = n := (by omega); subst e; refine hK _ _ _ _ (lo_X12_spreads80 g _ Q c z M (nI k) hM (fun q => hQ r (mo_sI_end hN (fun a b he => (mo_lnk_in hn hin he).2) hI (fun a b ha he hb => (by obtain ⟨u, hu, p1, p2, rfl, rfl⟩ := he; rw [hn, mo_cl (by omega)] at hu; exact hR q u hu p1 p2 hb)))) (fun q => ih r 0 0 (by subst q; unfold mo_phi at h1 ⊢; rw [if_pos rfl]; rw [if_neg (by decide)] at h1; omega) (by omega) hI (Or.inl rfl) (fun _ j hj => absurd hj (by omega))) none))
    · have hk : k < n := mo_clt hn (by omega) (by omega) c1
      refine Exists.intro (nI k) (Exists.intro c (And.intro rfl (And.intro (show vp_in (nI k) 200 by exact mo_inN (by omega) (by decide)) ?_)))
      refine And.intro (fun (c2 : (mo_bl (σ.1 57 0 (nI k).toNatClampNeg ≤ c ∧ c < σ.1 58 0 (nI k).toNatClampNeg)) = 0) => ?_) (fun (c2 : ¬ (mo_bl (σ.1 57 0 (nI k).toNatClampNeg ≤ c ∧ c < σ.1 58 0 (nI k).toNatClampNeg)) = 0) => ?_)
      · (have hr : mo_rlx σ c z r k := (by unfold mo_rlx; ((try simp only [hkc, mo_bl0, Classical.not_not, ← Int32.not_lt] at c2 ⊢); clear hK hQ ih; grind)); have hih := ih r M (k + 1) (by unfold mo_phi at h1 ⊢; omega) (by omega) hI hM (fun q => lt_s (hR q) hr); rw [nI_succ] at hih; refine hK _ _ _ _ (show mo_X g t_X12_spreads Q 14 [some (.inr (.inr (50, 0))), some (.inr (.inr (80, 0))), some (.inl c), some (.inl z), some (.inl M), some (.inl ((nI k) + (1 : Int32))), none] [] (mo_rowI σ 80 0 r) from ?_); refine mo_wk ?_ hih; exact And.intro rfl (And.intro rfl (And.intro rfl (And.intro rfl (And.intro rfl (And.intro rfl (trivial)))))))
      · refine And.intro (show vp_in (nI k) 200 by exact mo_inN (by omega) (by decide)) ?_
        refine And.intro (fun (c3 : ¬ (σ.1 56 0 ((nI k).toNatClampNeg)) = (3 : Int32)) => ?_) (fun (c3 : (σ.1 56 0 ((nI k).toNatClampNeg)) = (3 : Int32)) => ?_)
        · refine And.intro (show vp_in (nI k) 200 by exact mo_inN (by omega) (by decide)) ?_
          refine And.intro (show vp_in (σ.1 55 0 ((nI k).toNatClampNeg)) 60 by rw [hkc]; exact mo_inw (hin k hk).2 hN) ?_
          refine And.intro (fun (c4 : ¬ (r ((σ.1 55 0 ((nI k).toNatClampNeg)).toNatClampNeg)) = (-1 : Int32)) => ?_) (fun (c4 : (r ((σ.1 55 0 ((nI k).toNatClampNeg)).toNatClampNeg)) = (-1 : Int32)) => ?_)
          · refine And.intro (show vp_in (nI k) 200 by exact mo_inN (by omega) (by decide)) ?_
            refine And.intro (show vp_in (σ.1 55 0 ((nI k).toNatClampNeg)) 60 by rw [hkc]; exact mo_inw (hin k hk).2 hN) ?_
            refine And.intro (show vp_in (nI k) 200 by exact mo_inN (by omega) (by decide)) ?_
            refine And.intro (show vp_in (σ.1 54 0 ((nI k).toNatClampNeg)) 60 by rw [hkc]; exact mo_inw (hin k hk).1 hN) ?_
            refine And.intro (fun (c5 : (r ((σ.1 54 0 ((nI k).toNatClampNeg)).toNatClampNeg)) = (-1 : Int32)) => ?_) (fun (c5 : ¬ (r ((σ.1 54 0 ((nI k).toNatClampNeg)).toNatClampNeg)) = (-1 : Int32)) => ?_)
            · refine And.intro (show vp_in (nI k) 200 by exact mo_inN (by omega) (by decide)) ?_
              refine And.intro (show vp_in (σ.1 54 0 ((nI k).toNatClampNeg)) 60 by rw [hkc]; exact mo_inw (hin k hk).1 hN) ?_
              (simp only [hkc] at c2 c3 c4 c5; have hE : mo_lnk σ c z (σ.1 54 0 k).toNatClampNeg (σ.1 55 0 k).toNatClampNeg := ⟨k, (by rw [hn, mo_cl (by omega)]; exact hk), (by ((try simp only [hkc, mo_bl0, Classical.not_not, ← Int32.not_lt] at c2 c3 c4 c5 ⊢); clear hK hQ ih; grind)), (by ((try simp only [hkc, mo_bl0, Classical.not_not, ← Int32.not_lt] at c2 c3 c4 c5 ⊢); clear hK hQ ih; grind)), rfl, rfl⟩; have hU := mo_sI_upd hN hI (mo_inI (hin k hk).1).2 (mo_inI (hin k hk).2).2 hE (by ((try simp only [hkc, mo_bl0, Classical.not_not, ← Int32.not_lt] at c2 c3 c4 c5 ⊢); clear hK hQ ih; grind)) (by ((try simp only [hkc, mo_bl0, Classical.not_not, ← Int32.not_lt] at c2 c3 c4 c5 ⊢); clear hK hQ ih; grind)); have hih := ih (upd r (σ.1 54 0 k).toNatClampNeg (r (σ.1 55 0 k).toNatClampNeg + 1)) 1 (k + 1) (by unfold mo_phi at h1 ⊢; rw [if_neg (by decide)]; have := hU.2; split at h1 <;> omega) (by omega) hU.1 (Or.inr rfl) (fun q => absurd q (by decide)); rw [nI_succ] at hih; refine hK _ _ _ _ (show mo_X g t_X12_spreads Q 14 [some (.inr (.inr (50, 0))), some (.inr (.inr (80, 0))), some (.inl c), some (.inl z), some (.inl (1 : Int32)), some (.inl ((nI k) + (1 : Int32))), some (.inl ((r ((σ.1 55 0 ((nI k).toNatClampNeg)).toNatClampNeg)) + (1 : Int32)))] [] (mo_wI (mo_rowI σ 80 0 r) 80 0 ((σ.1 54 0 ((nI k).toNatClampNeg)).toNatClampNeg) ((r ((σ.1 55 0 ((nI k).toNatClampNeg)).toNatClampNeg)) + (1 : Int32))) from ?_); rw [hkc, mo_rowI_w]; refine mo_wk ?_ hih; exact And.intro rfl (And.intro rfl (And.intro rfl (And.intro rfl (And.intro rfl (And.intro rfl (trivial)))))))
            · refine And.intro (show vp_in (nI k) 200 by exact mo_inN (by omega) (by decide)) ?_
              refine And.intro (show vp_in (σ.1 54 0 ((nI k).toNatClampNeg)) 60 by rw [hkc]; exact mo_inw (hin k hk).1 hN) ?_
              refine And.intro (fun (c6 : ((r ((σ.1 55 0 ((nI k).toNatClampNeg)).toNatClampNeg)) + (1 : Int32)) < (r ((σ.1 54 0 ((nI k).toNatClampNeg)).toNatClampNeg))) => ?_) (fun (c6 : ¬ ((r ((σ.1 55 0 ((nI k).toNatClampNeg)).toNatClampNeg)) + (1 : Int32)) < (r ((σ.1 54 0 ((nI k).toNatClampNeg)).toNatClampNeg))) => ?_)
              · refine And.intro (show vp_in (nI k) 200 by exact mo_inN (by omega) (by decide)) ?_
                refine And.intro (show vp_in (σ.1 54 0 ((nI k).toNatClampNeg)) 60 by rw [hkc]; exact mo_inw (hin k hk).1 hN) ?_
                (simp only [hkc] at c2 c3 c4 c5 c6; have hE : mo_lnk σ c z (σ.1 54 0 k).toNatClampNeg (σ.1 55 0 k).toNatClampNeg := ⟨k, (by rw [hn, mo_cl (by omega)]; exact hk), (by ((try simp only [hkc, mo_bl0, Classical.not_not, ← Int32.not_lt] at c2 c3 c4 c5 c6 ⊢); clear hK hQ ih; grind)), (by ((try simp only [hkc, mo_bl0, Classical.not_not, ← Int32.not_lt] at c2 c3 c4 c5 c6 ⊢); clear hK hQ ih; grind)), rfl, rfl⟩; have hU := mo_sI_upd hN hI (mo_inI (hin k hk).1).2 (mo_inI (hin k hk).2).2 hE (by ((try simp only [hkc, mo_bl0, Classical.not_not, ← Int32.not_lt] at c2 c3 c4 c5 c6 ⊢); clear hK hQ ih; grind)) (by ((try simp only [hkc, mo_bl0, Classical.not_not, ← Int32.not_lt] at c2 c3 c4 c5 c6 ⊢); clear hK hQ ih; grind)); have hih := ih (upd r (σ.1 54 0 k).toNatClampNeg (r (σ.1 55 0 k).toNatClampNeg + 1)) 1 (k + 1) (by unfold mo_phi at h1 ⊢; rw [if_neg (by decide)]; have := hU.2; split at h1 <;> omega) (by omega) hU.1 (Or.inr rfl) (fun q => absurd q (by decide)); rw [nI_succ] at hih; refine hK _ _ _ _ (show mo_X g t_X12_spreads Q 14 [some (.inr (.inr (50, 0))), some (.inr (.inr (80, 0))), some (.inl c), some (.inl z), some (.inl (1 : Int32)), some (.inl ((nI k) + (1 : Int32))), some (.inl ((r ((σ.1 55 0 ((nI k).toNatClampNeg)).toNatClampNeg)) + (1 : Int32)))] [] (mo_wI (mo_rowI σ 80 0 r) 80 0 ((σ.1 54 0 ((nI k).toNatClampNeg)).toNatClampNeg) ((r ((σ.1 55 0 ((nI k).toNatClampNeg)).toNatClampNeg)) + (1 : Int32))) from ?_); rw [hkc, mo_rowI_w]; refine mo_wk ?_ hih; exact And.intro rfl (And.intro rfl (And.intro rfl (And.intro rfl (And.intro rfl (And.intro rfl (trivial)))))))
              · (have hr : mo_rlx σ c z r k := (by unfold mo_rlx; ((try simp only [hkc, mo_bl0, Classical.not_not, ← Int32.not_lt] at c2 c3 c4 c5 c6 ⊢); clear hK hQ ih; grind)); have hih := ih r M (k + 1) (by unfold mo_phi at h1 ⊢; omega) (by omega) hI hM (fun q => lt_s (hR q) hr); rw [nI_succ] at hih; refine hK _ _ _ _ (show mo_X g t_X12_spreads Q 14 [some (.inr (.inr (50, 0))), some (.inr (.inr (80, 0))), some (.inl c), some (.inl z), some (.inl M), some (.inl ((nI k) + (1 : Int32))), some (.inl ((r ((σ.1 55 0 ((nI k).toNatClampNeg)).toNatClampNeg)) + (1 : Int32)))] [] (mo_rowI σ 80 0 r) from ?_); refine mo_wk ?_ hih; exact And.intro rfl (And.intro rfl (And.intro rfl (And.intro rfl (And.intro rfl (And.intro rfl (trivial)))))))
          · (have hr : mo_rlx σ c z r k := (by unfold mo_rlx; ((try simp only [hkc, mo_bl0, Classical.not_not, ← Int32.not_lt] at c2 c3 c4 ⊢); clear hK hQ ih; grind)); have hih := ih r M (k + 1) (by unfold mo_phi at h1 ⊢; omega) (by omega) hI hM (fun q => lt_s (hR q) hr); rw [nI_succ] at hih; refine hK _ _ _ _ (show mo_X g t_X12_spreads Q 14 [some (.inr (.inr (50, 0))), some (.inr (.inr (80, 0))), some (.inl c), some (.inl z), some (.inl M), some (.inl ((nI k) + (1 : Int32))), none] [] (mo_rowI σ 80 0 r) from ?_); refine mo_wk ?_ hih; exact And.intro rfl (And.intro rfl (And.intro rfl (And.intro rfl (And.intro rfl (And.intro rfl (trivial)))))))
        · refine And.intro (fun (c4 : z = 0) => ?_) (fun (c4 : ¬ z = 0) => ?_)
          · (have hr : mo_rlx σ c z r k := (by unfold mo_rlx; ((try simp only [hkc, mo_bl0, Classical.not_not, ← Int32.not_lt] at c2 c3 c4 ⊢); clear hK hQ ih; grind)); have hih := ih r M (k + 1) (by unfold mo_phi at h1 ⊢; omega) (by omega) hI hM (fun q => lt_s (hR q) hr); rw [nI_succ] at hih; refine hK _ _ _ _ (show mo_X g t_X12_spreads Q 14 [some (.inr (.inr (50, 0))), some (.inr (.inr (80, 0))), some (.inl c), some (.inl z), some (.inl M), some (.inl ((nI k) + (1 : Int32))), none] [] (mo_rowI σ 80 0 r) from ?_); refine mo_wk ?_ hih; exact And.intro rfl (And.intro rfl (And.intro rfl (And.intro rfl (And.intro rfl (And.intro rfl (trivial)))))))
          · refine And.intro (show vp_in (nI k) 200 by exact mo_inN (by omega) (by decide)) ?_
            refine And.intro (show vp_in (σ.1 55 0 ((nI k).toNatClampNeg)) 60 by rw [hkc]; exact mo_inw (hin k hk).2 hN) ?_
            refine And.intro (fun (c5 : ¬ (r ((σ.1 55 0 ((nI k).toNatClampNeg)).toNatClampNeg)) = (-1 : Int32)) => ?_) (fun (c5 : (r ((σ.1 55 0 ((nI k).toNatClampNeg)).toNatClampNeg)) = (-1 : Int32)) => ?_)
            · refine And.intro (show vp_in (nI k) 200 by exact mo_inN (by omega) (by decide)) ?_
              refine And.intro (show vp_in (σ.1 55 0 ((nI k).toNatClampNeg)) 60 by rw [hkc]; exact mo_inw (hin k hk).2 hN) ?_
              refine And.intro (show vp_in (nI k) 200 by exact mo_inN (by omega) (by decide)) ?_
              refine And.intro (show vp_in (σ.1 54 0 ((nI k).toNatClampNeg)) 60 by rw [hkc]; exact mo_inw (hin k hk).1 hN) ?_
              refine And.intro (fun (c6 : (r ((σ.1 54 0 ((nI k).toNatClampNeg)).toNatClampNeg)) = (-1 : Int32)) => ?_) (fun (c6 : ¬ (r ((σ.1 54 0 ((nI k).toNatClampNeg)).toNatClampNeg)) = (-1 : Int32)) => ?_)
              · refine And.intro (show vp_in (nI k) 200 by exact mo_inN (by omega) (by decide)) ?_
                refine And.intro (show vp_in (σ.1 54 0 ((nI k).toNatClampNeg)) 60 by rw [hkc]; exact mo_inw (hin k hk).1 hN) ?_
                (simp only [hkc] at c2 c3 c4 c5 c6; have hE : mo_lnk σ c z (σ.1 54 0 k).toNatClampNeg (σ.1 55 0 k).toNatClampNeg := ⟨k, (by rw [hn, mo_cl (by omega)]; exact hk), (by ((try simp only [hkc, mo_bl0, Classical.not_not, ← Int32.not_lt] at c2 c3 c4 c5 c6 ⊢); clear hK hQ ih; grind)), (by ((try simp only [hkc, mo_bl0, Classical.not_not, ← Int32.not_lt] at c2 c3 c4 c5 c6 ⊢); clear hK hQ ih; grind)), rfl, rfl⟩; have hU := mo_sI_upd hN hI (mo_inI (hin k hk).1).2 (mo_inI (hin k hk).2).2 hE (by ((try simp only [hkc, mo_bl0, Classical.not_not, ← Int32.not_lt] at c2 c3 c4 c5 c6 ⊢); clear hK hQ ih; grind)) (by ((try simp only [hkc, mo_bl0, Classical.not_not, ← Int32.not_lt] at c2 c3 c4 c5 c6 ⊢); clear hK hQ ih; grind)); have hih := ih (upd r (σ.1 54 0 k).toNatClampNeg (r (σ.1 55 0 k).toNatClampNeg + 1)) 1 (k + 1) (by unfold mo_phi at h1 ⊢; rw [if_neg (by decide)]; have := hU.2; split at h1 <;> omega) (by omega) hU.1 (Or.inr rfl) (fun q => absurd q (by decide)); rw [nI_succ] at hih; refine hK _ _ _ _ (show mo_X g t_X12_spreads Q 14 [some (.inr (.inr (50, 0))), some (.inr (.inr (80, 0))), some (.inl c), some (.inl z), some (.inl (1 : Int32)), some (.inl ((nI k) + (1 : Int32))), some (.inl ((r ((σ.1 55 0 ((nI k).toNatClampNeg)).toNatClampNeg)) + (1 : Int32)))] [] (mo_wI (mo_rowI σ 80 0 r) 80 0 ((σ.1 54 0 ((nI k).toNatClampNeg)).toNatClampNeg) ((r ((σ.1 55 0 ((nI k).toNatClampNeg)).toNatClampNeg)) + (1 : Int32))) from ?_); rw [hkc, mo_rowI_w]; refine mo_wk ?_ hih; exact And.intro rfl (And.intro rfl (And.intro rfl (And.intro rfl (And.intro rfl (And.intro rfl (trivial)))))))
              · refine And.intro (show vp_in (nI k) 200 by exact mo_inN (by omega) (by decide)) ?_
                refine And.intro (show vp_in (σ.1 54 0 ((nI k).toNatClampNeg)) 60 by rw [hkc]; exact mo_inw (hin k hk).1 hN) ?_
                refine And.intro (fun (c7 : ((r ((σ.1 55 0 ((nI k).toNatClampNeg)).toNatClampNeg)) + (1 : Int32)) < (r ((σ.1 54 0 ((nI k).toNatClampNeg)).toNatClampNeg))) => ?_) (fun (c7 : ¬ ((r ((σ.1 55 0 ((nI k).toNatClampNeg)).toNatClampNeg)) + (1 : Int32)) < (r ((σ.1 54 0 ((nI k).toNatClampNeg)).toNatClampNeg))) => ?_)
                · refine And.intro (show vp_in (nI k) 200 by exact mo_inN (by omega) (by decide)) ?_
                  refine And.intro (show vp_in (σ.1 54 0 ((nI k).toNatClampNeg)) 60 by rw [hkc]; exact mo_inw (hin k hk).1 hN) ?_
                  (simp only [hkc] at c2 c3 c4 c5 c6 c7; have hE : mo_lnk σ c z (σ.1 54 0 k).toNatClampNeg (σ.1 55 0 k).toNatClampNeg := ⟨k, (by rw [hn, mo_cl (by omega)]; exact hk), (by ((try simp only [hkc, mo_bl0, Classical.not_not, ← Int32.not_lt] at c2 c3 c4 c5 c6 c7 ⊢); clear hK hQ ih; grind)), (by ((try simp only [hkc, mo_bl0, Classical.not_not, ← Int32.not_lt] at c2 c3 c4 c5 c6 c7 ⊢); clear hK hQ ih; grind)), rfl, rfl⟩; have hU := mo_sI_upd hN hI (mo_inI (hin k hk).1).2 (mo_inI (hin k hk).2).2 hE (by ((try simp only [hkc, mo_bl0, Classical.not_not, ← Int32.not_lt] at c2 c3 c4 c5 c6 c7 ⊢); clear hK hQ ih; grind)) (by ((try simp only [hkc, mo_bl0, Classical.not_not, ← Int32.not_lt] at c2 c3 c4 c5 c6 c7 ⊢); clear hK hQ ih; grind)); have hih := ih (upd r (σ.1 54 0 k).toNatClampNeg (r (σ.1 55 0 k).toNatClampNeg + 1)) 1 (k + 1) (by unfold mo_phi at h1 ⊢; rw [if_neg (by decide)]; have := hU.2; split at h1 <;> omega) (by omega) hU.1 (Or.inr rfl) (fun q => absurd q (by decide)); rw [nI_succ] at hih; refine hK _ _ _ _ (show mo_X g t_X12_spreads Q 14 [some (.inr (.inr (50, 0))), some (.inr (.inr (80, 0))), some (.inl c), some (.inl z), some (.inl (1 : Int32)), some (.inl ((nI k) + (1 : Int32))), some (.inl ((r ((σ.1 55 0 ((nI k).toNatClampNeg)).toNatClampNeg)) + (1 : Int32)))] [] (mo_wI (mo_rowI σ 80 0 r) 80 0 ((σ.1 54 0 ((nI k).toNatClampNeg)).toNatClampNeg) ((r ((σ.1 55 0 ((nI k).toNatClampNeg)).toNatClampNeg)) + (1 : Int32))) from ?_); rw [hkc, mo_rowI_w]; refine mo_wk ?_ hih; exact And.intro rfl (And.intro rfl (And.intro rfl (And.intro rfl (And.intro rfl (And.intro rfl (trivial)))))))
                · (have hr : mo_rlx σ c z r k := (by unfold mo_rlx; ((try simp only [hkc, mo_bl0, Classical.not_not, ← Int32.not_lt] at c2 c3 c4 c5 c6 c7 ⊢); clear hK hQ ih; grind)); have hih := ih r M (k + 1) (by unfold mo_phi at h1 ⊢; omega) (by omega) hI hM (fun q => lt_s (hR q) hr); rw [nI_succ] at hih; refine hK _ _ _ _ (show mo_X g t_X12_spreads Q 14 [some (.inr (.inr (50, 0))), some (.inr (.inr (80, 0))), some (.inl c), some (.inl z), some (.inl M), some (.inl ((nI k) + (1 : Int32))), some (.inl ((r ((σ.1 55 0 ((nI k).toNatClampNeg)).toNatClampNeg)) + (1 : Int32)))] [] (mo_rowI σ 80 0 r) from ?_); refine mo_wk ?_ hih; exact And.intro rfl (And.intro rfl (And.intro rfl (And.intro rfl (And.intro rfl (And.intro rfl (trivial)))))))
            · (have hr : mo_rlx σ c z r k := (by unfold mo_rlx; ((try simp only [hkc, mo_bl0, Classical.not_not, ← Int32.not_lt] at c2 c3 c4 c5 ⊢); clear hK hQ ih; grind)); have hih := ih r M (k + 1) (by unfold mo_phi at h1 ⊢; omega) (by omega) hI hM (fun q => lt_s (hR q) hr); rw [nI_succ] at hih; refine hK _ _ _ _ (show mo_X g t_X12_spreads Q 14 [some (.inr (.inr (50, 0))), some (.inr (.inr (80, 0))), some (.inl c), some (.inl z), some (.inl M), some (.inl ((nI k) + (1 : Int32))), none] [] (mo_rowI σ 80 0 r) from ?_); refine mo_wk ?_ hih; exact And.intro rfl (And.intro rfl (And.intro rfl (And.intro rfl (And.intro rfl (And.intro rfl (trivial)))))))
def S_X12_spreads80 : mo_S := fun as σ Q => ∃ c : Int32, ∃ z : Int32, as = [.inr (.inr (50, 0)), .inr (.inr (80, 0)), .inl c, .inl z] ∧ ((mo_le (σ.1 50 0 6) 200 ∧ ∀ u, u < (σ.1 50 0 6).toNatClampNeg → vp_in (σ.1 54 0 u) (σ.1 50 0 2).toNatClampNeg ∧ vp_in (σ.1 55 0 u) (σ.1 50 0 2).toNatClampNeg) ∧ (σ.1 50 0 2).toNatClampNeg ≤ 60 ∧ ∀ m, m < (σ.1 50 0 2).toNatClampNeg → σ.1 80 0 m = -1 ∨ σ.1 80 0 m = 0) ∧ ∀ r : Nat → Int32, (mo_sh (mo_lnk σ c z) (fun m => σ.1 80 0 m = 0) r (σ.1 50 0 2).toNatClampNeg) → Q (none) (mo_rowI σ 80 0 r)
theorem m_X12_spreads80 : ∀ (as : List mo_V) (σ : mo_M) (P P' : mo_Q), (∀ x τ, P x τ → P' x τ) → S_X12_spreads80 as σ P → S_X12_spreads80 as σ P' := by
  rintro as σ P P' h ⟨c, z, e, hp, hq⟩
  exact ⟨c, z, e, hp, fun r hz => h _ _ (hq r hz)⟩
set_option maxRecDepth 20000 in
set_option maxHeartbeats 2000000 in
theorem ct_X12_spreads80 : mo_ct yX12_spreads t_X12_spreads S_X12_spreads80 := by
  refine mo_ct_of (by decide) rfl ?_
  rintro g as σ Q ⟨c, z, rfl, hpre, hQ⟩
  refine ⟨Nat.le_of_ble_eq_true rfl, mo_go ok_X12_spreads (cs_X12_spreads_ok g) [14] 74 ?_⟩
  intro K hK
  refine And.intro (fun (c1 : (1 : Int32) = 0) => ?_) (fun (c1 : ¬ (1 : Int32) = 0) => ?_)
  · exact absurd c1 (by decide)
  · (have h0 := lp_X12_spreads80 g σ Q c z (fun m => σ.1 80 0 m = 0) (σ.1 50 0 2).toNatClampNeg _ hpre.2.1 hpre.1.1.1 hpre.1.1.2 hpre.1.2 hQ (mo_phi (σ.1 80 0) (σ.1 50 0 2).toNatClampNeg 0 (σ.1 50 0 6).toNatClampNeg 0 + 1) (σ.1 80 0) 0 0 (Nat.lt_succ_self _) (by omega) (mo_sI_0 hpre.2.2) (Or.inl rfl) (fun _ j hj => absurd hj (by omega)); rw [mo_rowI_id] at h0; exact hK _ _ _ _ h0)
set_option maxRecDepth 20000 in
set_option maxHeartbeats 2000000 in
theorem lo_X12_spreads81 (g : mo_E) (τ : mo_M) (Q : mo_Q) (c z M v : Int32) (hM : M = 0 ∨ M = 1) (h0 : M = 0 → Q none τ) (hX : M = 1 → mo_X g t_X12_spreads Q 14 [some (.inr (.inr (50, 0))), some (.inr (.inr (81, 0))), some (.inl c), some (.inl z), some (.inl (0 : Int32)), some (.inl (0 : Int32)), none] [] τ) (x : Option mo_V) : mo_X g t_X12_spreads Q 3 [some (.inr (.inr (50, 0))), some (.inr (.inr (81, 0))), some (.inl c), some (.inl z), some (.inl M), some (.inl v), x] [] τ := by
  refine mo_wk (a := [some (.inr (.inr (50, 0))), some (.inr (.inr (81, 0))), some (.inl c), some (.inl z), some (.inl M), some (.inl v), none]) ?_ ?_
  · exact And.intro rfl (And.intro rfl (And.intro rfl (And.intro rfl (And.intro rfl (And.intro rfl (trivial))))))
  rcases hM with rfl | rfl
  · refine mo_go ok_X12_spreads (cs_X12_spreads_ok g) [14] 74 ?_
    intro K hK
    refine And.intro (fun (c1 : (0 : Int32) = 0) => ?_) (fun (c1 : ¬ (0 : Int32) = 0) => ?_)
    · exact h0 rfl
    · exact absurd c1 (by decide)
  · refine mo_go ok_X12_spreads (cs_X12_spreads_ok g) [14] 74 ?_
    intro K hK
    refine And.intro (fun (c1 : (1 : Int32) = 0) => ?_) (fun (c1 : ¬ (1 : Int32) = 0) => ?_)
    · exact absurd c1 (by decide)
    · exact hK _ _ _ _ (hX rfl)
set_option maxRecDepth 20000 in
set_option maxHeartbeats 2000000 in
theorem lp_X12_spreads81 (g : mo_E) (σ : mo_M) (Q : mo_Q) (c z : Int32) (B : Nat → Prop) (N n : Nat) (hN : N ≤ 60) (hn : σ.1 50 0 6 = nI n) (hle : n ≤ 200) (hin : ∀ k, k < n → vp_in (σ.1 54 0 k) N ∧ vp_in (σ.1 55 0 k) N) (hQ : ∀ r, mo_sh (mo_lnk σ c z) B r N → Q none (mo_rowI σ 81 0 r)) : ∀ (d : Nat) (r : Nat → Int32) (M : Int32) (k : Nat), mo_phi r N M n k < d → k ≤ n → mo_sI (mo_lnk σ c z) B r N → (M = 0 ∨ M = 1) → (M = 0 → ∀ u, u < k → mo_rlx σ c z r u) → mo_X g t_X12_spreads Q 14 [some (.inr (.inr (50, 0))), some (.inr (.inr (81, 0))), some (.inl c), some (.inl z), some (.inl M), some (.inl (nI k)), none] [] (mo_rowI σ 81 0 r) := by
  intro d
  induction d with
  | zero => intro r M k h1; omega
  | succ d ih =>
    intro r M k h1 h2 hI hM hR
    have hkc : (nI k).toNatClampNeg = k := mo_cl (by omega)
    refine mo_go ok_X12_spreads (cs_X12_spreads_ok g) [14] 74 ?_
    intro K hK
    refine And.intro (fun (c1 : (σ.1 50 0 6) ≤ (nI k)) => ?_) (fun (c1 : ¬ (σ.1 50 0 6) ≤ (nI k)) => ?_)
    · have hk : n ≤ k := mo_cge hn (by omega) (by omega) c1
      (have e : k = n := (by omega); subst e; refine hK _ _ _ _ (lo_X12_spreads81 g _ Q c z M (nI k) hM (fun q => hQ r (mo_sI_end hN (fun a b he => (mo_lnk_in hn hin he).2) hI (fun a b ha he hb => (by obtain ⟨u, hu, p1, p2, rfl, rfl⟩ := he; rw [hn, mo_cl (by omega)] at hu; exact hR q u hu p1 p2 hb)))) (fun q => ih r 0 0 (by subst q; unfold mo_phi at h1 ⊢; rw [if_pos rfl]; rw [if_neg (by decide)] at h1; omega) (by omega) hI (Or.inl rfl) (fun _ j hj => absurd hj (by omega))) none))
    · have hk : k < n := mo_clt hn (by omega) (by omega) c1
      refine Exists.intro (nI k) (Exists.intro c (And.intro rfl (And.intro (show vp_in (nI k) 200 by exact mo_inN (by omega) (by decide)) ?_)))
      refine And.intro (fun (c2 : (mo_bl (σ.1 57 0 (nI k).toNatClampNeg ≤ c ∧ c < σ.1 58 0 (nI k).toNatClampNeg)) = 0) => ?_) (fun (c2 : ¬ (mo_bl (σ.1 57 0 (nI k).toNatClampNeg ≤ c ∧ c < σ.1 58 0 (nI k).toNatClampNeg)) = 0) => ?_)
      · (have hr : mo_rlx σ c z r k := (by unfold mo_rlx; ((try simp only [hkc, mo_bl0, Classical.not_not, ← Int32.not_lt] at c2 ⊢); clear hK hQ ih; grind)); have hih := ih r M (k + 1) (by unfold mo_phi at h1 ⊢; omega) (by omega) hI hM (fun q => lt_s (hR q) hr); rw [nI_succ] at hih; refine hK _ _ _ _ (show mo_X g t_X12_spreads Q 14 [some (.inr (.inr (50, 0))), some (.inr (.inr (81, 0))), some (.inl c), some (.inl z), some (.inl M), some (.inl ((nI k) + (1 : Int32))), none] [] (mo_rowI σ 81 0 r) from ?_); refine mo_wk ?_ hih; exact And.intro rfl (And.intro rfl (And.intro rfl (And.intro rfl (And.intro rfl (And.intro rfl (trivial)))))))
      · refine And.intro (show vp_in (nI k) 200 by exact mo_inN (by omega) (by decide)) ?_
        refine And.intro (fun (c3 : ¬ (σ.1 56 0 ((nI k).toNatClampNeg)) = (3 : Int32)) => ?_) (fun (c3 : (σ.1 56 0 ((nI k).toNatClampNeg)) = (3 : Int32)) => ?_)
        · refine And.intro (show vp_in (nI k) 200 by exact mo_inN (by omega) (by decide)) ?_
          refine And.intro (show vp_in (σ.1 55 0 ((nI k).toNatClampNeg)) 60 by rw [hkc]; exact mo_inw (hin k hk).2 hN) ?_
          refine And.intro (fun (c4 : ¬ (r ((σ.1 55 0 ((nI k).toNatClampNeg)).toNatClampNeg)) = (-1 : Int32)) => ?_) (fun (c4 : (r ((σ.1 55 0 ((nI k).toNatClampNeg)).toNatClampNeg)) = (-1 : Int32)) => ?_)
          · refine And.intro (show vp_in (nI k) 200 by exact mo_inN (by omega) (by decide)) ?_
            refine And.intro (show vp_in (σ.1 55 0 ((nI k).toNatClampNeg)) 60 by rw [hkc]; exact mo_inw (hin k hk).2 hN) ?_
            refine And.intro (show vp_in (nI k) 200 by exact mo_inN (by omega) (by decide)) ?_
            refine And.intro (show vp_in (σ.1 54 0 ((nI k).toNatClampNeg)) 60 by rw [hkc]; exact mo_inw (hin k hk).1 hN) ?_
            refine And.intro (fun (c5 : (r ((σ.1 54 0 ((nI k).toNatClampNeg)).toNatClampNeg)) = (-1 : Int32)) => ?_) (fun (c5 : ¬ (r ((σ.1 54 0 ((nI k).toNatClampNeg)).toNatClampNeg)) = (-1 : Int32)) => ?_)
            · refine And.intro (show vp_in (nI k) 200 by exact mo_inN (by omega) (by decide)) ?_
              refine And.intro (show vp_in (σ.1 54 0 ((nI k).toNatClampNeg)) 60 by rw [hkc]; exact mo_inw (hin k hk).1 hN) ?_
              (simp only [hkc] at c2 c3 c4 c5; have hE : mo_lnk σ c z (σ.1 54 0 k).toNatClampNeg (σ.1 55 0 k).toNatClampNeg := ⟨k, (by rw [hn, mo_cl (by omega)]; exact hk), (by ((try simp only [hkc, mo_bl0, Classical.not_not, ← Int32.not_lt] at c2 c3 c4 c5 ⊢); clear hK hQ ih; grind)), (by ((try simp only [hkc, mo_bl0, Classical.not_not, ← Int32.not_lt] at c2 c3 c4 c5 ⊢); clear hK hQ ih; grind)), rfl, rfl⟩; have hU := mo_sI_upd hN hI (mo_inI (hin k hk).1).2 (mo_inI (hin k hk).2).2 hE (by ((try simp only [hkc, mo_bl0, Classical.not_not, ← Int32.not_lt] at c2 c3 c4 c5 ⊢); clear hK hQ ih; grind)) (by ((try simp only [hkc, mo_bl0, Classical.not_not, ← Int32.not_lt] at c2 c3 c4 c5 ⊢); clear hK hQ ih; grind)); have hih := ih (upd r (σ.1 54 0 k).toNatClampNeg (r (σ.1 55 0 k).toNatClampNeg + 1)) 1 (k + 1) (by unfold mo_phi at h1 ⊢; rw [if_neg (by decide)]; have := hU.2; split at h1 <;> omega) (by omega) hU.1 (Or.inr rfl) (fun q => absurd q (by decide)); rw [nI_succ] at hih; refine hK _ _ _ _ (show mo_X g t_X12_spreads Q 14 [some (.inr (.inr (50, 0))), some (.inr (.inr (81, 0))), some (.inl c), some (.inl z), some (.inl (1 : Int32)), some (.inl ((nI k) + (1 : Int32))), some (.inl ((r ((σ.1 55 0 ((nI k).toNatClampNeg)).toNatClampNeg)) + (1 : Int32)))] [] (mo_wI (mo_rowI σ 81 0 r) 81 0 ((σ.1 54 0 ((nI k).toNatClampNeg)).toNatClampNeg) ((r ((σ.1 55 0 ((nI k).toNatClampNeg)).toNatClampNeg)) + (1 : Int32))) from ?_); rw [hkc, mo_rowI_w]; refine mo_wk ?_ hih; exact And.intro rfl (And.intro rfl (And.intro rfl (And.intro rfl (And.intro rfl (And.intro rfl (trivial)))))))
            · refine And.intro (show vp_in (nI k) 200 by exact mo_inN (by omega) (by decide)) ?_
              refine And.intro (show vp_in (σ.1 54 0 ((nI k).toNatClampNeg)) 60 by rw [hkc]; exact mo_inw (hin k hk).1 hN) ?_
              refine And.intro (fun (c6 : ((r ((σ.1 55 0 ((nI k).toNatClampNeg)).toNatClampNeg)) + (1 : Int32)) < (r ((σ.1 54 0 ((nI k).toNatClampNeg)).toNatClampNeg))) => ?_) (fun (c6 : ¬ ((r ((σ.1 55 0 ((nI k).toNatClampNeg)).toNatClampNeg)) + (1 : Int32)) < (r ((σ.1 54 0 ((nI k).toNatClampNeg)).toNatClampNeg))) => ?_)
              · refine And.intro (show vp_in (nI k) 200 by exact mo_inN (by omega) (by decide)) ?_
                refine And.intro (show vp_in (σ.1 54 0 ((nI k).toNatClampNeg)) 60 by rw [hkc]; exact mo_inw (hin k hk).1 hN) ?_
                (simp only [hkc] at c2 c3 c4 c5 c6; have hE : mo_lnk σ c z (σ.1 54 0 k).toNatClampNeg (σ.1 55 0 k).toNatClampNeg := ⟨k, (by rw [hn, mo_cl (by omega)]; exact hk), (by ((try simp only [hkc, mo_bl0, Classical.not_not, ← Int32.not_lt] at c2 c3 c4 c5 c6 ⊢); clear hK hQ ih; grind)), (by ((try simp only [hkc, mo_bl0, Classical.not_not, ← Int32.not_lt] at c2 c3 c4 c5 c6 ⊢); clear hK hQ ih; grind)), rfl, rfl⟩; have hU := mo_sI_upd hN hI (mo_inI (hin k hk).1).2 (mo_inI (hin k hk).2).2 hE (by ((try simp only [hkc, mo_bl0, Classical.not_not, ← Int32.not_lt] at c2 c3 c4 c5 c6 ⊢); clear hK hQ ih; grind)) (by ((try simp only [hkc, mo_bl0, Classical.not_not, ← Int32.not_lt] at c2 c3 c4 c5 c6 ⊢); clear hK hQ ih; grind)); have hih := ih (upd r (σ.1 54 0 k).toNatClampNeg (r (σ.1 55 0 k).toNatClampNeg + 1)) 1 (k + 1) (by unfold mo_phi at h1 ⊢; rw [if_neg (by decide)]; have := hU.2; split at h1 <;> omega) (by omega) hU.1 (Or.inr rfl) (fun q => absurd q (by decide)); rw [nI_succ] at hih; refine hK _ _ _ _ (show mo_X g t_X12_spreads Q 14 [some (.inr (.inr (50, 0))), some (.inr (.inr (81, 0))), some (.inl c), some (.inl z), some (.inl (1 : Int32)), some (.inl ((nI k) + (1 : Int32))), some (.inl ((r ((σ.1 55 0 ((nI k).toNatClampNeg)).toNatClampNeg)) + (1 : Int32)))] [] (mo_wI (mo_rowI σ 81 0 r) 81 0 ((σ.1 54 0 ((nI k).toNatClampNeg)).toNatClampNeg) ((r ((σ.1 55 0 ((nI k).toNatClampNeg)).toNatClampNeg)) + (1 : Int32))) from ?_); rw [hkc, mo_rowI_w]; refine mo_wk ?_ hih; exact And.intro rfl (And.intro rfl (And.intro rfl (And.intro rfl (And.intro rfl (And.intro rfl (trivial)))))))
              · (have hr : mo_rlx σ c z r k := (by unfold mo_rlx; ((try simp only [hkc, mo_bl0, Classical.not_not, ← Int32.not_lt] at c2 c3 c4 c5 c6 ⊢); clear hK hQ ih; grind)); have hih := ih r M (k + 1) (by unfold mo_phi at h1 ⊢; omega) (by omega) hI hM (fun q => lt_s (hR q) hr); rw [nI_succ] at hih; refine hK _ _ _ _ (show mo_X g t_X12_spreads Q 14 [some (.inr (.inr (50, 0))), some (.inr (.inr (81, 0))), some (.inl c), some (.inl z), some (.inl M), some (.inl ((nI k) + (1 : Int32))), some (.inl ((r ((σ.1 55 0 ((nI k).toNatClampNeg)).toNatClampNeg)) + (1 : Int32)))] [] (mo_rowI σ 81 0 r) from ?_); refine mo_wk ?_ hih; exact And.intro rfl (And.intro rfl (And.intro rfl (And.intro rfl (And.intro rfl (And.intro rfl (trivial)))))))
          · (have hr : mo_rlx σ c z r k := (by unfold mo_rlx; ((try simp only [hkc, mo_bl0, Classical.not_not, ← Int32.not_lt] at c2 c3 c4 ⊢); clear hK hQ ih; grind)); have hih := ih r M (k + 1) (by unfold mo_phi at h1 ⊢; omega) (by omega) hI hM (fun q => lt_s (hR q) hr); rw [nI_succ] at hih; refine hK _ _ _ _ (show mo_X g t_X12_spreads Q 14 [some (.inr (.inr (50, 0))), some (.inr (.inr (81, 0))), some (.inl c), some (.inl z), some (.inl M), some (.inl ((nI k) + (1 : Int32))), none] [] (mo_rowI σ 81 0 r) from ?_); refine mo_wk ?_ hih; exact And.intro rfl (And.intro rfl (And.intro rfl (And.intro rfl (And.intro rfl (And.intro rfl (trivial)))))))
        · refine And.intro (fun (c4 : z = 0) => ?_) (fun (c4 : ¬ z = 0) => ?_)
          · (have hr : mo_rlx σ c z r k := (by unfold mo_rlx; ((try simp only [hkc, mo_bl0, Classical.not_not, ← Int32.not_lt] at c2 c3 c4 ⊢); clear hK hQ ih; grind)); have hih := ih r M (k + 1) (by unfold mo_phi at h1 ⊢; omega) (by omega) hI hM (fun q => lt_s (hR q) hr); rw [nI_succ] at hih; refine hK _ _ _ _ (show mo_X g t_X12_spreads Q 14 [some (.inr (.inr (50, 0))), some (.inr (.inr (81, 0))), some (.inl c), some (.inl z), some (.inl M), some (.inl ((nI k) + (1 : Int32))), none] [] (mo_rowI σ 81 0 r) from ?_); refine mo_wk ?_ hih; exact And.intro rfl (And.intro rfl (And.intro rfl (And.intro rfl (And.intro rfl (And.intro rfl (trivial)))))))
          · refine And.intro (show vp_in (nI k) 200 by exact mo_inN (by omega) (by decide)) ?_
            refine And.intro (show vp_in (σ.1 55 0 ((nI k).toNatClampNeg)) 60 by rw [hkc]; exact mo_inw (hin k hk).2 hN) ?_
            refine And.intro (fun (c5 : ¬ (r ((σ.1 55 0 ((nI k).toNatClampNeg)).toNatClampNeg)) = (-1 : Int32)) => ?_) (fun (c5 : (r ((σ.1 55 0 ((nI k).toNatClampNeg)).toNatClampNeg)) = (-1 : Int32)) => ?_)
            · refine And.intro (show vp_in (nI k) 200 by exact mo_inN (by omega) (by decide)) ?_
              refine And.intro (show vp_in (σ.1 55 0 ((nI k).toNatClampNeg)) 60 by rw [hkc]; exact mo_inw (hin k hk).2 hN) ?_
              refine And.intro (show vp_in (nI k) 200 by exact mo_inN (by omega) (by decide)) ?_
              refine And.intro (show vp_in (σ.1 54 0 ((nI k).toNatClampNeg)) 60 by rw [hkc]; exact mo_inw (hin k hk).1 hN) ?_
              refine And.intro (fun (c6 : (r ((σ.1 54 0 ((nI k).toNatClampNeg)).toNatClampNeg)) = (-1 : Int32)) => ?_) (fun (c6 : ¬ (r ((σ.1 54 0 ((nI k).toNatClampNeg)).toNatClampNeg)) = (-1 : Int32)) => ?_)
              · refine And.intro (show vp_in (nI k) 200 by exact mo_inN (by omega) (by decide)) ?_
                refine And.intro (show vp_in (σ.1 54 0 ((nI k).toNatClampNeg)) 60 by rw [hkc]; exact mo_inw (hin k hk).1 hN) ?_
                (simp only [hkc] at c2 c3 c4 c5 c6; have hE : mo_lnk σ c z (σ.1 54 0 k).toNatClampNeg (σ.1 55 0 k).toNatClampNeg := ⟨k, (by rw [hn, mo_cl (by omega)]; exact hk), (by ((try simp only [hkc, mo_bl0, Classical.not_not, ← Int32.not_lt] at c2 c3 c4 c5 c6 ⊢); clear hK hQ ih; grind)), (by ((try simp only [hkc, mo_bl0, Classical.not_not, ← Int32.not_lt] at c2 c3 c4 c5 c6 ⊢); clear hK hQ ih; grind)), rfl, rfl⟩; have hU := mo_sI_upd hN hI (mo_inI (hin k hk).1).2 (mo_inI (hin k hk).2).2 hE (by ((try simp only [hkc, mo_bl0, Classical.not_not, ← Int32.not_lt] at c2 c3 c4 c5 c6 ⊢); clear hK hQ ih; grind)) (by ((try simp only [hkc, mo_bl0, Classical.not_not, ← Int32.not_lt] at c2 c3 c4 c5 c6 ⊢); clear hK hQ ih; grind)); have hih := ih (upd r (σ.1 54 0 k).toNatClampNeg (r (σ.1 55 0 k).toNatClampNeg + 1)) 1 (k + 1) (by unfold mo_phi at h1 ⊢; rw [if_neg (by decide)]; have := hU.2; split at h1 <;> omega) (by omega) hU.1 (Or.inr rfl) (fun q => absurd q (by decide)); rw [nI_succ] at hih; refine hK _ _ _ _ (show mo_X g t_X12_spreads Q 14 [some (.inr (.inr (50, 0))), some (.inr (.inr (81, 0))), some (.inl c), some (.inl z), some (.inl (1 : Int32)), some (.inl ((nI k) + (1 : Int32))), some (.inl ((r ((σ.1 55 0 ((nI k).toNatClampNeg)).toNatClampNeg)) + (1 : Int32)))] [] (mo_wI (mo_rowI σ 81 0 r) 81 0 ((σ.1 54 0 ((nI k).toNatClampNeg)).toNatClampNeg) ((r ((σ.1 55 0 ((nI k).toNatClampNeg)).toNatClampNeg)) + (1 : Int32))) from ?_); rw [hkc, mo_rowI_w]; refine mo_wk ?_ hih; exact And.intro rfl (And.intro rfl (And.intro rfl (And.intro rfl (And.intro rfl (And.intro rfl (trivial)))))))
              · refine And.intro (show vp_in (nI k) 200 by exact mo_inN (by omega) (by decide)) ?_
                refine And.intro (show vp_in (σ.1 54 0 ((nI k).toNatClampNeg)) 60 by rw [hkc]; exact mo_inw (hin k hk).1 hN) ?_
                refine And.intro (fun (c7 : ((r ((σ.1 55 0 ((nI k).toNatClampNeg)).toNatClampNeg)) + (1 : Int32)) < (r ((σ.1 54 0 ((nI k).toNatClampNeg)).toNatClampNeg))) => ?_) (fun (c7 : ¬ ((r ((σ.1 55 0 ((nI k).toNatClampNeg)).toNatClampNeg)) + (1 : Int32)) < (r ((σ.1 54 0 ((nI k).toNatClampNeg)).toNatClampNeg))) => ?_)
                · refine And.intro (show vp_in (nI k) 200 by exact mo_inN (by omega) (by decide)) ?_
                  refine And.intro (show vp_in (σ.1 54 0 ((nI k).toNatClampNeg)) 60 by rw [hkc]; exact mo_inw (hin k hk).1 hN) ?_
                  (simp only [hkc] at c2 c3 c4 c5 c6 c7; have hE : mo_lnk σ c z (σ.1 54 0 k).toNatClampNeg (σ.1 55 0 k).toNatClampNeg := ⟨k, (by rw [hn, mo_cl (by omega)]; exact hk), (by ((try simp only [hkc, mo_bl0, Classical.not_not, ← Int32.not_lt] at c2 c3 c4 c5 c6 c7 ⊢); clear hK hQ ih; grind)), (by ((try simp only [hkc, mo_bl0, Classical.not_not, ← Int32.not_lt] at c2 c3 c4 c5 c6 c7 ⊢); clear hK hQ ih; grind)), rfl, rfl⟩; have hU := mo_sI_upd hN hI (mo_inI (hin k hk).1).2 (mo_inI (hin k hk).2).2 hE (by ((try simp only [hkc, mo_bl0, Classical.not_not, ← Int32.not_lt] at c2 c3 c4 c5 c6 c7 ⊢); clear hK hQ ih; grind)) (by ((try simp only [hkc, mo_bl0, Classical.not_not, ← Int32.not_lt] at c2 c3 c4 c5 c6 c7 ⊢); clear hK hQ ih; grind)); have hih := ih (upd r (σ.1 54 0 k).toNatClampNeg (r (σ.1 55 0 k).toNatClampNeg + 1)) 1 (k + 1) (by unfold mo_phi at h1 ⊢; rw [if_neg (by decide)]; have := hU.2; split at h1 <;> omega) (by omega) hU.1 (Or.inr rfl) (fun q => absurd q (by decide)); rw [nI_succ] at hih; refine hK _ _ _ _ (show mo_X g t_X12_spreads Q 14 [some (.inr (.inr (50, 0))), some (.inr (.inr (81, 0))), some (.inl c), some (.inl z), some (.inl (1 : Int32)), some (.inl ((nI k) + (1 : Int32))), some (.inl ((r ((σ.1 55 0 ((nI k).toNatClampNeg)).toNatClampNeg)) + (1 : Int32)))] [] (mo_wI (mo_rowI σ 81 0 r) 81 0 ((σ.1 54 0 ((nI k).toNatClampNeg)).toNatClampNeg) ((r ((σ.1 55 0 ((nI k).toNatClampNeg)).toNatClampNeg)) + (1 : Int32))) from ?_); rw [hkc, mo_rowI_w]; refine mo_wk ?_ hih; exact And.intro rfl (And.intro rfl (And.intro rfl (And.intro rfl (And.intro rfl (And.intro rfl (trivial)))))))
                · (have hr : mo_rlx σ c z r k := (by unfold mo_rlx; ((try simp only [hkc, mo_bl0, Classical.not_not, ← Int32.not_lt] at c2 c3 c4 c5 c6 c7 ⊢); clear hK hQ ih; grind)); have hih := ih r M (k + 1) (by unfold mo_phi at h1 ⊢; omega) (by omega) hI hM (fun q => lt_s (hR q) hr); rw [nI_succ] at hih; refine hK _ _ _ _ (show mo_X g t_X12_spreads Q 14 [some (.inr (.inr (50, 0))), some (.inr (.inr (81, 0))), some (.inl c), some (.inl z), some (.inl M), some (.inl ((nI k) + (1 : Int32))), some (.inl ((r ((σ.1 55 0 ((nI k).toNatClampNeg)).toNatClampNeg)) + (1 : Int32)))] [] (mo_rowI σ 81 0 r) from ?_); refine mo_wk ?_ hih; exact And.intro rfl (And.intro rfl (And.intro rfl (And.intro rfl (And.intro rfl (And.intro rfl (trivial)))))))
            · (have hr : mo_rlx σ c z r k := (by unfold mo_rlx; ((try simp only [hkc, mo_bl0, Classical.not_not, ← Int32.not_lt] at c2 c3 c4 c5 ⊢); clear hK hQ ih; grind)); have hih := ih r M (k + 1) (by unfold mo_phi at h1 ⊢; omega) (by omega) hI hM (fun q => lt_s (hR q) hr); rw [nI_succ] at hih; refine hK _ _ _ _ (show mo_X g t_X12_spreads Q 14 [some (.inr (.inr (50, 0))), some (.inr (.inr (81, 0))), some (.inl c), some (.inl z), some (.inl M), some (.inl ((nI k) + (1 : Int32))), none] [] (mo_rowI σ 81 0 r) from ?_); refine mo_wk ?_ hih; exact And.intro rfl (And.intro rfl (And.intro rfl (And.intro rfl (And.intro rfl (And.intro rfl (trivial)))))))
def S_X12_spreads81 : mo_S := fun as σ Q => ∃ c : Int32, ∃ z : Int32, as = [.inr (.inr (50, 0)), .inr (.inr (81, 0)), .inl c, .inl z] ∧ ((mo_le (σ.1 50 0 6) 200 ∧ ∀ u, u < (σ.1 50 0 6).toNatClampNeg → vp_in (σ.1 54 0 u) (σ.1 50 0 2).toNatClampNeg ∧ vp_in (σ.1 55 0 u) (σ.1 50 0 2).toNatClampNeg) ∧ (σ.1 50 0 2).toNatClampNeg ≤ 60 ∧ ∀ m, m < (σ.1 50 0 2).toNatClampNeg → σ.1 81 0 m = -1 ∨ σ.1 81 0 m = 0) ∧ ∀ r : Nat → Int32, (mo_sh (mo_lnk σ c z) (fun m => σ.1 81 0 m = 0) r (σ.1 50 0 2).toNatClampNeg) → Q (none) (mo_rowI σ 81 0 r)
theorem m_X12_spreads81 : ∀ (as : List mo_V) (σ : mo_M) (P P' : mo_Q), (∀ x τ, P x τ → P' x τ) → S_X12_spreads81 as σ P → S_X12_spreads81 as σ P' := by
  rintro as σ P P' h ⟨c, z, e, hp, hq⟩
  exact ⟨c, z, e, hp, fun r hz => h _ _ (hq r hz)⟩
set_option maxRecDepth 20000 in
set_option maxHeartbeats 2000000 in
theorem ct_X12_spreads81 : mo_ct yX12_spreads t_X12_spreads S_X12_spreads81 := by
  refine mo_ct_of (by decide) rfl ?_
  rintro g as σ Q ⟨c, z, rfl, hpre, hQ⟩
  refine ⟨Nat.le_of_ble_eq_true rfl, mo_go ok_X12_spreads (cs_X12_spreads_ok g) [14] 74 ?_⟩
  intro K hK
  refine And.intro (fun (c1 : (1 : Int32) = 0) => ?_) (fun (c1 : ¬ (1 : Int32) = 0) => ?_)
  · exact absurd c1 (by decide)
  · (have h0 := lp_X12_spreads81 g σ Q c z (fun m => σ.1 81 0 m = 0) (σ.1 50 0 2).toNatClampNeg _ hpre.2.1 hpre.1.1.1 hpre.1.1.2 hpre.1.2 hQ (mo_phi (σ.1 81 0) (σ.1 50 0 2).toNatClampNeg 0 (σ.1 50 0 6).toNatClampNeg 0 + 1) (σ.1 81 0) 0 0 (Nat.lt_succ_self _) (by omega) (mo_sI_0 hpre.2.2) (Or.inl rfl) (fun _ j hj => absurd hj (by omega)); rw [mo_rowI_id] at h0; exact hK _ _ _ _ h0)
