theorem mo_snoc {E : Nat → Nat → Prop} {x y : Nat} (he : E y x) : ∀ (d a : Nat), mo_wlk E (fun b => b = y) d a → mo_wlk E (fun b => b = x) (d + 1) a
  | 0, a, h => by cases h; exact ⟨x, he, rfl⟩
  | d + 1, a, ⟨b, h1, h2⟩ => ⟨b, h1, mo_snoc he d b h2⟩
theorem mo_flow {E : Nat → Nat → Prop} {r : Nat → Int32} {x N : Nat} (hE : ∀ a b, E a b → b < N) (hc : ∀ a b, a < N → E a b → ¬ r a = -1 → ¬ r b = -1) : ∀ (d a : Nat), a < N → ¬ r a = -1 → mo_wlk E (fun b => b = x) d a → ¬ r x = -1
  | 0, a, _, h, hw => by cases hw; exact h
  | d + 1, a, ha, h, ⟨b, h1, h2⟩ => mo_flow hE hc d b (hE _ _ h1) (hc a b ha h1 h) h2
def mo_nn (r : Nat → Int32) : Nat → Nat := mo_sum (fun m => if r m = -1 then 1 else 0)
theorem mo_nn_upd {r : Nat → Int32} {N a : Nat} (ha : a < N) (h : r a = -1) : mo_nn (upd r a 1) N < mo_nn r N := by
  have s := mo_sum_upd (v := fun m => if r m = -1 then 1 else 0) (v' := fun m => if upd r a 1 m = -1 then 1 else 0) (a := a) (fun m hm => by show (if upd r a 1 m = -1 then 1 else 0) = _; rw [show upd r a 1 m = r m from by simp [upd, hm]]) ha
  simp only [show upd r a 1 a = 1 from by simp [upd], h, if_pos, if_neg (show ¬ (1 : Int32) = -1 by decide)] at s
  change mo_nn (upd r a 1) N + _ = mo_nn r N + _ at s
  omega
def mo_RC (σ : mo_M) (c : Int32) (m x : Nat) : Prop := ∃ d, mo_wlk (mo_lnk σ c 1) (fun y => y = x) (d + 1) m
theorem mo_lnk_mk {σ : mo_M} {c : Int32} {n u : Nat} (hn : σ.1 50 0 6 = nI n) (hle : n ≤ 200) (hu : u < n) (p1 : σ.1 57 0 u ≤ c ∧ c < σ.1 58 0 u) : mo_lnk σ c 1 (σ.1 54 0 u).toNatClampNeg (σ.1 55 0 u).toNatClampNeg := ⟨u, by rw [hn, mo_cl (by omega)]; exact hu, p1, fun _ => by decide, rfl, rfl⟩
def mo_ph2 (r : Nat → Int32) (N : Nat) (M : Int32) (n k : Nat) : Nat := 402 * mo_nn r N + (if M = 0 then 0 else 201) + (n - k)
def cs_X12_ring : Nat → mo_C := fun j => match j with
  | 0 => (2, true, 144, 12, S_X12_isMake)
  | 1 => (1, false, 141, 50, S_X12_isDay)
  | 2 => (3, true, 150, 12, S_X12_is)
  | _ => (0, false, 0, 50, fun _ _ _ => False)
theorem cs_X12_ring_ok (g : mo_E) : ∀ j, mo_cok g t_X12_ring (cs_X12_ring j) ∧ mo_mon (cs_X12_ring j) := by
  intro j
  unfold cs_X12_ring
  split
  · exact ⟨mo_cokV ct_X12_isMake (by decide) ⟨_, _, rfl⟩ (by decide +kernel), m_X12_isMake⟩
  · exact ⟨mo_cokS ct_X12_isDay (by decide +kernel), m_X12_isDay⟩
  · exact ⟨mo_cokV ct_X12_is (by decide) ⟨_, _, rfl⟩ (by decide +kernel), m_X12_is⟩
  · exact ⟨mo_cok0 g _, mo_mon0⟩

set_option maxRecDepth 20000 in
set_option maxHeartbeats 2000000 in
theorem lo_X12_ring (g : mo_E) (σ : mo_M) (Q : mo_Q) (a c M : Int32) (r : Nat → Int32) (hM : M = 0 ∨ M = 1) (ha : vp_in a 60) (h0 : M = 0 → Q (some (.inl (mo_bl (¬ r a.toNatClampNeg = -1)))) (mo_rowI σ 81 0 r)) (hX : M = 1 → mo_X g t_X12_ring Q 98 [some (.inr (.inr (50, 0))), some (.inl a), some (.inl c), some (.inl (0 : Int32)), some (.inl (0 : Int32))] [] (mo_rowI σ 81 0 r)) (x : Option mo_V) : mo_X g t_X12_ring Q 89 [some (.inr (.inr (50, 0))), some (.inl a), some (.inl c), some (.inl M), x] [] (mo_rowI σ 81 0 r) := by
  refine mo_wk (a := [some (.inr (.inr (50, 0))), some (.inl a), some (.inl c), some (.inl M), none]) ?_ ?_
  · exact And.intro rfl (And.intro rfl (And.intro rfl (And.intro rfl (trivial))))
  rcases hM with rfl | rfl
  · refine mo_go ok_X12_ring (cs_X12_ring_ok g) [98] 109 ?_
    intro K hK
    refine And.intro (fun (c1 : (0 : Int32) = 0) => ?_) (fun (c1 : ¬ (0 : Int32) = 0) => ?_)
    · refine And.intro (show vp_in a 60 by exact ha) ?_
      refine And.intro (fun (c2 : ¬ (r a.toNatClampNeg) = (-1 : Int32)) => ?_) (fun (c2 : (r a.toNatClampNeg) = (-1 : Int32)) => ?_)
      · exact mo_q (h0 rfl) (mo_r1 c2) rfl
      · exact mo_q (h0 rfl) (mo_r0 (fun q => q c2)) rfl
    · exact absurd c1 (by decide)
  · refine mo_go ok_X12_ring (cs_X12_ring_ok g) [98] 109 ?_
    intro K hK
    refine And.intro (fun (c1 : (1 : Int32) = 0) => ?_) (fun (c1 : ¬ (1 : Int32) = 0) => ?_)
    · exact absurd c1 (by decide)
    · exact hK _ _ _ _ (hX rfl)
set_option maxRecDepth 20000 in
set_option maxHeartbeats 2000000 in
theorem lp_X12_ring (g : mo_E) (σ : mo_M) (Q : mo_Q) (a c : Int32) (N n : Nat) (hN : N ≤ 60) (ha : vp_in a N) (hm : σ.1 50 0 2 = nI N) (hn : σ.1 50 0 6 = nI n) (hle : n ≤ 200) (hin : ∀ k, k < n → vp_in (σ.1 54 0 k) N ∧ vp_in (σ.1 55 0 k) N) (hQ : ∀ r, Q (some (.inl (mo_bl (mo_RC σ c a.toNatClampNeg a.toNatClampNeg)))) (mo_rowI σ 81 0 r)) : ∀ (d : Nat) (r : Nat → Int32) (M : Int32) (k : Nat), mo_ph2 r N M n k < d → k ≤ n → (∀ x, x < N → ¬ r x = -1 → mo_RC σ c a.toNatClampNeg x) → (∀ x, mo_lnk σ c 1 a.toNatClampNeg x → ¬ r x = -1) → (M = 0 ∨ M = 1) → (M = 0 → ∀ u, u < k → ((σ.1 57 0 u ≤ c ∧ c < σ.1 58 0 u) → ¬ r (σ.1 54 0 u).toNatClampNeg = -1 → ¬ r (σ.1 55 0 u).toNatClampNeg = -1)) → mo_X g t_X12_ring Q 98 [some (.inr (.inr (50, 0))), some (.inl a), some (.inl c), some (.inl M), some (.inl (nI k))] [] (mo_rowI σ 81 0 r) := by
  intro d
  induction d with
  | zero => intro r M k h1; omega
  | succ d ih =>
    intro r M k h1 h2 hI hS hM hR
    have hkc : (nI k).toNatClampNeg = k := mo_cl (by omega)
    refine mo_go ok_X12_ring (cs_X12_ring_ok g) [98] 109 ?_
    intro K hK
    refine And.intro (fun (c1 : (σ.1 50 0 6) ≤ (nI k)) => ?_) (fun (c1 : ¬ (σ.1 50 0 6) ≤ (nI k)) => ?_)
    · have hk : n ≤ k := mo_cge hn (by omega) (by omega) c1
      (have e : k = n := (by omega); subst e; have hE : ∀ p q, mo_lnk σ c 1 p q → q < N := fun p q hpq => (mo_lnk_in hn hin hpq).2; refine hK _ _ _ _ (lo_X12_ring g σ Q a c M r hM (mo_inw ha hN) (fun q => mo_q (hQ r) (congrArg (fun z => some (Sum.inl z : mo_V)) (mo_blc ⟨fun z => hI _ (mo_inI ha).2 z, fun ⟨d, b, h5, h6⟩ => mo_flow hE (fun p q hp hpq hr => (by obtain ⟨u, hu, p1, -, rfl, rfl⟩ := hpq; rw [hn, mo_cl (by omega)] at hu; exact hR (by assumption) u hu p1 hr)) d b (hE _ _ h5) (hS b h5) h6⟩)) rfl) (fun q => ih r 0 0 (by subst q; unfold mo_ph2 at h1 ⊢; rw [if_pos rfl]; rw [if_neg (by decide)] at h1; omega) (by omega) hI hS (Or.inl rfl) (fun _ j hj => absurd hj (by omega))) (some (.inl (nI k)))))
    · have hk : k < n := mo_clt hn (by omega) (by omega) c1
      refine Exists.intro (nI k) (Exists.intro c (And.intro rfl (And.intro (show vp_in (nI k) 200 by exact mo_inN (by omega) (by decide)) ?_)))
      refine And.intro (fun (c2 : (mo_bl (σ.1 57 0 (nI k).toNatClampNeg ≤ c ∧ c < σ.1 58 0 (nI k).toNatClampNeg)) = 0) => ?_) (fun (c2 : ¬ (mo_bl (σ.1 57 0 (nI k).toNatClampNeg ≤ c ∧ c < σ.1 58 0 (nI k).toNatClampNeg)) = 0) => ?_)
      · (have hr : (fun u => ((σ.1 57 0 u ≤ c ∧ c < σ.1 58 0 u) → ¬ r (σ.1 54 0 u).toNatClampNeg = -1 → ¬ r (σ.1 55 0 u).toNatClampNeg = -1)) k := (by ((try simp only [hkc, mo_bl0, Classical.not_not, ← Int32.not_lt] at c2 ⊢); clear hK hQ ih; grind)); have hih := ih r M (k + 1) (by unfold mo_ph2 at h1 ⊢; omega) (by omega) hI hS hM (fun q => lt_s (hR q) hr); rw [nI_succ] at hih; exact hK _ _ _ _ hih)
      · refine And.intro (show vp_in (nI k) 200 by exact mo_inN (by omega) (by decide)) ?_
        refine And.intro (show vp_in (σ.1 54 0 ((nI k).toNatClampNeg)) 60 by rw [hkc]; exact mo_inw (hin k hk).1 hN) ?_
        refine And.intro (fun (c3 : (r ((σ.1 54 0 ((nI k).toNatClampNeg)).toNatClampNeg)) = (-1 : Int32)) => ?_) (fun (c3 : ¬ (r ((σ.1 54 0 ((nI k).toNatClampNeg)).toNatClampNeg)) = (-1 : Int32)) => ?_)
        · (have hr : (fun u => ((σ.1 57 0 u ≤ c ∧ c < σ.1 58 0 u) → ¬ r (σ.1 54 0 u).toNatClampNeg = -1 → ¬ r (σ.1 55 0 u).toNatClampNeg = -1)) k := (by ((try simp only [hkc, mo_bl0, Classical.not_not, ← Int32.not_lt] at c2 c3 ⊢); clear hK hQ ih; grind)); have hih := ih r M (k + 1) (by unfold mo_ph2 at h1 ⊢; omega) (by omega) hI hS hM (fun q => lt_s (hR q) hr); rw [nI_succ] at hih; exact hK _ _ _ _ hih)
        · refine And.intro (show vp_in (nI k) 200 by exact mo_inN (by omega) (by decide)) ?_
          refine And.intro (show vp_in (σ.1 55 0 ((nI k).toNatClampNeg)) 60 by rw [hkc]; exact mo_inw (hin k hk).2 hN) ?_
          refine And.intro (fun (c4 : (r ((σ.1 55 0 ((nI k).toNatClampNeg)).toNatClampNeg)) = (-1 : Int32)) => ?_) (fun (c4 : ¬ (r ((σ.1 55 0 ((nI k).toNatClampNeg)).toNatClampNeg)) = (-1 : Int32)) => ?_)
          · refine And.intro (show vp_in (nI k) 200 by exact mo_inN (by omega) (by decide)) ?_
            refine And.intro (show vp_in (σ.1 55 0 ((nI k).toNatClampNeg)) 60 by rw [hkc]; exact mo_inw (hin k hk).2 hN) ?_
            (simp only [hkc] at c2 c3 c4; have hl : mo_lnk σ c 1 (σ.1 54 0 k).toNatClampNeg (σ.1 55 0 k).toNatClampNeg := mo_lnk_mk hn hle hk (by ((try simp only [hkc, mo_bl0, Classical.not_not, ← Int32.not_lt] at c2 c3 c4 ⊢); clear hK hQ ih; grind)); have hu1 : upd r (σ.1 55 0 k).toNatClampNeg 1 (σ.1 55 0 k).toNatClampNeg = 1 := (by simp [upd]); have hu2 : ∀ x, x ≠ (σ.1 55 0 k).toNatClampNeg → upd r (σ.1 55 0 k).toNatClampNeg 1 x = r x := (fun x hx => by simp [upd, hx]); have hih := ih (upd r (σ.1 55 0 k).toNatClampNeg 1) 1 (k + 1) (by unfold mo_ph2 at h1 ⊢; rw [if_neg (by decide)]; have := mo_nn_upd (mo_inI (hin k hk).2).2 (show r (σ.1 55 0 k).toNatClampNeg = -1 by ((try simp only [hkc, mo_bl0, Classical.not_not, ← Int32.not_lt] at c2 c3 c4 ⊢); clear hK hQ ih; grind)); split at h1 <;> omega) (by omega) (fun x hx hz => by by_cases e : x = (σ.1 55 0 k).toNatClampNeg; (· subst e; obtain ⟨d, hd⟩ := hI (σ.1 54 0 k).toNatClampNeg (mo_inI (hin k hk).1).2 (by ((try simp only [hkc, mo_bl0, Classical.not_not, ← Int32.not_lt] at c2 c3 c4 ⊢); clear hK hQ ih; grind)); exact ⟨d + 1, mo_snoc hl _ _ hd⟩); rw [hu2 x e] at hz; exact hI x hx hz) (fun x hx => by by_cases e : x = (σ.1 55 0 k).toNatClampNeg; (· subst e; rw [hu1]; decide); rw [hu2 x e]; exact hS x hx) (Or.inr rfl) (fun q => absurd q (by decide)); rw [nI_succ] at hih; refine hK _ _ _ _ (show mo_X g t_X12_ring Q 98 [some (.inr (.inr (50, 0))), some (.inl a), some (.inl c), some (.inl (1 : Int32)), some (.inl ((nI k) + (1 : Int32)))] [] (mo_wI (mo_rowI σ 81 0 r) 81 0 ((σ.1 55 0 ((nI k).toNatClampNeg)).toNatClampNeg) (1 : Int32)) from ?_); rw [hkc, mo_rowI_w]; exact hih)
          · (have hr : (fun u => ((σ.1 57 0 u ≤ c ∧ c < σ.1 58 0 u) → ¬ r (σ.1 54 0 u).toNatClampNeg = -1 → ¬ r (σ.1 55 0 u).toNatClampNeg = -1)) k := (by ((try simp only [hkc, mo_bl0, Classical.not_not, ← Int32.not_lt] at c2 c3 c4 ⊢); clear hK hQ ih; grind)); have hih := ih r M (k + 1) (by unfold mo_ph2 at h1 ⊢; omega) (by omega) hI hS hM (fun q => lt_s (hR q) hr); rw [nI_succ] at hih; exact hK _ _ _ _ hih)
set_option maxRecDepth 20000 in
set_option maxHeartbeats 2000000 in
theorem lb_X12_ring (g : mo_E) (σ : mo_M) (Q : mo_Q) (a c : Int32) (N n : Nat) (hN : N ≤ 60) (ha : vp_in a N) (hm : σ.1 50 0 2 = nI N) (hn : σ.1 50 0 6 = nI n) (hle : n ≤ 200) (hin : ∀ k, k < n → vp_in (σ.1 54 0 k) N ∧ vp_in (σ.1 55 0 k) N) (hQ : ∀ r, Q (some (.inl (mo_bl (mo_RC σ c a.toNatClampNeg a.toNatClampNeg)))) (mo_rowI σ 81 0 r)) : ∀ (d : Nat) (r : Nat → Int32) (k : Nat), n < k + d → k ≤ n → (∀ x, x < N → ¬ r x = -1 → mo_lnk σ c 1 a.toNatClampNeg x) → (∀ u, u < k → (σ.1 57 0 u ≤ c ∧ c < σ.1 58 0 u) → σ.1 54 0 u = a → ¬ r (σ.1 55 0 u).toNatClampNeg = -1) → mo_X g t_X12_ring Q 42 [some (.inr (.inr (50, 0))), some (.inl a), some (.inl c), some (.inl (nI k)), none] [] (mo_rowI σ 81 0 r) := by
  intro d
  induction d with
  | zero => intro r k h1; omega
  | succ d ih =>
    intro r k h1 h2 hI hR
    have hkc : (nI k).toNatClampNeg = k := mo_cl (by omega)
    refine mo_go ok_X12_ring (cs_X12_ring_ok g) [42, 89] 109 ?_
    intro K hK
    refine And.intro (fun (c1 : (σ.1 50 0 6) ≤ (nI k)) => ?_) (fun (c1 : ¬ (σ.1 50 0 6) ≤ (nI k)) => ?_)
    · have hk : n ≤ k := mo_cge hn (by omega) (by omega) c1
      (have e : k = n := (by omega); subst e; refine hK _ _ _ _ (lo_X12_ring g σ Q a c 1 r (Or.inr rfl) (mo_inw ha hN) (fun q => absurd q (by decide)) (fun _ => lp_X12_ring g σ Q a c N k hN ha hm hn hle hin hQ _ r 0 0 (Nat.lt_succ_self _) (by omega) (fun x hx hz => ⟨0, x, hI x hx hz, rfl⟩) (fun x hx => (by obtain ⟨u, hu, p1, -, p2, rfl⟩ := hx; rw [hn, mo_cl (by omega)] at hu; exact hR u hu p1 (by rw [(mo_inI (hin u hu).1).1, p2]; exact (mo_inI ha).1.symm))) (Or.inl rfl) (fun _ j hj => absurd hj (by omega))) none))
    · have hk : k < n := mo_clt hn (by omega) (by omega) c1
      refine Exists.intro (nI k) (Exists.intro c (And.intro rfl (And.intro (show vp_in (nI k) 200 by exact mo_inN (by omega) (by decide)) ?_)))
      refine And.intro (fun (c2 : (mo_bl (σ.1 57 0 (nI k).toNatClampNeg ≤ c ∧ c < σ.1 58 0 (nI k).toNatClampNeg)) = 0) => ?_) (fun (c2 : ¬ (mo_bl (σ.1 57 0 (nI k).toNatClampNeg ≤ c ∧ c < σ.1 58 0 (nI k).toNatClampNeg)) = 0) => ?_)
      · (have hr : (σ.1 57 0 k ≤ c ∧ c < σ.1 58 0 k) → σ.1 54 0 k = a → ¬ r (σ.1 55 0 k).toNatClampNeg = -1 := (by ((try simp only [hkc, mo_bl0, Classical.not_not, ← Int32.not_lt] at c2 ⊢); clear hK hQ ih; grind)); have hih := ih r (k + 1) (by omega) (by omega) hI (fun u hu p1 p2 => by by_cases e : u = k; (· subst e; exact hr p1 p2); exact hR u (by omega) p1 p2); rw [nI_succ] at hih; exact hK _ _ _ _ hih)
      · refine And.intro (show vp_in (nI k) 200 by exact mo_inN (by omega) (by decide)) ?_
        refine And.intro (fun (c3 : ¬ (σ.1 54 0 ((nI k).toNatClampNeg)) = a) => ?_) (fun (c3 : (σ.1 54 0 ((nI k).toNatClampNeg)) = a) => ?_)
        · (have hr : (σ.1 57 0 k ≤ c ∧ c < σ.1 58 0 k) → σ.1 54 0 k = a → ¬ r (σ.1 55 0 k).toNatClampNeg = -1 := (by ((try simp only [hkc, mo_bl0, Classical.not_not, ← Int32.not_lt] at c2 c3 ⊢); clear hK hQ ih; grind)); have hih := ih r (k + 1) (by omega) (by omega) hI (fun u hu p1 p2 => by by_cases e : u = k; (· subst e; exact hr p1 p2); exact hR u (by omega) p1 p2); rw [nI_succ] at hih; exact hK _ _ _ _ hih)
        · refine And.intro (show vp_in (nI k) 200 by exact mo_inN (by omega) (by decide)) ?_
          refine And.intro (show vp_in (σ.1 55 0 ((nI k).toNatClampNeg)) 60 by rw [hkc]; exact mo_inw (hin k hk).2 hN) ?_
          (simp only [hkc] at c2 c3; have hfa : σ.1 54 0 k = a := (by ((try simp only [hkc, mo_bl0, Classical.not_not, ← Int32.not_lt] at c2 c3 ⊢); clear hK hQ ih; grind)); have hl : mo_lnk σ c 1 a.toNatClampNeg (σ.1 55 0 k).toNatClampNeg := hfa ▸ mo_lnk_mk hn hle hk (by ((try simp only [hkc, mo_bl0, Classical.not_not, ← Int32.not_lt] at c2 c3 ⊢); clear hK hQ ih; grind)); have hu1 : upd r (σ.1 55 0 k).toNatClampNeg 1 (σ.1 55 0 k).toNatClampNeg = 1 := (by simp [upd]); have hu2 : ∀ x, x ≠ (σ.1 55 0 k).toNatClampNeg → upd r (σ.1 55 0 k).toNatClampNeg 1 x = r x := (fun x hx => by simp [upd, hx]); have hih := ih (upd r (σ.1 55 0 k).toNatClampNeg 1) (k + 1) (by omega) (by omega) (fun x hx hz => by by_cases e : x = (σ.1 55 0 k).toNatClampNeg; (· subst e; exact hl); rw [hu2 x e] at hz; exact hI x hx hz) (fun u hu p1 p2 => by by_cases e : (σ.1 55 0 u).toNatClampNeg = (σ.1 55 0 k).toNatClampNeg; (· rw [e, hu1]; decide); rw [hu2 _ e]; by_cases e2 : u = k; (· subst e2; exact absurd rfl e); exact hR u (by omega) p1 p2); rw [nI_succ] at hih; refine hK _ _ _ _ (show mo_X g t_X12_ring Q 42 [some (.inr (.inr (50, 0))), some (.inl a), some (.inl c), some (.inl ((nI k) + (1 : Int32))), none] [] (mo_wI (mo_rowI σ 81 0 r) 81 0 ((σ.1 55 0 ((nI k).toNatClampNeg)).toNatClampNeg) (1 : Int32)) from ?_); rw [hkc, mo_rowI_w]; exact hih)
set_option maxRecDepth 20000 in
set_option maxHeartbeats 2000000 in
theorem la_X12_ring (g : mo_E) (σ : mo_M) (Q : mo_Q) (a c : Int32) (N n : Nat) (hN : N ≤ 60) (ha : vp_in a N) (hm : σ.1 50 0 2 = nI N) (hn : σ.1 50 0 6 = nI n) (hle : n ≤ 200) (hin : ∀ k, k < n → vp_in (σ.1 54 0 k) N ∧ vp_in (σ.1 55 0 k) N) (hQ : ∀ r, Q (some (.inl (mo_bl (mo_RC σ c a.toNatClampNeg a.toNatClampNeg)))) (mo_rowI σ 81 0 r)) : ∀ (d k : Nat), N < k + d → k ≤ N → mo_X g t_X12_ring Q 19 [some (.inr (.inr (50, 0))), some (.inl a), some (.inl c), some (.inl (nI k)), none] [] (mo_rowI σ 81 0 (mo_fo (fun k r => upd r k ((fun _ => (-1 : Int32)) k)) (σ.1 81 0) k)) := by
  intro d
  induction d with
  | zero => intro k h1; omega
  | succ d ih =>
    intro k h1 h2
    have hkc : (nI k).toNatClampNeg = k := mo_cl (by omega)
    refine mo_go ok_X12_ring (cs_X12_ring_ok g) [19, 42] 109 ?_
    intro K hK
    refine And.intro (fun (c1 : (σ.1 50 0 2) ≤ (nI k)) => ?_) (fun (c1 : ¬ (σ.1 50 0 2) ≤ (nI k)) => ?_)
    · have hk : N ≤ k := mo_cge hm (by omega) (by omega) c1
      (have e : k = N := (by omega); subst e; exact hK _ _ _ _ (lb_X12_ring g σ Q a c k n hN ha hm hn hle hin hQ (n + 1) _ 0 (by omega) (by omega) (fun x hx hz => absurd (mo_fo_upd (f := fun _ => (-1 : Int32)) hx) hz) (fun u hu => absurd hu (by omega))))
    · have hk : k < N := mo_clt hm (by omega) (by omega) c1
      refine And.intro (show vp_in (nI k) 60 by exact mo_inN (by omega) (by decide)) ?_
      (have hih := ih (k + 1) (by omega) (by omega); rw [nI_succ] at hih; refine hK _ _ _ _ (show mo_X g t_X12_ring Q 19 [some (.inr (.inr (50, 0))), some (.inl a), some (.inl c), some (.inl ((nI k) + (1 : Int32))), none] [] (mo_wI (mo_rowI σ 81 0 (mo_fo (fun k r => upd r k ((fun _ => (-1 : Int32)) k)) (σ.1 81 0) k)) 81 0 ((nI k).toNatClampNeg) (-1 : Int32)) from ?_); rw [hkc, mo_rowI_w]; exact hih)
def S_X12_ring : mo_S := fun as σ Q => ∃ a : Int32, ∃ b : Int32, as = [.inr (.inr (50, 0)), .inl a, .inl b] ∧ ((¬ (0 ≤ a ∧ a ≤ σ.1 50 0 2 - 1) → Q (some (.inl (-1 : Int32))) (σ)) ∧ (0 ≤ a ∧ a ≤ σ.1 50 0 2 - 1 → ((0 ≤ b ∧ b ≤ (10000 : Int32) → ((mo_le (σ.1 50 0 2) 60 ∧ vp_in a (σ.1 50 0 2).toNatClampNeg ∧ mo_le (σ.1 50 0 6) 200 ∧ ∀ u, u < (σ.1 50 0 6).toNatClampNeg → vp_in (σ.1 54 0 u) (σ.1 50 0 2).toNatClampNeg ∧ vp_in (σ.1 55 0 u) (σ.1 50 0 2).toNatClampNeg) ∧ ∀ r : Nat → Int32, Q (some (.inl (mo_bl (mo_RC σ b a.toNatClampNeg a.toNatClampNeg)))) (mo_rowI σ 81 0 r))) ∧ (¬ (0 ≤ b ∧ b ≤ (10000 : Int32)) → Q (some (.inl (-1 : Int32))) (σ)))))
theorem m_X12_ring : ∀ (as : List mo_V) (σ : mo_M) (P P' : mo_Q), (∀ x τ, P x τ → P' x τ) → S_X12_ring as σ P → S_X12_ring as σ P' := by
  rintro as σ P P' hm ⟨a, b, e, hq⟩
  exact ⟨a, b, e, ⟨fun c1 => hm _ _ (hq.1 c1), fun c1 => ⟨fun c2 => ⟨((hq.2 c1).1 c2).1, fun r => hm _ _ (((hq.2 c1).1 c2).2 r)⟩, fun c2 => hm _ _ ((hq.2 c1).2 c2)⟩⟩⟩
set_option maxRecDepth 20000 in
set_option maxHeartbeats 2000000 in
theorem ct_X12_ring : mo_ct yX12_ring t_X12_ring S_X12_ring := by
  refine mo_ct_of (by decide) rfl ?_
  rintro g as σ Q ⟨a, b, rfl, hQ⟩
  refine ⟨Nat.le_of_ble_eq_true rfl, mo_go ok_X12_ring (cs_X12_ring_ok g) [19] 109 ?_⟩
  intro K hK
  refine Exists.intro a (And.intro rfl (And.intro trivial ?_))
  refine And.intro (fun (c1 : (mo_bl (0 ≤ a ∧ a ≤ σ.1 50 0 2 - 1)) = 0) => ?_) (fun (c1 : ¬ (mo_bl (0 ≤ a ∧ a ≤ σ.1 50 0 2 - 1)) = 0) => ?_)
  · replace c1 : ¬ (0 ≤ a ∧ a ≤ σ.1 50 0 2 - 1) := mo_bl0.mp c1
    exact (hQ.1 c1)
  · replace c1 : 0 ≤ a ∧ a ≤ σ.1 50 0 2 - 1 := mo_blT c1
    refine Exists.intro b (And.intro rfl (And.intro trivial ?_))
    refine And.intro (fun (c2 : ¬ (mo_bl (0 ≤ b ∧ b ≤ (10000 : Int32))) = 0) => ?_) (fun (c2 : (mo_bl (0 ≤ b ∧ b ≤ (10000 : Int32))) = 0) => ?_)
    · replace c2 : 0 ≤ b ∧ b ≤ (10000 : Int32) := mo_blT c2
      have h0 := la_X12_ring g σ Q a b (σ.1 50 0 2).toNatClampNeg _ ((hQ.2 c1).1 c2).1.1.2 ((hQ.2 c1).1 c2).1.2.1 ((hQ.2 c1).1 c2).1.1.1 ((hQ.2 c1).1 c2).1.2.2.1.1 ((hQ.2 c1).1 c2).1.2.2.1.2 ((hQ.2 c1).1 c2).1.2.2.2 ((hQ.2 c1).1 c2).2 ((σ.1 50 0 2).toNatClampNeg + 1) 0 (by omega) (by omega)
      rw [show mo_rowI σ 81 0 (mo_fo (fun k r => upd r k ((fun _ => (-1 : Int32)) k)) (σ.1 81 0) 0) = σ from mo_rowI_id σ 81 0] at h0
      exact hK _ _ _ _ h0
    · replace c2 : ¬ (0 ≤ b ∧ b ≤ (10000 : Int32)) := mo_bl0.mp c2
      exact ((hQ.2 c1).2 c2)
