noncomputable def mo_nxf (oo : Nat) (σ : mo_M) (a b z : Int32) : Int32 := mo_fo (fun k s => mo_ite ((σ.1 57 0 k ≤ b ∧ b < σ.1 58 0 k) ∧ σ.1 54 0 k = a ∧ (σ.1 56 0 k = 3 → ¬ z = 0) ∧ σ.1 oo 0 (σ.1 55 0 k).toNatClampNeg = σ.1 oo 0 a.toNatClampNeg - 1 ∧ (s = (-1 : Int32) ∨ σ.1 55 0 k < s)) (σ.1 55 0 k) s) (-1 : Int32) (σ.1 50 0 6).toNatClampNeg
theorem mo_nx_inv (oo : Nat) (σ : mo_M) (x N n : Nat) (b z : Int32) (hx : x < N) (hN : N ≤ 60) (hin : ∀ u, u < n → vp_in (σ.1 54 0 u) N ∧ vp_in (σ.1 55 0 u) N) : ∀ m, m ≤ n →
    (mo_fo (fun k s => mo_ite ((σ.1 57 0 k ≤ b ∧ b < σ.1 58 0 k) ∧ σ.1 54 0 k = nI x ∧ (σ.1 56 0 k = 3 → ¬ z = 0) ∧ σ.1 oo 0 (σ.1 55 0 k).toNatClampNeg = σ.1 oo 0 x - 1 ∧ (s = (-1 : Int32) ∨ σ.1 55 0 k < s)) (σ.1 55 0 k) s) (-1 : Int32) m = -1 ∧ ∀ u, u < m → ¬ ((σ.1 57 0 u ≤ b ∧ b < σ.1 58 0 u) ∧ σ.1 54 0 u = nI x ∧ (σ.1 56 0 u = 3 → ¬ z = 0) ∧ σ.1 oo 0 (σ.1 55 0 u).toNatClampNeg = σ.1 oo 0 x - 1)) ∨
    ∃ v, v < m ∧ mo_fo (fun k s => mo_ite ((σ.1 57 0 k ≤ b ∧ b < σ.1 58 0 k) ∧ σ.1 54 0 k = nI x ∧ (σ.1 56 0 k = 3 → ¬ z = 0) ∧ σ.1 oo 0 (σ.1 55 0 k).toNatClampNeg = σ.1 oo 0 x - 1 ∧ (s = (-1 : Int32) ∨ σ.1 55 0 k < s)) (σ.1 55 0 k) s) (-1 : Int32) m = σ.1 55 0 v ∧ ((σ.1 57 0 v ≤ b ∧ b < σ.1 58 0 v) ∧ σ.1 54 0 v = nI x ∧ (σ.1 56 0 v = 3 → ¬ z = 0) ∧ σ.1 oo 0 (σ.1 55 0 v).toNatClampNeg = σ.1 oo 0 x - 1) ∧ ∀ u, u < m → ((σ.1 57 0 u ≤ b ∧ b < σ.1 58 0 u) ∧ σ.1 54 0 u = nI x ∧ (σ.1 56 0 u = 3 → ¬ z = 0) ∧ σ.1 oo 0 (σ.1 55 0 u).toNatClampNeg = σ.1 oo 0 x - 1) → σ.1 55 0 v ≤ σ.1 55 0 u := by
  intro m
  induction m with
  | zero => intro _; exact Or.inl ⟨rfl, fun u hu => absurd hu (by omega)⟩
  | succ m ih =>
    intro hm
    have ih := ih (by omega)
    generalize hf : (fun k s => mo_ite ((σ.1 57 0 k ≤ b ∧ b < σ.1 58 0 k) ∧ σ.1 54 0 k = nI x ∧ (σ.1 56 0 k = 3 → ¬ z = 0) ∧ σ.1 oo 0 (σ.1 55 0 k).toNatClampNeg = σ.1 oo 0 x - 1 ∧ (s = (-1 : Int32) ∨ σ.1 55 0 k < s)) (σ.1 55 0 k) s) = f at ih ⊢
    have hst : mo_fo f (-1) (m + 1) = mo_ite ((σ.1 57 0 m ≤ b ∧ b < σ.1 58 0 m) ∧ σ.1 54 0 m = nI x ∧ (σ.1 56 0 m = 3 → ¬ z = 0) ∧ σ.1 oo 0 (σ.1 55 0 m).toNatClampNeg = σ.1 oo 0 x - 1 ∧ (mo_fo f (-1) m = (-1 : Int32) ∨ σ.1 55 0 m < mo_fo f (-1) m)) (σ.1 55 0 m) (mo_fo f (-1) m) := by rw [← hf]; rfl
    have hne : ∀ v, v < n → ¬ σ.1 55 0 v = -1 := fun v hv q => by
      have := (mo_inI (hin v hv).2)
      rw [this.1] at q
      exact mo_nIm (by omega) q
    by_cases c : (σ.1 57 0 m ≤ b ∧ b < σ.1 58 0 m) ∧ σ.1 54 0 m = nI x ∧ (σ.1 56 0 m = 3 → ¬ z = 0) ∧ σ.1 oo 0 (σ.1 55 0 m).toNatClampNeg = σ.1 oo 0 x - 1
    · rcases ih with ⟨e, hno⟩ | ⟨v, hv, e, hc, hmin⟩
      · rw [mo_ite_t ⟨c.1, c.2.1, c.2.2.1, c.2.2.2, Or.inl e⟩] at hst
        refine Or.inr ⟨m, by omega, hst, c, fun u hu hcu => ?_⟩
        by_cases q : u = m
        · subst q; exact Int32.le_refl _
        · exact absurd hcu (hno u (by omega))
      · by_cases q : σ.1 55 0 m < mo_fo f (-1) m
        · rw [mo_ite_t ⟨c.1, c.2.1, c.2.2.1, c.2.2.2, Or.inr q⟩] at hst
          refine Or.inr ⟨m, by omega, hst, c, fun u hu hcu => ?_⟩
          by_cases q2 : u = m
          · subst q2; exact Int32.le_refl _
          · have := hmin u (by omega) hcu
            rw [e] at q
            exact Int32.le_trans (Int32.le_of_lt q) this
        · rw [mo_ite_f (fun h => by rcases h.2.2.2.2 with h | h; (· exact hne v (by omega) (e.symm.trans h)); exact q h)] at hst
          refine Or.inr ⟨v, by omega, hst.trans e, hc, fun u hu hcu => ?_⟩
          by_cases q2 : u = m
          · subst q2; rw [e] at q; exact Int32.not_lt.mp q
          · exact hmin u (by omega) hcu
    · rw [mo_ite_f (fun h => c ⟨h.1, h.2.1, h.2.2.1, h.2.2.2.1⟩)] at hst
      rcases ih with ⟨e, hno⟩ | ⟨v, hv, e, hc, hmin⟩
      · refine Or.inl ⟨hst.trans e, fun u hu => ?_⟩
        by_cases q2 : u = m
        · subst q2; exact c
        · exact hno u (by omega)
      · refine Or.inr ⟨v, by omega, hst.trans e, hc, fun u hu hcu => ?_⟩
        by_cases q2 : u = m
        · subst q2; exact absurd hcu c
        · exact hmin u (by omega) hcu
/-- the least next make -/
noncomputable def mo_nxt (E : Nat → Nat → Prop) (r : Nat → Int32) (x : Nat) : Int32 := mo_fsI (fun b => E x b ∧ r b = r x - 1) 64
theorem mo_nx_eq (oo : Nat) (σ : mo_M) (x N : Nat) (b z : Int32) (hx : x < N) (hN : N ≤ 60) (hl : mo_le (σ.1 50 0 6) 200) (hin : ∀ u, u < (σ.1 50 0 6).toNatClampNeg → vp_in (σ.1 54 0 u) N ∧ vp_in (σ.1 55 0 u) N) : mo_nxf oo σ (nI x) b z = mo_nxt (mo_lnk σ b z) (σ.1 oo 0) x := by
  have hxc : (nI x).toNatClampNeg = x := mo_cl (by omega)
  have h := mo_nx_inv oo σ x N (σ.1 50 0 6).toNatClampNeg b z hx hN hin _ (Nat.le_refl _)
  unfold mo_nxf mo_nxt
  rw [hxc]
  have key : ∀ u, u < (σ.1 50 0 6).toNatClampNeg → (σ.1 54 0 u = nI x ↔ (σ.1 54 0 u).toNatClampNeg = x) := by
    intro u hu
    have := mo_inI (hin u hu).1
    constructor
    · intro q; rw [q]; exact hxc
    · intro q; rw [this.1, q]
  rcases h with ⟨e, hno⟩ | ⟨v, hv, e, hc, hmin⟩
  · rw [e, mo_fsI_no]
    rintro j hj ⟨⟨u, hu, h1, h2, h3, h4⟩, h5⟩
    refine hno u hu ⟨h1, (key u hu).mpr h3, h2, ?_⟩
    rw [h4]; exact h5
  · have hv2 := mo_inI (hin v hv).2
    rw [e, mo_fsI_at (k := (σ.1 55 0 v).toNatClampNeg) (by omega) ⟨⟨v, hv, hc.1, hc.2.2.1, (key v hv).mp hc.2.1, rfl⟩, hc.2.2.2⟩ ?_]
    · exact hv2.1
    · rintro j hj ⟨⟨u, hu, h1, h2, h3, h4⟩, h5⟩
      have h6 := hmin u hu ⟨h1, (key u hu).mpr h3, h2, by rw [h4]; exact h5⟩
      have hu2 := mo_inI (hin u hu).2
      rw [hv2.1, hu2.1, nI_leI (by omega) (by omega)] at h6
      omega
theorem mo_sh_at {E : Nat → Nat → Prop} {B : Nat → Prop} {r : Nat → Int32} {N x e : Nat} (h : mo_sh E B r N) (hx : x < N) (hr : r x = nI e) (he : e < 1000000) : mo_wlk E B e x ∧ e < 60 ∧ ∀ f, f < e → ¬ mo_wlk E B f x := by
  rcases h x hx with ⟨q, -⟩ | ⟨d, h1, h2, h3, h4⟩
  · exact absurd (hr.symm.trans q) (mo_nIm he)
  · rw [hr, nI_eq (by omega) (by omega)] at h2
    subst h2
    exact ⟨h3, h1, h4⟩
theorem mo_nxt_ok {E : Nat → Nat → Prop} {B : Nat → Prop} {r : Nat → Int32} {N x e : Nat} (h : mo_sh E B r N) (hN : N ≤ 60) (hE : ∀ a b, E a b → b < N) (hx : x < N) (hr : r x = nI (e + 1)) (he : e < 100000) : ∃ b, b < N ∧ E x b ∧ mo_nxt E r x = nI b ∧ r b = nI e := by
  obtain ⟨⟨b, h1, h2⟩, h3, h4⟩ := mo_sh_at h hx hr (by omega)
  have hb := hE _ _ h1
  have hrb : r b = nI e := by
    rcases h b hb with ⟨-, z⟩ | ⟨d, q1, q2, q3, q4⟩
    · exact absurd h2 (z e)
    · have : d = e := by
        rcases Nat.lt_trichotomy d e with z | z | z
        · exact absurd ⟨b, h1, q3⟩ (h4 (d + 1) (by omega))
        · exact z
        · exact absurd h2 (q4 e z)
      rw [← this]; exact q2
  obtain ⟨c, hc, hcm⟩ := pk_least (fun b => E x b ∧ r b = r x - 1) ⟨b, h1, by rw [hrb, hr, nI_pred]⟩
  have hcN := hE _ _ hc.1
  refine ⟨c, hcN, hc.1, mo_fsI_at (by omega) hc hcm, ?_⟩
  rw [hc.2, hr, nI_pred]
noncomputable def mo_pth (E : Nat → Nat → Prop) (r : Nat → Int32) (m : Int32) : Nat → Int32 := mo_fo (fun _ x => mo_nxt E r x.toNatClampNeg) m
theorem mo_pth_ok {E : Nat → Nat → Prop} {B : Nat → Prop} {r : Nat → Int32} {N x D : Nat} (h : mo_sh E B r N) (hN : N ≤ 60) (hE : ∀ a b, E a b → b < N) (hx : x < N) (hr : r x = nI D) (hD : D < 60) : ∀ k, k ≤ D → ∃ y, y < N ∧ mo_pth E r (nI x) k = nI y ∧ r y = nI (D - k)
  | 0, _ => ⟨x, hx, rfl, hr⟩
  | k + 1, hk => by
    obtain ⟨y, h1, h2, h3⟩ := mo_pth_ok h hN hE hx hr hD k (by omega)
    rw [show D - k = (D - (k + 1)) + 1 from by omega] at h3
    obtain ⟨b, hb, -, hb2, hb3⟩ := mo_nxt_ok h hN hE h1 h3 (by omega)
    refine ⟨b, hb, ?_, hb3⟩
    show mo_nxt E r (mo_pth E r (nI x) k).toNatClampNeg = nI b
    rw [h2, mo_cl (by omega)]
    exact hb2
def cs_X12_way : Nat → mo_C := fun j => match j with
  | 0 => (2, true, 249, 12, S_X12_isWarning)
  | 1 => (2, true, 144, 12, S_X12_isMake)
  | 2 => (1, false, 141, 50, S_X12_isDay)
  | 3 => (3, true, 259, 12, S_X12_hits)
  | 4 => (2, true, 262, 12, S_X12_hitOf)
  | 5 => (5, true, 265, 12, S_X12_nextOf)
  | _ => (0, false, 0, 50, fun _ _ _ => False)
theorem cs_X12_way_ok (g : mo_E) : ∀ j, mo_cok g t_X12_way (cs_X12_way j) ∧ mo_mon (cs_X12_way j) := by
  intro j
  unfold cs_X12_way
  split
  · exact ⟨mo_cokV ct_X12_isWarning (by decide) ⟨_, _, rfl⟩ (by decide +kernel), m_X12_isWarning⟩
  · exact ⟨mo_cokV ct_X12_isMake (by decide) ⟨_, _, rfl⟩ (by decide +kernel), m_X12_isMake⟩
  · exact ⟨mo_cokS ct_X12_isDay (by decide +kernel), m_X12_isDay⟩
  · exact ⟨mo_cokV ct_X12_hits (by decide) ⟨_, _, rfl⟩ (by decide +kernel), m_X12_hits⟩
  · exact ⟨mo_cokV ct_X12_hitOf (by decide) ⟨_, _, rfl⟩ (by decide +kernel), m_X12_hitOf⟩
  · exact ⟨mo_cokV ct_X12_nextOf (by decide) ⟨_, _, rfl⟩ (by decide +kernel), m_X12_nextOf⟩
  · exact ⟨mo_cok0 g _, mo_mon0⟩

set_option maxRecDepth 20000 in
set_option maxHeartbeats 2000000 in
theorem lp_X12_way80 (g : mo_E) (σ : mo_M) (Q : mo_Q) (a c v : Int32) (x n D N : Nat) (B : Nat → Prop) (hv : v = 2) (hN : N ≤ 60) (hL : mo_le (σ.1 50 0 6) 200) (hin : ∀ u, u < (σ.1 50 0 6).toNatClampNeg → vp_in (σ.1 54 0 u) N ∧ vp_in (σ.1 55 0 u) N) (hsh : mo_sh (mo_lnk σ c 0) B (σ.1 80 0) N) (hx : x < N) (hr : σ.1 80 0 x = nI D) (hD : n ≤ D) (hD2 : D < 60) (hQ : Q (some (.inl (mo_pth (mo_lnk σ c 0) (σ.1 80 0) (nI x) n))) σ) : ∀ (d k : Nat), n < k + d → k ≤ n → (True) → mo_X g t_X12_way Q 126 [some (.inr (.inr (50, 0))), some (.inl a), some (.inl (nI x)), some (.inl c), some (.inl (nI n)), some (.inl v), some (.inr (.inr (80, 0))), some (.inl (mo_pth (mo_lnk σ c 0) (σ.1 80 0) (nI x) k)), some (.inl (nI k))] [] (σ) := by
  intro d
  induction d with
  | zero => intro k h1 h2; omega
  | succ d ih =>
    intro k h1 h2 hinv
    have hkc : (nI k).toNatClampNeg = k := mo_cl (by omega)
    obtain ⟨y, hy1, hy2, hy3⟩ := mo_pth_ok hsh hN (fun p q hpq => (mo_lnk_in (n := (σ.1 50 0 6).toNatClampNeg) hL.1 hin hpq hL.2).2) hx hr hD2 k (by omega)
    refine mo_go ok_X12_way (cs_X12_way_ok g) [126] 90 ?_
    intro K hK
    refine And.intro (fun (c1 : (nI n) ≤ (nI k)) => ?_) (fun (c1 : ¬ (nI n) ≤ (nI k)) => ?_)
    · have hk : n ≤ k := mo_cge rfl (by omega) (by omega) c1
      (have e : k = n := (by omega); subst e; exact hQ)
    · have hk : k < n := mo_clt rfl (by omega) (by omega) c1
      refine And.intro (fun (c2 : ¬ v = (1 : Int32)) => ?_) (fun (c2 : v = (1 : Int32)) => ?_)
      · refine Or.inl ?_
        refine Exists.intro (mo_pth (mo_lnk σ c 0) (σ.1 80 0) (nI x) k) (Exists.intro c (Exists.intro (0 : Int32) (And.intro rfl (And.intro (show (mo_le (σ.1 50 0 6) 200 ∧ ∀ k_, k_ < (σ.1 50 0 6).toNatClampNeg → vp_in (σ.1 55 0 k_) 60) ∧ vp_in (mo_pth (mo_lnk σ c 0) (σ.1 80 0) (nI x) k) 60 by exact ⟨⟨hL, fun u hu => mo_inw (hin u hu).2 hN⟩, (by rw [hy2]; exact mo_inN (by omega) (by decide))⟩) ?_))))
        (have hih := ih (k + 1) (by omega) (by omega) trivial; rw [nI_succ, show mo_pth (mo_lnk σ c 0) (σ.1 80 0) (nI x) (k + 1) = mo_nxf 80 σ (mo_pth (mo_lnk σ c 0) (σ.1 80 0) (nI x) k) c 0 from (by show mo_nxt _ _ (mo_pth (mo_lnk σ c 0) (σ.1 80 0) (nI x) k).toNatClampNeg = _; rw [hy2, mo_cl (by omega)]; exact (mo_nx_eq 80 σ y N c 0 hy1 hN hL hin).symm)] at hih; exact hK _ _ _ _ hih)
      · exact absurd c2 (by rw [hv]; decide)
set_option maxRecDepth 20000 in
set_option maxHeartbeats 2000000 in
theorem lp_X12_way81 (g : mo_E) (σ : mo_M) (Q : mo_Q) (a c v : Int32) (x n D N : Nat) (B : Nat → Prop) (hv : v = 1) (hN : N ≤ 60) (hL : mo_le (σ.1 50 0 6) 200) (hin : ∀ u, u < (σ.1 50 0 6).toNatClampNeg → vp_in (σ.1 54 0 u) N ∧ vp_in (σ.1 55 0 u) N) (hsh : mo_sh (mo_lnk σ c 1) B (σ.1 81 0) N) (hx : x < N) (hr : σ.1 81 0 x = nI D) (hD : n ≤ D) (hD2 : D < 60) (hQ : Q (some (.inl (mo_pth (mo_lnk σ c 1) (σ.1 81 0) (nI x) n))) σ) : ∀ (d k : Nat), n < k + d → k ≤ n → (True) → mo_X g t_X12_way Q 126 [some (.inr (.inr (50, 0))), some (.inl a), some (.inl (nI x)), some (.inl c), some (.inl (nI n)), some (.inl v), some (.inr (.inr (81, 0))), some (.inl (mo_pth (mo_lnk σ c 1) (σ.1 81 0) (nI x) k)), some (.inl (nI k))] [] (σ) := by
  intro d
  induction d with
  | zero => intro k h1 h2; omega
  | succ d ih =>
    intro k h1 h2 hinv
    have hkc : (nI k).toNatClampNeg = k := mo_cl (by omega)
    obtain ⟨y, hy1, hy2, hy3⟩ := mo_pth_ok hsh hN (fun p q hpq => (mo_lnk_in (n := (σ.1 50 0 6).toNatClampNeg) hL.1 hin hpq hL.2).2) hx hr hD2 k (by omega)
    refine mo_go ok_X12_way (cs_X12_way_ok g) [126] 90 ?_
    intro K hK
    refine And.intro (fun (c1 : (nI n) ≤ (nI k)) => ?_) (fun (c1 : ¬ (nI n) ≤ (nI k)) => ?_)
    · have hk : n ≤ k := mo_cge rfl (by omega) (by omega) c1
      (have e : k = n := (by omega); subst e; exact hQ)
    · have hk : k < n := mo_clt rfl (by omega) (by omega) c1
      refine And.intro (fun (c2 : ¬ v = (1 : Int32)) => ?_) (fun (c2 : v = (1 : Int32)) => ?_)
      · exact absurd c2 (by rw [hv]; decide)
      · refine Or.inr ?_
        refine Exists.intro (mo_pth (mo_lnk σ c 1) (σ.1 81 0) (nI x) k) (Exists.intro c (Exists.intro (1 : Int32) (And.intro rfl (And.intro (show (mo_le (σ.1 50 0 6) 200 ∧ ∀ k_, k_ < (σ.1 50 0 6).toNatClampNeg → vp_in (σ.1 55 0 k_) 60) ∧ vp_in (mo_pth (mo_lnk σ c 1) (σ.1 81 0) (nI x) k) 60 by exact ⟨⟨hL, fun u hu => mo_inw (hin u hu).2 hN⟩, (by rw [hy2]; exact mo_inN (by omega) (by decide))⟩) ?_))))
        (have hih := ih (k + 1) (by omega) (by omega) trivial; rw [nI_succ, show mo_pth (mo_lnk σ c 1) (σ.1 81 0) (nI x) (k + 1) = mo_nxf 81 σ (mo_pth (mo_lnk σ c 1) (σ.1 81 0) (nI x) k) c 1 from (by show mo_nxt _ _ (mo_pth (mo_lnk σ c 1) (σ.1 81 0) (nI x) k).toNatClampNeg = _; rw [hy2, mo_cl (by omega)]; exact (mo_nx_eq 81 σ y N c 1 hy1 hN hL hin).symm)] at hih; exact hK _ _ _ _ hih)
/-- the first steps of the two rows of distances, as the reference walks them -/
theorem mo_way0 {E : Nat → Nat → Prop} {B : Nat → Prop} {r : Nat → Int32} {N : Nat} {m : Int32} (h : mo_sh E B r N) (hm : vp_in m N) (h0 : ¬ r m.toNatClampNeg = -1) : ∃ D, D < 60 ∧ r m.toNatClampNeg = nI D := by
  rcases h _ (mo_inI hm).2 with ⟨q, -⟩ | ⟨d, h1, h2, -, -⟩
  · exact absurd q h0
  · exact ⟨d, h1, h2⟩
theorem mo_hof2 {σ : mo_M} {m : Int32} (h : mo_hof σ m = 2) : ¬ σ.1 80 0 m.toNatClampNeg = -1 := by
  unfold mo_hof at h
  split at h
  · assumption
  · split at h <;> exact absurd h (by decide)
theorem mo_hof1 {σ : mo_M} {m : Int32} (h : mo_hof σ m = 1) : ¬ σ.1 81 0 m.toNatClampNeg = -1 := by
  unfold mo_hof at h
  split at h
  · exact absurd h (by decide)
  · split at h
    · assumption
    · exact absurd h (by decide)
theorem mo_pI {x : Int32} (h : 0 ≤ x) : x = nI x.toNatClampNeg := by
  obtain ⟨j, hj, rfl⟩ := nI_of (Int32.not_lt.mpr h)
  rw [nI_clamp hj]
def S_X12_way : mo_S := fun as σ Q => ∃ a : Int32, ∃ b : Int32, ∃ c : Int32, ∃ f : Int32, as = [.inr (.inr (50, 0)), .inl a, .inl b, .inl c, .inl f] ∧ ((¬ (0 ≤ a ∧ a ≤ σ.1 50 0 36 - 1) → Q (some (.inl (-1 : Int32))) (σ)) ∧ (0 ≤ a ∧ a ≤ σ.1 50 0 36 - 1 → ((¬ (0 ≤ b ∧ b ≤ σ.1 50 0 2 - 1) → Q (some (.inl (-1 : Int32))) (σ)) ∧ (0 ≤ b ∧ b ≤ σ.1 50 0 2 - 1 → ((¬ (0 ≤ c ∧ c ≤ (10000 : Int32)) → Q (some (.inl (-1 : Int32))) (σ)) ∧ (0 ≤ c ∧ c ≤ (10000 : Int32) → (((-1 : Int32) ≤ f → ((mo_hP σ a) ∧ (∀ r1 : Nat → Int32, ∀ q1 : Nat → Int32, (mo_hC σ a c r1 q1) → ((vp_in b 60) ∧ ((¬ f = (-1 : Int32) → ((¬ (mo_hof (mo_hM σ c r1 q1) b) = 0 → ((¬ (mo_hof (mo_hM σ c r1 q1) b) = (2 : Int32) → (vp_in b 60 ∧ ((f ≤ ((mo_hM σ c r1 q1).1 81 0 b.toNatClampNeg) → ((∃ B : Nat → Prop, mo_le ((mo_hM σ c r1 q1).1 50 0 6) 200 ∧ (∀ u, u < ((mo_hM σ c r1 q1).1 50 0 6).toNatClampNeg → vp_in ((mo_hM σ c r1 q1).1 54 0 u) ((mo_hM σ c r1 q1).1 50 0 2).toNatClampNeg ∧ vp_in ((mo_hM σ c r1 q1).1 55 0 u) ((mo_hM σ c r1 q1).1 50 0 2).toNatClampNeg) ∧ mo_sh (mo_lnk (mo_hM σ c r1 q1) c 1) B ((mo_hM σ c r1 q1).1 81 0) ((mo_hM σ c r1 q1).1 50 0 2).toNatClampNeg ∧ vp_in b ((mo_hM σ c r1 q1).1 50 0 2).toNatClampNeg ∧ ((mo_hM σ c r1 q1).1 50 0 2).toNatClampNeg ≤ 60 ∧ mo_hof (mo_hM σ c r1 q1) b = 1 ∧ 0 ≤ f) ∧ Q (some (.inl (mo_pth (mo_lnk (mo_hM σ c r1 q1) c 1) ((mo_hM σ c r1 q1).1 81 0) b f.toNatClampNeg))) (mo_hM σ c r1 q1))) ∧ (¬ f ≤ ((mo_hM σ c r1 q1).1 81 0 b.toNatClampNeg) → Q (some (.inl (-1 : Int32))) (mo_hM σ c r1 q1))))) ∧ ((mo_hof (mo_hM σ c r1 q1) b) = (2 : Int32) → (vp_in b 60 ∧ ((f ≤ ((mo_hM σ c r1 q1).1 80 0 b.toNatClampNeg) → ((∃ B : Nat → Prop, mo_le ((mo_hM σ c r1 q1).1 50 0 6) 200 ∧ (∀ u, u < ((mo_hM σ c r1 q1).1 50 0 6).toNatClampNeg → vp_in ((mo_hM σ c r1 q1).1 54 0 u) ((mo_hM σ c r1 q1).1 50 0 2).toNatClampNeg ∧ vp_in ((mo_hM σ c r1 q1).1 55 0 u) ((mo_hM σ c r1 q1).1 50 0 2).toNatClampNeg) ∧ mo_sh (mo_lnk (mo_hM σ c r1 q1) c 0) B ((mo_hM σ c r1 q1).1 80 0) ((mo_hM σ c r1 q1).1 50 0 2).toNatClampNeg ∧ vp_in b ((mo_hM σ c r1 q1).1 50 0 2).toNatClampNeg ∧ ((mo_hM σ c r1 q1).1 50 0 2).toNatClampNeg ≤ 60 ∧ mo_hof (mo_hM σ c r1 q1) b = 2 ∧ 0 ≤ f) ∧ Q (some (.inl (mo_pth (mo_lnk (mo_hM σ c r1 q1) c 0) ((mo_hM σ c r1 q1).1 80 0) b f.toNatClampNeg))) (mo_hM σ c r1 q1))) ∧ (¬ f ≤ ((mo_hM σ c r1 q1).1 80 0 b.toNatClampNeg) → Q (some (.inl (-1 : Int32))) (mo_hM σ c r1 q1))))))) ∧ ((mo_hof (mo_hM σ c r1 q1) b) = 0 → Q (some (.inl (-1 : Int32))) (mo_hM σ c r1 q1)))) ∧ (f = (-1 : Int32) → ((¬ (mo_hof (mo_hM σ c r1 q1) b) = 0 → ((¬ (mo_hof (mo_hM σ c r1 q1) b) = (2 : Int32) → (vp_in b 60 ∧ Q (some (.inl ((1 : Int32) + ((mo_hM σ c r1 q1).1 81 0 b.toNatClampNeg)))) (mo_hM σ c r1 q1))) ∧ ((mo_hof (mo_hM σ c r1 q1) b) = (2 : Int32) → (vp_in b 60 ∧ Q (some (.inl ((1 : Int32) + ((mo_hM σ c r1 q1).1 80 0 b.toNatClampNeg)))) (mo_hM σ c r1 q1))))) ∧ ((mo_hof (mo_hM σ c r1 q1) b) = 0 → Q (some (.inl (0 : Int32))) (mo_hM σ c r1 q1))))))))) ∧ (¬ (-1 : Int32) ≤ f → Q (some (.inl (-1 : Int32))) (σ)))))))))
theorem m_X12_way : ∀ (as : List mo_V) (σ : mo_M) (P P' : mo_Q), (∀ x τ, P x τ → P' x τ) → S_X12_way as σ P → S_X12_way as σ P' := by
  rintro as σ P P' hm ⟨a, b, c, f, e, hq⟩
  exact ⟨a, b, c, f, e, ⟨fun c1 => hm _ _ (hq.1 c1), fun c1 => ⟨fun c2 => hm _ _ ((hq.2 c1).1 c2), fun c2 => ⟨fun c3 => hm _ _ (((hq.2 c1).2 c2).1 c3), fun c3 => ⟨fun c4 => ⟨((((hq.2 c1).2 c2).2 c3).1 c4).1, fun r1 q1 hr1 => ⟨(((((hq.2 c1).2 c2).2 c3).1 c4).2 r1 q1 hr1).1, ⟨fun c5 => ⟨fun c6 => ⟨fun c7 => ⟨((((((((hq.2 c1).2 c2).2 c3).1 c4).2 r1 q1 hr1).2.1 c5).1 c6).1 c7).1, ⟨fun c8 => ⟨(((((((((hq.2 c1).2 c2).2 c3).1 c4).2 r1 q1 hr1).2.1 c5).1 c6).1 c7).2.1 c8).1, hm _ _ (((((((((hq.2 c1).2 c2).2 c3).1 c4).2 r1 q1 hr1).2.1 c5).1 c6).1 c7).2.1 c8).2⟩, fun c8 => hm _ _ (((((((((hq.2 c1).2 c2).2 c3).1 c4).2 r1 q1 hr1).2.1 c5).1 c6).1 c7).2.2 c8)⟩⟩, fun c7 => ⟨((((((((hq.2 c1).2 c2).2 c3).1 c4).2 r1 q1 hr1).2.1 c5).1 c6).2 c7).1, ⟨fun c8 => ⟨(((((((((hq.2 c1).2 c2).2 c3).1 c4).2 r1 q1 hr1).2.1 c5).1 c6).2 c7).2.1 c8).1, hm _ _ (((((((((hq.2 c1).2 c2).2 c3).1 c4).2 r1 q1 hr1).2.1 c5).1 c6).2 c7).2.1 c8).2⟩, fun c8 => hm _ _ (((((((((hq.2 c1).2 c2).2 c3).1 c4).2 r1 q1 hr1).2.1 c5).1 c6).2 c7).2.2 c8)⟩⟩⟩, fun c6 => hm _ _ (((((((hq.2 c1).2 c2).2 c3).1 c4).2 r1 q1 hr1).2.1 c5).2 c6)⟩, fun c5 => ⟨fun c6 => ⟨fun c7 => ⟨((((((((hq.2 c1).2 c2).2 c3).1 c4).2 r1 q1 hr1).2.2 c5).1 c6).1 c7).1, hm _ _ ((((((((hq.2 c1).2 c2).2 c3).1 c4).2 r1 q1 hr1).2.2 c5).1 c6).1 c7).2⟩, fun c7 => ⟨((((((((hq.2 c1).2 c2).2 c3).1 c4).2 r1 q1 hr1).2.2 c5).1 c6).2 c7).1, hm _ _ ((((((((hq.2 c1).2 c2).2 c3).1 c4).2 r1 q1 hr1).2.2 c5).1 c6).2 c7).2⟩⟩, fun c6 => hm _ _ (((((((hq.2 c1).2 c2).2 c3).1 c4).2 r1 q1 hr1).2.2 c5).2 c6)⟩⟩⟩⟩, fun c4 => hm _ _ ((((hq.2 c1).2 c2).2 c3).2 c4)⟩⟩⟩⟩⟩
set_option maxRecDepth 20000 in
set_option maxHeartbeats 2000000 in
theorem ct_X12_way : mo_ct yX12_way t_X12_way S_X12_way := by
  refine mo_ct_of (by decide) rfl ?_
  rintro g as σ Q ⟨a, b, c, f, rfl, hQ⟩
  refine ⟨Nat.le_of_ble_eq_true rfl, mo_go ok_X12_way (cs_X12_way_ok g) [126] 90 ?_⟩
  intro K hK
  refine Exists.intro a (And.intro rfl (And.intro trivial ?_))
  refine And.intro (fun (c1 : (mo_bl (0 ≤ a ∧ a ≤ σ.1 50 0 36 - 1)) = 0) => ?_) (fun (c1 : ¬ (mo_bl (0 ≤ a ∧ a ≤ σ.1 50 0 36 - 1)) = 0) => ?_)
  · replace c1 : ¬ (0 ≤ a ∧ a ≤ σ.1 50 0 36 - 1) := mo_bl0.mp c1
    exact (hQ.1 c1)
  · replace c1 : 0 ≤ a ∧ a ≤ σ.1 50 0 36 - 1 := mo_blT c1
    refine Exists.intro b (And.intro rfl (And.intro trivial ?_))
    refine And.intro (fun (c2 : (mo_bl (0 ≤ b ∧ b ≤ σ.1 50 0 2 - 1)) = 0) => ?_) (fun (c2 : ¬ (mo_bl (0 ≤ b ∧ b ≤ σ.1 50 0 2 - 1)) = 0) => ?_)
    · replace c2 : ¬ (0 ≤ b ∧ b ≤ σ.1 50 0 2 - 1) := mo_bl0.mp c2
      exact ((hQ.2 c1).1 c2)
    · replace c2 : 0 ≤ b ∧ b ≤ σ.1 50 0 2 - 1 := mo_blT c2
      refine Exists.intro c (And.intro rfl (And.intro trivial ?_))
      refine And.intro (fun (c3 : (mo_bl (0 ≤ c ∧ c ≤ (10000 : Int32))) = 0) => ?_) (fun (c3 : ¬ (mo_bl (0 ≤ c ∧ c ≤ (10000 : Int32))) = 0) => ?_)
      · replace c3 : ¬ (0 ≤ c ∧ c ≤ (10000 : Int32)) := mo_bl0.mp c3
        exact (((hQ.2 c1).2 c2).1 c3)
      · replace c3 : 0 ≤ c ∧ c ≤ (10000 : Int32) := mo_blT c3
        refine And.intro (fun (c4 : (-1 : Int32) ≤ f) => ?_) (fun (c4 : ¬ (-1 : Int32) ≤ f) => ?_)
        · refine Exists.intro a (Exists.intro c (And.intro rfl (And.intro (show mo_hP σ a from ((((hQ.2 c1).2 c2).2 c3).1 c4).1) ?_)))
          intro r1 q1 hr1
          refine Exists.intro b (And.intro rfl (And.intro (show vp_in b 60 from (((((hQ.2 c1).2 c2).2 c3).1 c4).2 r1 q1 hr1).1) ?_))
          refine And.intro (fun (c5 : ¬ f = (-1 : Int32)) => ?_) (fun (c5 : f = (-1 : Int32)) => ?_)
          · refine And.intro (fun (c6 : ¬ (mo_hof (mo_hM σ c r1 q1) b) = 0) => ?_) (fun (c6 : (mo_hof (mo_hM σ c r1 q1) b) = 0) => ?_)
            · refine And.intro (fun (c7 : ¬ (mo_hof (mo_hM σ c r1 q1) b) = (2 : Int32)) => ?_) (fun (c7 : (mo_hof (mo_hM σ c r1 q1) b) = (2 : Int32)) => ?_)
              · refine And.intro (show vp_in b 60 from ((((((((hQ.2 c1).2 c2).2 c3).1 c4).2 r1 q1 hr1).2.1 c5).1 c6).1 c7).1) ?_
                refine And.intro (fun (c8 : f ≤ ((mo_hM σ c r1 q1).1 81 0 b.toNatClampNeg)) => ?_) (fun (c8 : ¬ f ≤ ((mo_hM σ c r1 q1).1 81 0 b.toNatClampNeg)) => ?_)
                · obtain ⟨⟨BB, w1, w2, w3, w4, w5, w6, w7⟩, w8⟩ := (((((((((hQ.2 c1).2 c2).2 c3).1 c4).2 r1 q1 hr1).2.1 c5).1 c6).1 c7).2.1 c8)
                  have wb := mo_inI w4
                  obtain ⟨D, wD, wr⟩ := mo_way0 w3 w4 (by first | exact mo_hof2 w6 | exact mo_hof1 w6)
                  have wf : f = nI f.toNatClampNeg := mo_pI w7
                  have wl : f.toNatClampNeg ≤ D := by
                    have z1 : f ≤ nI D := by rw [← wr]; exact Int32.not_lt.mp (by first | exact c8 | exact Int32.not_lt.mpr c8)
                    rw [wf, nI_leI (by have := f.toNatClampNeg_lt; omega) (by omega)] at z1
                    exact z1
                  have h0 := lp_X12_way81 g (mo_hM σ c r1 q1) Q a c _ b.toNatClampNeg f.toNatClampNeg D _ BB w6 w5 w1 w2 w3 wb.2 wr wl wD (by rw [← wb.1]; exact w8) (f.toNatClampNeg + 1) 0 (by omega) (by omega) trivial
                  rw [← wf, ← wb.1, show mo_pth (mo_lnk (mo_hM σ c r1 q1) c 1) ((mo_hM σ c r1 q1).1 81 0) b 0 = b from rfl] at h0
                  exact hK _ _ _ _ h0
                · exact (((((((((hQ.2 c1).2 c2).2 c3).1 c4).2 r1 q1 hr1).2.1 c5).1 c6).1 c7).2.2 c8)
              · refine And.intro (show vp_in b 60 from ((((((((hQ.2 c1).2 c2).2 c3).1 c4).2 r1 q1 hr1).2.1 c5).1 c6).2 c7).1) ?_
                refine And.intro (fun (c8 : f ≤ ((mo_hM σ c r1 q1).1 80 0 b.toNatClampNeg)) => ?_) (fun (c8 : ¬ f ≤ ((mo_hM σ c r1 q1).1 80 0 b.toNatClampNeg)) => ?_)
                · obtain ⟨⟨BB, w1, w2, w3, w4, w5, w6, w7⟩, w8⟩ := (((((((((hQ.2 c1).2 c2).2 c3).1 c4).2 r1 q1 hr1).2.1 c5).1 c6).2 c7).2.1 c8)
                  have wb := mo_inI w4
                  obtain ⟨D, wD, wr⟩ := mo_way0 w3 w4 (by first | exact mo_hof2 w6 | exact mo_hof1 w6)
                  have wf : f = nI f.toNatClampNeg := mo_pI w7
                  have wl : f.toNatClampNeg ≤ D := by
                    have z1 : f ≤ nI D := by rw [← wr]; exact Int32.not_lt.mp (by first | exact c8 | exact Int32.not_lt.mpr c8)
                    rw [wf, nI_leI (by have := f.toNatClampNeg_lt; omega) (by omega)] at z1
                    exact z1
                  have h0 := lp_X12_way80 g (mo_hM σ c r1 q1) Q a c _ b.toNatClampNeg f.toNatClampNeg D _ BB w6 w5 w1 w2 w3 wb.2 wr wl wD (by rw [← wb.1]; exact w8) (f.toNatClampNeg + 1) 0 (by omega) (by omega) trivial
                  rw [← wf, ← wb.1, show mo_pth (mo_lnk (mo_hM σ c r1 q1) c 0) ((mo_hM σ c r1 q1).1 80 0) b 0 = b from rfl] at h0
                  exact hK _ _ _ _ h0
                · exact (((((((((hQ.2 c1).2 c2).2 c3).1 c4).2 r1 q1 hr1).2.1 c5).1 c6).2 c7).2.2 c8)
            · exact (((((((hQ.2 c1).2 c2).2 c3).1 c4).2 r1 q1 hr1).2.1 c5).2 c6)
          · refine And.intro (fun (c6 : ¬ (mo_hof (mo_hM σ c r1 q1) b) = 0) => ?_) (fun (c6 : (mo_hof (mo_hM σ c r1 q1) b) = 0) => ?_)
            · refine And.intro (fun (c7 : ¬ (mo_hof (mo_hM σ c r1 q1) b) = (2 : Int32)) => ?_) (fun (c7 : (mo_hof (mo_hM σ c r1 q1) b) = (2 : Int32)) => ?_)
              · refine And.intro (show vp_in b 60 from ((((((((hQ.2 c1).2 c2).2 c3).1 c4).2 r1 q1 hr1).2.2 c5).1 c6).1 c7).1) ?_
                exact ((((((((hQ.2 c1).2 c2).2 c3).1 c4).2 r1 q1 hr1).2.2 c5).1 c6).1 c7).2
              · refine And.intro (show vp_in b 60 from ((((((((hQ.2 c1).2 c2).2 c3).1 c4).2 r1 q1 hr1).2.2 c5).1 c6).2 c7).1) ?_
                exact ((((((((hQ.2 c1).2 c2).2 c3).1 c4).2 r1 q1 hr1).2.2 c5).1 c6).2 c7).2
            · exact (((((((hQ.2 c1).2 c2).2 c3).1 c4).2 r1 q1 hr1).2.2 c5).2 c6)
        · exact ((((hQ.2 c1).2 c2).2 c3).2 c4)
noncomputable def mo_rec (σ : mo_M) (a b c : Int32) : Nat → Int32 × Int32 := mo_fo (fun k (p : Int32 × Int32) => mo_ite (¬ mo_hasf σ (nI k) b c = 0 ∧ ¬ p.1 >>> (nI k &&& 31) &&& 1 = 1) (p.1 ||| (1 : Int32) <<< (nI k &&& 31), p.2 + 1) p) (σ.1 78 0 a.toNatClampNeg, 0)
theorem mo_wIg (σ : mo_M) (o w k : Nat) (v : Int32) : (mo_wI σ o w k v).1 o w k = v := by
  show (if o = o ∧ w = w ∧ k = k then v else σ.1 o w k) = v
  rw [if_pos ⟨rfl, rfl, rfl⟩]
theorem mo_wIid (σ : mo_M) (o w k : Nat) : mo_wI σ o w k (σ.1 o w k) = σ := by
  refine Prod.ext ?_ rfl
  funext a b c
  show (if a = o ∧ b = w ∧ c = k then σ.1 o w k else σ.1 a b c) = σ.1 a b c
  by_cases h : a = o ∧ b = w ∧ c = k
  · rw [if_pos h, h.1, h.2.1, h.2.2]
  · rw [if_neg h]
def cs_X12_recall : Nat → mo_C := fun j => match j with
  | 0 => (1, false, 141, 50, S_X12_isDay)
  | 1 => (2, true, 122, 12, S_X12_ends)
  | 2 => (2, true, 249, 12, S_X12_isWarning)
  | 3 => (3, true, 259, 12, S_X12_hits)
  | 4 => (4, true, 272, 12, S_X12_hasOf)
  | _ => (0, false, 0, 50, fun _ _ _ => False)
theorem cs_X12_recall_ok (g : mo_E) : ∀ j, mo_cok g t_X12_recall (cs_X12_recall j) ∧ mo_mon (cs_X12_recall j) := by
  intro j
  unfold cs_X12_recall
  split
  · exact ⟨mo_cokS ct_X12_isDay (by decide +kernel), m_X12_isDay⟩
  · exact ⟨mo_cokV ct_X12_ends (by decide) ⟨_, _, rfl⟩ (by decide +kernel), m_X12_ends⟩
  · exact ⟨mo_cokV ct_X12_isWarning (by decide) ⟨_, _, rfl⟩ (by decide +kernel), m_X12_isWarning⟩
  · exact ⟨mo_cokV ct_X12_hits (by decide) ⟨_, _, rfl⟩ (by decide +kernel), m_X12_hits⟩
  · exact ⟨mo_cokV ct_X12_hasOf (by decide) ⟨_, _, rfl⟩ (by decide +kernel), m_X12_hasOf⟩
  · exact ⟨mo_cok0 g _, mo_mon0⟩
set_option maxRecDepth 20000 in
set_option maxHeartbeats 2000000 in
theorem lp_X12_recall (g : mo_E) (σ : mo_M) (Q : mo_Q) (a b c : Int32) (n : Nat) (hn : (30 : Int32) = nI n) (hle : n ≤ 30) (ha : vp_in a 20) (hp : mo_le (σ.1 50 0 12) 100 ∧ ∀ k, k < (σ.1 50 0 12).toNatClampNeg → vp_in (σ.1 60 0 k) 60) (hQ : Q (some (.inl (mo_rec σ a b c n).2)) (mo_wI (mo_wI σ 78 0 a.toNatClampNeg (mo_rec σ a b c n).1) 50 0 0 (if (mo_rec σ a b c n).2 < 0 then (mo_rec σ a b c n).2 else 0))) : ∀ (d k : Nat), n < k + d → k ≤ n → (True) → mo_X g t_X12_recall Q 47 [some (.inr (.inr (50, 0))), some (.inl a), some (.inl b), some (.inl c), some (.inl ((mo_rec σ a b c k).2)), some (.inl (nI k))] [] (mo_wI σ 78 0 a.toNatClampNeg ((mo_rec σ a b c k).1)) := by
  intro d
  induction d with
  | zero => intro k h1 h2; omega
  | succ d ih =>
    intro k h1 h2 hinv
    have hkc : (nI k).toNatClampNeg = k := mo_cl (by omega)
    refine mo_go ok_X12_recall (cs_X12_recall_ok g) [47] 64 ?_
    intro K hK
    refine And.intro (fun (c1 : (30 : Int32) ≤ (nI k)) => ?_) (fun (c1 : ¬ (30 : Int32) ≤ (nI k)) => ?_)
    · have hk : n ≤ k := mo_cge hn (by omega) (by omega) c1
      refine Exists.intro ((mo_rec σ a b c k).2) (And.intro rfl (And.intro (show True by trivial) ?_))
      (have e : k = n := (by omega); subst e; exact hQ)
    · have hk : k < n := mo_clt hn (by omega) (by omega) c1
      refine Exists.intro (nI k) (Exists.intro b (Exists.intro c (And.intro rfl (And.intro (show mo_le (σ.1 50 0 12) 100 ∧ ∀ k_, k_ < (σ.1 50 0 12).toNatClampNeg → vp_in (σ.1 60 0 k_) 60 by exact hp) ?_))))
      refine And.intro (fun (c2 : (mo_hasf (mo_wI σ 78 0 a.toNatClampNeg ((mo_rec σ a b c k).1)) (nI k) b c) = 0) => ?_) (fun (c2 : ¬ (mo_hasf (mo_wI σ 78 0 a.toNatClampNeg ((mo_rec σ a b c k).1)) (nI k) b c) = 0) => ?_)
      · (have hih := ih (k + 1) (by omega) (by omega) trivial; have e : mo_rec σ a b c (k + 1) = mo_rec σ a b c k := mo_ite_f (fun q => q.1 c2); rw [nI_succ, e] at hih; exact hK _ _ _ _ hih)
      · refine And.intro (show vp_in a 20 by exact ha) ?_
        refine And.intro (fun (c3 : ¬ ((((mo_wI σ 78 0 a.toNatClampNeg ((mo_rec σ a b c k).1)).1 78 0 a.toNatClampNeg) >>> ((nI k) &&& 31)) &&& (1 : Int32)) = (1 : Int32)) => ?_) (fun (c3 : ((((mo_wI σ 78 0 a.toNatClampNeg ((mo_rec σ a b c k).1)).1 78 0 a.toNatClampNeg) >>> ((nI k) &&& 31)) &&& (1 : Int32)) = (1 : Int32)) => ?_)
        · refine And.intro (show vp_in a 20 by exact ha) ?_
          refine And.intro (show vp_in a 20 by exact ha) ?_
          (simp only [mo_wIg] at c3; have hih := ih (k + 1) (by omega) (by omega) trivial; have e : mo_rec σ a b c (k + 1) = ((mo_rec σ a b c k).1 ||| (1 : Int32) <<< (nI k &&& 31), (mo_rec σ a b c k).2 + 1) := mo_ite_t ⟨c2, c3⟩; rw [nI_succ, e] at hih; refine hK _ _ _ _ (show mo_X g t_X12_recall Q 47 [some (.inr (.inr (50, 0))), some (.inl a), some (.inl b), some (.inl c), some (.inl (((mo_rec σ a b c k).2) + (1 : Int32))), some (.inl ((nI k) + (1 : Int32)))] [] (mo_wI (mo_wI σ 78 0 a.toNatClampNeg ((mo_rec σ a b c k).1)) 78 0 a.toNatClampNeg (((mo_wI σ 78 0 a.toNatClampNeg ((mo_rec σ a b c k).1)).1 78 0 a.toNatClampNeg) ||| ((1 : Int32) <<< ((nI k) &&& 31)))) from ?_); rw [mo_wIwI, mo_wIg]; exact hih)
        · (simp only [mo_wIg] at c3; have hih := ih (k + 1) (by omega) (by omega) trivial; have e : mo_rec σ a b c (k + 1) = mo_rec σ a b c k := mo_ite_f (fun q => q.2 c3); rw [nI_succ, e] at hih; exact hK _ _ _ _ hih)
def S_X12_recall : mo_S := fun as σ Q => ∃ a : Int32, ∃ b : Int32, ∃ c : Int32, as = [.inr (.inr (50, 0)), .inl a, .inl b, .inl c] ∧ ((¬ (0 ≤ b ∧ b ≤ (10000 : Int32)) → Q (some (.inl (-1 : Int32))) (mo_wI σ 50 0 0 (if (-1 : Int32) < 0 then (-1 : Int32) else 0))) ∧ (0 ≤ b ∧ b ≤ (10000 : Int32) → ((0 ≤ c ∧ c ≤ (10000 : Int32) → ((0 ≤ a ∧ a ≤ σ.1 50 0 36 - 1 → ((mo_hP σ a) ∧ (∀ r1 : Nat → Int32, ∀ q1 : Nat → Int32, (mo_hC σ a c r1 q1) → ((vp_in a 20 ∧ (mo_le ((mo_hM σ c r1 q1).1 50 0 12) 100 ∧ ∀ k, k < ((mo_hM σ c r1 q1).1 50 0 12).toNatClampNeg → vp_in ((mo_hM σ c r1 q1).1 60 0 k) 60)) ∧ Q (some (.inl (mo_rec (mo_hM σ c r1 q1) a b c 30).2)) (mo_wI (mo_wI (mo_hM σ c r1 q1) 78 0 a.toNatClampNeg (mo_rec (mo_hM σ c r1 q1) a b c 30).1) 50 0 0 (if (mo_rec (mo_hM σ c r1 q1) a b c 30).2 < 0 then (mo_rec (mo_hM σ c r1 q1) a b c 30).2 else 0)))))) ∧ (¬ (0 ≤ a ∧ a ≤ σ.1 50 0 36 - 1) → Q (some (.inl (-2 : Int32))) (mo_wI σ 50 0 0 (if (-2 : Int32) < 0 then (-2 : Int32) else 0))))) ∧ (¬ (0 ≤ c ∧ c ≤ (10000 : Int32)) → Q (some (.inl (-1 : Int32))) (mo_wI σ 50 0 0 (if (-1 : Int32) < 0 then (-1 : Int32) else 0))))))
theorem m_X12_recall : ∀ (as : List mo_V) (σ : mo_M) (P P' : mo_Q), (∀ x τ, P x τ → P' x τ) → S_X12_recall as σ P → S_X12_recall as σ P' := by
  rintro as σ P P' hm ⟨a, b, c, e, hq⟩
  exact ⟨a, b, c, e, ⟨fun c1 => hm _ _ (hq.1 c1), fun c1 => ⟨fun c2 => ⟨fun c3 => ⟨(((hq.2 c1).1 c2).1 c3).1, fun r1 q1 hr1 => ⟨((((hq.2 c1).1 c2).1 c3).2 r1 q1 hr1).1, hm _ _ ((((hq.2 c1).1 c2).1 c3).2 r1 q1 hr1).2⟩⟩, fun c3 => hm _ _ (((hq.2 c1).1 c2).2 c3)⟩, fun c2 => hm _ _ ((hq.2 c1).2 c2)⟩⟩⟩
set_option maxRecDepth 20000 in
set_option maxHeartbeats 2000000 in
theorem ct_X12_recall : mo_ct yX12_recall t_X12_recall S_X12_recall := by
  refine mo_ct_of (by decide) rfl ?_
  rintro g as σ Q ⟨a, b, c, rfl, hQ⟩
  refine ⟨Nat.le_of_ble_eq_true rfl, mo_go ok_X12_recall (cs_X12_recall_ok g) [47] 64 ?_⟩
  intro K hK
  refine Exists.intro b (And.intro rfl (And.intro trivial ?_))
  refine And.intro (fun (c1 : (mo_bl (0 ≤ b ∧ b ≤ (10000 : Int32))) = 0) => ?_) (fun (c1 : ¬ (mo_bl (0 ≤ b ∧ b ≤ (10000 : Int32))) = 0) => ?_)
  · replace c1 : ¬ (0 ≤ b ∧ b ≤ (10000 : Int32)) := mo_bl0.mp c1
    refine Exists.intro (-1 : Int32) (And.intro rfl (And.intro trivial ?_))
    exact (hQ.1 c1)
  · replace c1 : 0 ≤ b ∧ b ≤ (10000 : Int32) := mo_blT c1
    refine Exists.intro c (And.intro rfl (And.intro trivial ?_))
    refine And.intro (fun (c2 : ¬ (mo_bl (0 ≤ c ∧ c ≤ (10000 : Int32))) = 0) => ?_) (fun (c2 : (mo_bl (0 ≤ c ∧ c ≤ (10000 : Int32))) = 0) => ?_)
    · replace c2 : 0 ≤ c ∧ c ≤ (10000 : Int32) := mo_blT c2
      refine Exists.intro a (And.intro rfl (And.intro trivial ?_))
      refine And.intro (fun (c3 : ¬ (mo_bl (0 ≤ a ∧ a ≤ σ.1 50 0 36 - 1)) = 0) => ?_) (fun (c3 : (mo_bl (0 ≤ a ∧ a ≤ σ.1 50 0 36 - 1)) = 0) => ?_)
      · replace c3 : 0 ≤ a ∧ a ≤ σ.1 50 0 36 - 1 := mo_blT c3
        refine Exists.intro a (Exists.intro c (And.intro rfl (And.intro (show mo_hP σ a from (((hQ.2 c1).1 c2).1 c3).1) ?_)))
        intro r1 q1 hr1
        have h0 := lp_X12_recall g (mo_hM σ c r1 q1) Q a b c 30 rfl (by omega) ((((hQ.2 c1).1 c2).1 c3).2 r1 q1 hr1).1.1 ((((hQ.2 c1).1 c2).1 c3).2 r1 q1 hr1).1.2 ((((hQ.2 c1).1 c2).1 c3).2 r1 q1 hr1).2 31 0 (by omega) (by omega) trivial
        rw [show mo_wI (mo_hM σ c r1 q1) 78 0 a.toNatClampNeg (mo_rec (mo_hM σ c r1 q1) a b c 0).1 = (mo_hM σ c r1 q1) from mo_wIid _ _ _ _] at h0
        exact hK _ _ _ _ h0
      · replace c3 : ¬ (0 ≤ a ∧ a ≤ σ.1 50 0 36 - 1) := mo_bl0.mp c3
        refine Exists.intro (-2 : Int32) (And.intro rfl (And.intro trivial ?_))
        exact (((hQ.2 c1).1 c2).2 c3)
    · replace c2 : ¬ (0 ≤ c ∧ c ≤ (10000 : Int32)) := mo_bl0.mp c2
      refine Exists.intro (-1 : Int32) (And.intro rfl (And.intro trivial ?_))
      exact ((hQ.2 c1).2 c2)
