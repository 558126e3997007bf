/-- one ring of a spread: what is reached, the ring, the rows of rings, how many -/
noncomputable def mo_spS (σ : mo_M) (s : Int64 × Int64 × (Nat → Int64) × Nat) : Int64 × Int64 × (Nat → Int64) × Nat := mo_ite (s.2.1 = 0) s (s.1 ||| s.2.1, (mo_fo (fun k a => mo_ite (¬ (σ.2 34 0 k &&& s.2.1) = 0) (a ||| (1 : Int64) <<< ((nI k).toInt64 &&& 63)) a) 0 60) &&& ((s.1 ||| s.2.1) ^^^ (-1 : Int64)), vp_updL s.2.2.1 s.2.2.2 s.2.1, s.2.2.2 + 1)
noncomputable def mo_spr (σ : mo_M) (g : Int64) : Nat → Int64 × Int64 × (Nat → Int64) × Nat := mo_fo (fun _ s => mo_spS σ s) (0, g, σ.2 35 0, 0)
theorem mo_spr_st {σ : mo_M} {g : Int64} {k : Nat} (h : (mo_spr σ g k).2.1 = 0) : ∀ m, mo_spr σ g (k + m) = mo_spr σ g k
  | 0 => rfl
  | m + 1 => by
    have e : mo_spr σ g (k + (m + 1)) = mo_spS σ (mo_spr σ g (k + m)) := rfl
    rw [e, mo_spr_st h m]
    exact mo_ite_t h
theorem mo_wIwI (σ : mo_M) (o w k : Nat) (v v' : Int32) : mo_wI (mo_wI σ o w k v) o w k v' = mo_wI σ o w k v' := by
  refine Prod.ext ?_ rfl
  funext a b c
  show (if a = o ∧ b = w ∧ c = k then v' else if a = o ∧ b = w ∧ c = k then v else σ.1 a b c) = if a = o ∧ b = w ∧ c = k then v' else σ.1 a b c
  by_cases h : a = o ∧ b = w ∧ c = k
  · rw [if_pos h, if_pos h]
  · rw [if_neg h, if_neg h, if_neg h]
theorem mo_wLwI (σ : mo_M) (o w k : Nat) (v : Int32) (o' w' k' : Nat) (v' : Int64) : mo_wL (mo_wI σ o w k v) o' w' k' v' = mo_wI (mo_wL σ o' w' k' v') o w k v := rfl
def S_X10_spread : mo_S := fun as σ Q => ∃ s : Int64, as = [.inr (.inr (33, 0)), .inr (.inl s)] ∧ (True) ∧ Q (some (.inr (.inl ((mo_spr σ s 60).1)))) (mo_wI (mo_rowL σ 35 0 (mo_spr σ s 60).2.2.1) 33 0 2 (nI (mo_spr σ s 60).2.2.2))
theorem m_X10_spread : ∀ (as : List mo_V) (σ : mo_M) (P P' : mo_Q), (∀ x τ, P x τ → P' x τ) → S_X10_spread as σ P → S_X10_spread as σ P' := by
  rintro as σ P P' h ⟨s, e, hp, hq⟩
  exact ⟨s, e, hp, h _ _ hq⟩
def cs_X10_spread : Nat → mo_C := fun j => match j with
  | 0 => (2, true, 47, 10, S_X10_holdersOf)
  | _ => (0, false, 0, 50, fun _ _ _ => False)
theorem cs_X10_spread_ok (g : mo_E) : ∀ j, mo_cok g t_X10_spread (cs_X10_spread j) ∧ mo_mon (cs_X10_spread j) := by
  intro j
  unfold cs_X10_spread
  split
  · exact ⟨mo_cokV ct_X10_holdersOf (by decide) ⟨_, _, rfl⟩ (by decide +kernel), m_X10_holdersOf⟩
  · exact ⟨mo_cok0 g _, mo_mon0⟩
set_option maxRecDepth 20000 in
set_option maxHeartbeats 2000000 in
theorem lp_X10_spread (g : mo_E) (σ : mo_M) (Q : mo_Q) (s : Int64) (n : Nat) (hle : n = 60) (hQ : Q (some (.inr (.inl (mo_spr σ s 60).1))) (mo_wI (mo_rowL σ 35 0 (mo_spr σ s 60).2.2.1) 33 0 2 (nI (mo_spr σ s 60).2.2.2))) : ∀ (d k : Nat), n < k + d → k ≤ n → ((mo_spr σ s k).2.2.2 = k) → mo_X g t_X10_spread Q 10 [some (.inr (.inr (33, 0))), some (.inr (.inl s)), none, some (.inr (.inl ((mo_spr σ s k).1))), none, some (.inr (.inl ((mo_spr σ s k).2.1))), none] [] (mo_wI (mo_rowL σ 35 0 ((mo_spr σ s k).2.2.1)) 33 0 2 (nI k)) := by
  intro d
  induction d with
  | zero => intro k h1 h2; omega
  | succ d ih =>
    intro k h1 h2 hinv
    have hkc : (nI k).toNatClampNeg = k := mo_cl (by omega)
    refine mo_go ok_X10_spread (cs_X10_spread_ok g) [10] 43 ?_
    intro K hK
    refine And.intro (fun (c1 : (lg_cmp ((mo_spr σ s k).2.1) (0 : Int64)) = 0) => ?_) (fun (c1 : ¬ (lg_cmp ((mo_spr σ s k).2.1) (0 : Int64)) = 0) => ?_)
    · (rw [lg_cmp_eq] at c1; have e : mo_spr σ s 60 = mo_spr σ s k := (by have e := mo_spr_st c1 (60 - k); rw [show k + (60 - k) = 60 from by omega] at e; exact e); rw [e, hinv] at hQ; exact hQ)
    · refine And.intro (fun (c2 : (60 : Int32) ≤ (nI k)) => ?_) (fun (c2 : ¬ (60 : Int32) ≤ (nI k)) => ?_)
      · (have e : k = 60 := (by rw [show (60 : Int32) = nI 60 from rfl, nI_leI (by omega) (by omega)] at c2; omega); subst e; rw [hinv] at hQ; exact hQ)
      · have hk : k < 60 := (by rw [show (60 : Int32) = nI 60 from rfl, nI_leI (by omega) (by omega)] at c2; omega)
        refine And.intro (show vp_in (nI k) 60 by exact mo_inN (by omega) (by decide)) ?_
        refine Exists.intro ((mo_spr σ s k).2.1) (And.intro rfl (And.intro (show True by trivial) ?_))
        (rw [lg_cmp_eq] at c1; have e : mo_spr σ s (k + 1) = ((mo_spr σ s k).1 ||| (mo_spr σ s k).2.1, (mo_fo (fun u a => mo_ite (¬ (σ.2 34 0 u &&& (mo_spr σ s k).2.1) = 0) (a ||| (1 : Int64) <<< ((nI u).toInt64 &&& 63)) a) 0 60) &&& (((mo_spr σ s k).1 ||| (mo_spr σ s k).2.1) ^^^ (-1 : Int64)), vp_updL (mo_spr σ s k).2.2.1 (mo_spr σ s k).2.2.2 (mo_spr σ s k).2.1, (mo_spr σ s k).2.2.2 + 1) := mo_ite_f c1; have hih := ih (k + 1) (by omega) (by omega) (by rw [e]; show (mo_spr σ s k).2.2.2 + 1 = k + 1; rw [hinv]); rw [e, hinv, nI_succ] at hih; refine hK _ _ _ _ (show mo_X g t_X10_spread Q 10 [some (.inr (.inr (33, 0))), some (.inr (.inl s)), none, some (.inr (.inl (((mo_spr σ s k).1) ||| ((mo_spr σ s k).2.1)))), none, some (.inr (.inl ((mo_fo (fun k_ a_ => mo_ite (¬ (σ.2 34 0 k_ &&& ((mo_spr σ s k).2.1)) = 0) (a_ ||| (1 : Int64) <<< ((nI k_).toInt64 &&& 63)) a_) 0 60) &&& ((((mo_spr σ s k).1) ||| ((mo_spr σ s k).2.1)) ^^^ (-1 : Int64))))), none] [] (mo_wI (mo_wL (mo_wI (mo_rowL σ 35 0 ((mo_spr σ s k).2.2.1)) 33 0 2 (nI k)) 35 0 ((nI k).toNatClampNeg) ((mo_spr σ s k).2.1)) 33 0 2 ((nI k) + (1 : Int32))) from ?_); rw [hkc, mo_wLwI, mo_wIwI, mo_rowL_w]; exact hih)
set_option maxRecDepth 20000 in
set_option maxHeartbeats 2000000 in
theorem ct_X10_spread : mo_ct yX10_spread t_X10_spread S_X10_spread := by
  refine mo_ct_of (by decide) rfl ?_
  rintro g as σ Q ⟨s, rfl, hpre, hQ⟩
  refine ⟨Nat.le_of_ble_eq_true rfl, mo_go ok_X10_spread (cs_X10_spread_ok g) [10] 43 ?_⟩
  intro K hK
  (have h0 := lp_X10_spread g σ Q s 60 rfl hQ 61 0 (by omega) (by omega) rfl; rw [show mo_rowL σ 35 0 (mo_spr σ s 0).2.2.1 = σ from mo_rowL_id σ 35 0] at h0; exact hK _ _ _ _ h0)
noncomputable def mo_layR (σ : mo_M) (day z : Int32) : Nat → Int64 := mo_fo (fun k r => mo_ite ((σ.1 10 0 k ≤ day ∧ day < σ.1 11 0 k) ∧ (¬ z = 0 ∨ ¬ σ.1 9 0 k = 3)) (vp_updL r (σ.1 7 0 k).toNatClampNeg (r (σ.1 7 0 k).toNatClampNeg ||| (1 : Int64) <<< ((σ.1 8 0 k).toInt64 &&& 63))) r) (mo_fo (fun k r => vp_updL r k 0) (σ.2 34 0) 60) (σ.1 6 0 5).toNatClampNeg
noncomputable def mo_badS (σ : mo_M) (a b : Int32) : Int64 := mo_bad σ ((mo_set1 σ b (σ.1 18 0 4).toNatClampNeg).1 (σ.1 39 a.toNatClampNeg 3).toNatClampNeg) a.toNatClampNeg (σ.1 3 0 2).toNatClampNeg
noncomputable def mo_grp (σ : mo_M) (b : Int32) : Nat → Int32 := (mo_set1 σ b (σ.1 18 0 4).toNatClampNeg).1
noncomputable def mo_hit (σ : mo_M) (a b z : Int32) : Int64 × Int64 × (Nat → Int64) × Nat := mo_spr (mo_rowL σ 34 0 (mo_layR σ b z)) (mo_badS σ a b) 60
def S_X11_hitMakes : mo_S := fun as σ Q => ∃ a : Int32, ∃ b : Int32, ∃ z : Int32, as = [.inr (.inr (0, 0)), .inl a, .inl b, .inl z] ∧ ((mo_le (σ.1 6 0 5) 200 ∧ ∀ k, k < (σ.1 6 0 5).toNatClampNeg → vp_in (σ.1 7 0 k) 60) ∧ ((mo_le (σ.1 18 0 4) 40 ∧ mo_le (σ.1 23 0 4) 40 ∧ ∀ k, k < (σ.1 18 0 4).toNatClampNeg → vp_in (σ.1 19 0 k) 30 ∧ vp_in (σ.1 20 0 k) 30) ∧ vp_in a 20 ∧ vp_in (σ.1 39 a.toNatClampNeg 3) 30 ∧ mo_le (σ.1 3 0 2) 60 ∧ mo_le (σ.1 39 a.toNatClampNeg 2) 30)) ∧ Q (some (.inr (.inl ((mo_hit σ a b z).1)))) (mo_wI (mo_rowL (mo_rowI (mo_rowL σ 34 0 (mo_layR σ b z)) 29 0 (mo_grp σ b)) 35 0 (mo_hit σ a b z).2.2.1) 33 0 2 (nI (mo_hit σ a b z).2.2.2))
theorem m_X11_hitMakes : ∀ (as : List mo_V) (σ : mo_M) (P P' : mo_Q), (∀ x τ, P x τ → P' x τ) → S_X11_hitMakes as σ P → S_X11_hitMakes as σ P' := by
  rintro as σ P P' h ⟨a, b, z, e, hp, hq⟩
  exact ⟨a, b, z, e, hp, h _ _ hq⟩
def cs_X11_hitMakes : Nat → mo_C := fun j => match j with
  | 0 => (4, true, 234, 10, S_X10_lay)
  | 1 => (3, true, 197, 11, S_X11_badMakes)
  | 2 => (2, true, 238, 10, S_X10_spread)
  | _ => (0, false, 0, 50, fun _ _ _ => False)
theorem cs_X11_hitMakes_ok (g : mo_E) : ∀ j, mo_cok g t_X11_hitMakes (cs_X11_hitMakes j) ∧ mo_mon (cs_X11_hitMakes j) := by
  intro j
  unfold cs_X11_hitMakes
  split
  · exact ⟨mo_cokV ct_X10_lay (by decide) ⟨_, _, rfl⟩ (by decide +kernel), m_X10_lay⟩
  · exact ⟨mo_cokV ct_X11_badMakes (by decide) ⟨_, _, rfl⟩ (by decide +kernel), m_X11_badMakes⟩
  · exact ⟨mo_cokV ct_X10_spread (by decide) ⟨_, _, rfl⟩ (by decide +kernel), m_X10_spread⟩
  · exact ⟨mo_cok0 g _, mo_mon0⟩
set_option maxRecDepth 20000 in
set_option maxHeartbeats 2000000 in
theorem ct_X11_hitMakes : mo_ct yX11_hitMakes t_X11_hitMakes S_X11_hitMakes := by
  refine mo_ct_of (by decide) rfl ?_
  rintro g as σ Q ⟨a, b, z, rfl, hpre, hQ⟩
  refine ⟨Nat.le_of_ble_eq_true rfl, mo_go ok_X11_hitMakes (cs_X11_hitMakes_ok g) [] 16 ?_⟩
  intro K hK
  refine Exists.intro b (Exists.intro z (And.intro rfl (And.intro (show mo_le (σ.1 6 0 5) 200 ∧ ∀ k_, k_ < (σ.1 6 0 5).toNatClampNeg → vp_in (σ.1 7 0 k_) 60 by exact hpre.1) ?_)))
  refine Exists.intro a (Exists.intro b (And.intro rfl (And.intro (show (mo_le (σ.1 18 0 4) 40 ∧ mo_le (σ.1 23 0 4) 40 ∧ ∀ k_, k_ < (σ.1 18 0 4).toNatClampNeg → vp_in (σ.1 19 0 k_) 30 ∧ vp_in (σ.1 20 0 k_) 30) ∧ vp_in a 20 ∧ vp_in (σ.1 39 a.toNatClampNeg 3) 30 ∧ mo_le (σ.1 3 0 2) 60 ∧ mo_le (σ.1 39 a.toNatClampNeg 2) 30 by exact hpre.2) ?_)))
  refine Exists.intro (mo_badS (mo_rowL σ 34 0 (mo_layR σ b z)) a b) (And.intro rfl (And.intro (show True by trivial) ?_))
  exact hQ
def mo_pc (n : Int32) : Int32 := (((((((n - (((n.toUInt32 >>> ((1 : Int32).toUInt32 &&& Int32.toUInt32 31)).toInt32) &&& (1431655765 : Int32))) &&& (858993459 : Int32)) + ((((n - (((n.toUInt32 >>> ((1 : Int32).toUInt32 &&& Int32.toUInt32 31)).toInt32) &&& (1431655765 : Int32))).toUInt32 >>> ((2 : Int32).toUInt32 &&& Int32.toUInt32 31)).toInt32) &&& (858993459 : Int32))) + (((((n - (((n.toUInt32 >>> ((1 : Int32).toUInt32 &&& Int32.toUInt32 31)).toInt32) &&& (1431655765 : Int32))) &&& (858993459 : Int32)) + ((((n - (((n.toUInt32 >>> ((1 : Int32).toUInt32 &&& Int32.toUInt32 31)).toInt32) &&& (1431655765 : Int32))).toUInt32 >>> ((2 : Int32).toUInt32 &&& Int32.toUInt32 31)).toInt32) &&& (858993459 : Int32))).toUInt32 >>> ((4 : Int32).toUInt32 &&& Int32.toUInt32 31)).toInt32)) &&& (252645135 : Int32)) + (((((((n - (((n.toUInt32 >>> ((1 : Int32).toUInt32 &&& Int32.toUInt32 31)).toInt32) &&& (1431655765 : Int32))) &&& (858993459 : Int32)) + ((((n - (((n.toUInt32 >>> ((1 : Int32).toUInt32 &&& Int32.toUInt32 31)).toInt32) &&& (1431655765 : Int32))).toUInt32 >>> ((2 : Int32).toUInt32 &&& Int32.toUInt32 31)).toInt32) &&& (858993459 : Int32))) + (((((n - (((n.toUInt32 >>> ((1 : Int32).toUInt32 &&& Int32.toUInt32 31)).toInt32) &&& (1431655765 : Int32))) &&& (858993459 : Int32)) + ((((n - (((n.toUInt32 >>> ((1 : Int32).toUInt32 &&& Int32.toUInt32 31)).toInt32) &&& (1431655765 : Int32))).toUInt32 >>> ((2 : Int32).toUInt32 &&& Int32.toUInt32 31)).toInt32) &&& (858993459 : Int32))).toUInt32 >>> ((4 : Int32).toUInt32 &&& Int32.toUInt32 31)).toInt32)) &&& (252645135 : Int32)).toUInt32 >>> ((8 : Int32).toUInt32 &&& Int32.toUInt32 31)).toInt32)) + ((((((((n - (((n.toUInt32 >>> ((1 : Int32).toUInt32 &&& Int32.toUInt32 31)).toInt32) &&& (1431655765 : Int32))) &&& (858993459 : Int32)) + ((((n - (((n.toUInt32 >>> ((1 : Int32).toUInt32 &&& Int32.toUInt32 31)).toInt32) &&& (1431655765 : Int32))).toUInt32 >>> ((2 : Int32).toUInt32 &&& Int32.toUInt32 31)).toInt32) &&& (858993459 : Int32))) + (((((n - (((n.toUInt32 >>> ((1 : Int32).toUInt32 &&& Int32.toUInt32 31)).toInt32) &&& (1431655765 : Int32))) &&& (858993459 : Int32)) + ((((n - (((n.toUInt32 >>> ((1 : Int32).toUInt32 &&& Int32.toUInt32 31)).toInt32) &&& (1431655765 : Int32))).toUInt32 >>> ((2 : Int32).toUInt32 &&& Int32.toUInt32 31)).toInt32) &&& (858993459 : Int32))).toUInt32 >>> ((4 : Int32).toUInt32 &&& Int32.toUInt32 31)).toInt32)) &&& (252645135 : Int32)) + (((((((n - (((n.toUInt32 >>> ((1 : Int32).toUInt32 &&& Int32.toUInt32 31)).toInt32) &&& (1431655765 : Int32))) &&& (858993459 : Int32)) + ((((n - (((n.toUInt32 >>> ((1 : Int32).toUInt32 &&& Int32.toUInt32 31)).toInt32) &&& (1431655765 : Int32))).toUInt32 >>> ((2 : Int32).toUInt32 &&& Int32.toUInt32 31)).toInt32) &&& (858993459 : Int32))) + (((((n - (((n.toUInt32 >>> ((1 : Int32).toUInt32 &&& Int32.toUInt32 31)).toInt32) &&& (1431655765 : Int32))) &&& (858993459 : Int32)) + ((((n - (((n.toUInt32 >>> ((1 : Int32).toUInt32 &&& Int32.toUInt32 31)).toInt32) &&& (1431655765 : Int32))).toUInt32 >>> ((2 : Int32).toUInt32 &&& Int32.toUInt32 31)).toInt32) &&& (858993459 : Int32))).toUInt32 >>> ((4 : Int32).toUInt32 &&& Int32.toUInt32 31)).toInt32)) &&& (252645135 : Int32)).toUInt32 >>> ((8 : Int32).toUInt32 &&& Int32.toUInt32 31)).toInt32)).toUInt32 >>> ((16 : Int32).toUInt32 &&& Int32.toUInt32 31)).toInt32)) &&& (63 : Int32)
def S_J6_bitCount_0f7a4 : mo_S := fun as σ Q => ∃ n : Int32, as = [.inl n] ∧ (True) ∧ Q (some (.inl (mo_pc n))) (σ)
theorem m_J6_bitCount_0f7a4 : ∀ (as : List mo_V) (σ : mo_M) (P P' : mo_Q), (∀ x τ, P x τ → P' x τ) → S_J6_bitCount_0f7a4 as σ P → S_J6_bitCount_0f7a4 as σ P' := by
  rintro as σ P P' h ⟨n, e, hp, hq⟩
  exact ⟨n, e, hp, h _ _ hq⟩
set_option maxRecDepth 20000 in
set_option maxHeartbeats 2000000 in
theorem ct_J6_bitCount_0f7a4 : mo_ct yJ6_bitCount_0f7a4 t_J6_bitCount_0f7a4 S_J6_bitCount_0f7a4 := by
  refine mo_ct_of (by decide) rfl ?_
  rintro g as σ Q ⟨n, rfl, hpre, hQ⟩
  refine ⟨Nat.le_of_ble_eq_true rfl, mo_go ok_J6_bitCount_0f7a4 (mo_no_ok g _) [] 43 ?_⟩
  intro K hK
  exact hQ
