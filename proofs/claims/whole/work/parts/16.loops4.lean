/-- knowing less of the locals -/
def mo_ll : mo_L → mo_L → Prop
  | [], _ => True
  | none :: r, _ :: r' => mo_ll r r'
  | some v :: r, b :: r' => b = some v ∧ mo_ll r r'
  | _ :: _, [] => False
theorem mo_ll_of : ∀ (a b : mo_L), mo_ll a b → ∀ (j : Nat) (v : mo_V), mo_lk a j = some v → mo_lk b j = some v
  | [], _, _, j, v, h => by cases h
  | none :: r, b :: r', h, 0, v, q => by cases q
  | none :: r, b :: r', h, j + 1, v, q => mo_ll_of r r' h j v q
  | some u :: r, b :: r', h, 0, v, q => by cases q; exact h.1
  | some u :: r, b :: r', h, j + 1, v, q => mo_ll_of r r' h.2 j v q
  | none :: r, [], h, j, v, q => h.elim
  | some u :: r, [], h, j, v, q => h.elim
theorem mo_wk {g : mo_E} {mt : mo_T} {Q : mo_Q} {pc : Nat} {a b : mo_L} {st : List mo_V} {σ : mo_M} (h : mo_ll a b) (hX : mo_X g mt Q pc a st σ) : mo_X g mt Q pc b st σ := by
  intro p l e s m args below meth c cells slots QQ C H locs A hP hS hl
  refine hX p l e s m args below meth c cells slots QQ C H locs A hP hS ⟨hl.1, hl.2.1, fun q hq => hl.2.2 q ?_⟩
  obtain ⟨j, v, hj, rfl⟩ := (mo_lp_mem g.2.2.1 a 0 q).mp hq
  exact (mo_lp_mem g.2.2.1 b 0 _).mpr ⟨j, v, mo_ll_of a b h j v hj, rfl⟩
def S_X10_lay : mo_S := fun as σ Q => ∃ day : Int32, ∃ z : Int32, as = [.inr (.inr (33, 0)), .inr (.inr (6, 0)), .inl day, .inl z] ∧ (mo_le (σ.1 6 0 5) 200 ∧ ∀ k, k < (σ.1 6 0 5).toNatClampNeg → vp_in (σ.1 7 0 k) 60) ∧ Q (none) (mo_rowL σ 34 0 (mo_fo (fun k r => mo_ite ((σ.1 10 0 k ≤ day ∧ day < σ.1 11 0 k) ∧ (¬ z = 0 ∨ ¬ σ.1 9 0 k = 3)) (vp_updL r (σ.1 7 0 k).toNatClampNeg (r (σ.1 7 0 k).toNatClampNeg ||| (1 : Int64) <<< ((σ.1 8 0 k).toInt64 &&& 63))) r) (mo_fo (fun k r => vp_updL r k 0) (σ.2 34 0) 60) (σ.1 6 0 5).toNatClampNeg))
theorem m_X10_lay : ∀ (as : List mo_V) (σ : mo_M) (P P' : mo_Q), (∀ x τ, P x τ → P' x τ) → S_X10_lay as σ P → S_X10_lay as σ P' := by
  rintro as σ P P' h ⟨day, z, e, hp, hq⟩
  exact ⟨day, z, e, hp, h _ _ hq⟩
def cs_X10_lay : Nat → mo_C := fun j => match j with
  | 0 => (2, false, 22, 50, S_J7_fill_d0a16)
  | 1 => (3, true, 33, 2, S_X2_isLive)
  | _ => (0, false, 0, 50, fun _ _ _ => False)
theorem cs_X10_lay_ok (g : mo_E) : ∀ j, mo_cok g t_X10_lay (cs_X10_lay j) ∧ mo_mon (cs_X10_lay j) := by
  intro j
  unfold cs_X10_lay
  split
  · exact ⟨mo_cokS ct_J7_fill_d0a16 (by decide +kernel), m_J7_fill_d0a16⟩
  · exact ⟨mo_cokV ct_X2_isLive (by decide) ⟨_, _, rfl⟩ (by decide +kernel), m_X2_isLive⟩
  · exact ⟨mo_cok0 g _, mo_mon0⟩
set_option maxRecDepth 20000 in
set_option maxHeartbeats 2000000 in
theorem lp_X10_lay (g : mo_E) (σ : mo_M) (Q : mo_Q) (day z : Int32) (n : Nat) (hn : σ.1 6 0 5 = nI n) (hle : n ≤ 200) (hin : ∀ k, k < n → vp_in (σ.1 7 0 k) 60) (hQ : Q none (mo_rowL σ 34 0 (mo_fo (fun k r => mo_ite ((σ.1 10 0 k ≤ day ∧ day < σ.1 11 0 k) ∧ (¬ z = 0 ∨ ¬ σ.1 9 0 k = 3)) (vp_updL r (σ.1 7 0 k).toNatClampNeg (r (σ.1 7 0 k).toNatClampNeg ||| (1 : Int64) <<< ((σ.1 8 0 k).toInt64 &&& 63))) r) (mo_fo (fun k r => vp_updL r k 0) (σ.2 34 0) 60) n))) : ∀ (d k : Nat), n < k + d → k ≤ n → (True) → mo_X g t_X10_lay Q 11 [some (.inr (.inr (33, 0))), some (.inr (.inr (6, 0))), some (.inl day), some (.inl z), some (.inl (nI k))] [] (mo_rowL σ 34 0 (mo_fo (fun k r => mo_ite ((σ.1 10 0 k ≤ day ∧ day < σ.1 11 0 k) ∧ (¬ z = 0 ∨ ¬ σ.1 9 0 k = 3)) (vp_updL r (σ.1 7 0 k).toNatClampNeg (r (σ.1 7 0 k).toNatClampNeg ||| (1 : Int64) <<< ((σ.1 8 0 k).toInt64 &&& 63))) r) (mo_fo (fun k r => vp_updL r k 0) (σ.2 34 0) 60) k)) := by
  intro d
  induction d with
  | zero => intro k h1 h2; omega
  | succ d ih =>
    intro k h1 h2 hinv
    have hkc : (nI k).toNatClampNeg = k := mo_cl (by omega)
    refine mo_go ok_X10_lay (cs_X10_lay_ok g) [11] 43 ?_
    intro K hK
    refine And.intro (fun (c1 : (σ.1 6 0 5) ≤ (nI k)) => ?_) (fun (c1 : ¬ (σ.1 6 0 5) ≤ (nI k)) => ?_)
    · have hk : n ≤ k := mo_cge hn (by omega) (by omega) c1
      (have e : k = n := (by omega); subst e; exact hQ)
    · have hk : k < n := mo_clt hn (by omega) (by omega) c1
      refine Exists.intro (nI k) (Exists.intro day (And.intro rfl (And.intro (show vp_in (nI k) 200 by exact mo_inN (by omega) (by decide)) ?_)))
      refine And.intro (fun (c2 : (mo_bl (σ.1 10 0 (nI k).toNatClampNeg ≤ day ∧ day < σ.1 11 0 (nI k).toNatClampNeg)) = 0) => ?_) (fun (c2 : ¬ (mo_bl (σ.1 10 0 (nI k).toNatClampNeg ≤ day ∧ day < σ.1 11 0 (nI k).toNatClampNeg)) = 0) => ?_)
      · (have hih := ih (k + 1) (by omega) (by omega) trivial; have e : mo_fo (fun k r => mo_ite ((σ.1 10 0 k ≤ day ∧ day < σ.1 11 0 k) ∧ (¬ z = 0 ∨ ¬ σ.1 9 0 k = 3)) (vp_updL r (σ.1 7 0 k).toNatClampNeg (r (σ.1 7 0 k).toNatClampNeg ||| (1 : Int64) <<< ((σ.1 8 0 k).toInt64 &&& 63))) r) (mo_fo (fun k r => vp_updL r k 0) (σ.2 34 0) 60) (k + 1) = mo_fo (fun k r => mo_ite ((σ.1 10 0 k ≤ day ∧ day < σ.1 11 0 k) ∧ (¬ z = 0 ∨ ¬ σ.1 9 0 k = 3)) (vp_updL r (σ.1 7 0 k).toNatClampNeg (r (σ.1 7 0 k).toNatClampNeg ||| (1 : Int64) <<< ((σ.1 8 0 k).toInt64 &&& 63))) r) (mo_fo (fun k r => vp_updL r k 0) (σ.2 34 0) 60) k := mo_ite_f (by ((try simp only [hkc, mo_bl0, Classical.not_not, ← Int32.not_lt] at c2 ⊢); (try clear ih); (try clear hih); clear hK hQ; grind)); rw [nI_succ, e] at hih; exact hK _ _ _ _ hih)
      · refine And.intro (fun (c3 : ¬ z = 0) => ?_) (fun (c3 : z = 0) => ?_)
        · refine And.intro (show vp_in (nI k) 200 by exact mo_inN (by omega) (by decide)) ?_
          refine And.intro (show vp_in (σ.1 7 0 ((nI k).toNatClampNeg)) 60 by rw [hkc]; exact hin k hk) ?_
          refine And.intro (show vp_in (nI k) 200 by exact mo_inN (by omega) (by decide)) ?_
          refine And.intro (show vp_in (σ.1 7 0 ((nI k).toNatClampNeg)) 60 by rw [hkc]; exact hin k hk) ?_
          (have hih := ih (k + 1) (by omega) (by omega) trivial; have e : mo_fo (fun k r => mo_ite ((σ.1 10 0 k ≤ day ∧ day < σ.1 11 0 k) ∧ (¬ z = 0 ∨ ¬ σ.1 9 0 k = 3)) (vp_updL r (σ.1 7 0 k).toNatClampNeg (r (σ.1 7 0 k).toNatClampNeg ||| (1 : Int64) <<< ((σ.1 8 0 k).toInt64 &&& 63))) r) (mo_fo (fun k r => vp_updL r k 0) (σ.2 34 0) 60) (k + 1) = vp_updL (mo_fo (fun k r => mo_ite ((σ.1 10 0 k ≤ day ∧ day < σ.1 11 0 k) ∧ (¬ z = 0 ∨ ¬ σ.1 9 0 k = 3)) (vp_updL r (σ.1 7 0 k).toNatClampNeg (r (σ.1 7 0 k).toNatClampNeg ||| (1 : Int64) <<< ((σ.1 8 0 k).toInt64 &&& 63))) r) (mo_fo (fun k r => vp_updL r k 0) (σ.2 34 0) 60) k) ((σ.1 7 0 (k)).toNatClampNeg) (((mo_fo (fun k r => mo_ite ((σ.1 10 0 k ≤ day ∧ day < σ.1 11 0 k) ∧ (¬ z = 0 ∨ ¬ σ.1 9 0 k = 3)) (vp_updL r (σ.1 7 0 k).toNatClampNeg (r (σ.1 7 0 k).toNatClampNeg ||| (1 : Int64) <<< ((σ.1 8 0 k).toInt64 &&& 63))) r) (mo_fo (fun k r => vp_updL r k 0) (σ.2 34 0) 60) k) ((σ.1 7 0 (k)).toNatClampNeg)) ||| ((1 : Int64) <<< ((σ.1 8 0 (k)).toInt64 &&& 63))) := mo_ite_t (by ((try simp only [hkc, mo_bl0, Classical.not_not, ← Int32.not_lt] at c2 c3 ⊢); (try clear ih); (try clear hih); clear hK hQ; grind)); rw [nI_succ, e] at hih; refine hK _ _ _ _ (show mo_X g t_X10_lay Q 11 [some (.inr (.inr (33, 0))), some (.inr (.inr (6, 0))), some (.inl day), some (.inl z), some (.inl ((nI k) + (1 : Int32)))] [] (mo_wL (mo_rowL σ 34 0 (mo_fo (fun k r => mo_ite ((σ.1 10 0 k ≤ day ∧ day < σ.1 11 0 k) ∧ (¬ z = 0 ∨ ¬ σ.1 9 0 k = 3)) (vp_updL r (σ.1 7 0 k).toNatClampNeg (r (σ.1 7 0 k).toNatClampNeg ||| (1 : Int64) <<< ((σ.1 8 0 k).toInt64 &&& 63))) r) (mo_fo (fun k r => vp_updL r k 0) (σ.2 34 0) 60) k)) 34 0 ((σ.1 7 0 ((nI k).toNatClampNeg)).toNatClampNeg) (((mo_fo (fun k r => mo_ite ((σ.1 10 0 k ≤ day ∧ day < σ.1 11 0 k) ∧ (¬ z = 0 ∨ ¬ σ.1 9 0 k = 3)) (vp_updL r (σ.1 7 0 k).toNatClampNeg (r (σ.1 7 0 k).toNatClampNeg ||| (1 : Int64) <<< ((σ.1 8 0 k).toInt64 &&& 63))) r) (mo_fo (fun k r => vp_updL r k 0) (σ.2 34 0) 60) k) ((σ.1 7 0 ((nI k).toNatClampNeg)).toNatClampNeg)) ||| ((1 : Int64) <<< ((σ.1 8 0 ((nI k).toNatClampNeg)).toInt64 &&& 63)))) from ?_); simp only [hkc, mo_rowL_w]; exact hih)
        · refine And.intro (show vp_in (nI k) 200 by exact mo_inN (by omega) (by decide)) ?_
          refine And.intro (fun (c4 : (σ.1 9 0 ((nI k).toNatClampNeg)) = (3 : Int32)) => ?_) (fun (c4 : ¬ (σ.1 9 0 ((nI k).toNatClampNeg)) = (3 : Int32)) => ?_)
          · (have hih := ih (k + 1) (by omega) (by omega) trivial; have e : mo_fo (fun k r => mo_ite ((σ.1 10 0 k ≤ day ∧ day < σ.1 11 0 k) ∧ (¬ z = 0 ∨ ¬ σ.1 9 0 k = 3)) (vp_updL r (σ.1 7 0 k).toNatClampNeg (r (σ.1 7 0 k).toNatClampNeg ||| (1 : Int64) <<< ((σ.1 8 0 k).toInt64 &&& 63))) r) (mo_fo (fun k r => vp_updL r k 0) (σ.2 34 0) 60) (k + 1) = mo_fo (fun k r => mo_ite ((σ.1 10 0 k ≤ day ∧ day < σ.1 11 0 k) ∧ (¬ z = 0 ∨ ¬ σ.1 9 0 k = 3)) (vp_updL r (σ.1 7 0 k).toNatClampNeg (r (σ.1 7 0 k).toNatClampNeg ||| (1 : Int64) <<< ((σ.1 8 0 k).toInt64 &&& 63))) r) (mo_fo (fun k r => vp_updL r k 0) (σ.2 34 0) 60) k := mo_ite_f (by ((try simp only [hkc, mo_bl0, Classical.not_not, ← Int32.not_lt] at c2 c3 c4 ⊢); (try clear ih); (try clear hih); clear hK hQ; grind)); rw [nI_succ, e] at hih; exact hK _ _ _ _ hih)
          · refine And.intro (show vp_in (nI k) 200 by exact mo_inN (by omega) (by decide)) ?_
            refine And.intro (show vp_in (σ.1 7 0 ((nI k).toNatClampNeg)) 60 by rw [hkc]; exact hin k hk) ?_
            refine And.intro (show vp_in (nI k) 200 by exact mo_inN (by omega) (by decide)) ?_
            refine And.intro (show vp_in (σ.1 7 0 ((nI k).toNatClampNeg)) 60 by rw [hkc]; exact hin k hk) ?_
            (have hih := ih (k + 1) (by omega) (by omega) trivial; have e : mo_fo (fun k r => mo_ite ((σ.1 10 0 k ≤ day ∧ day < σ.1 11 0 k) ∧ (¬ z = 0 ∨ ¬ σ.1 9 0 k = 3)) (vp_updL r (σ.1 7 0 k).toNatClampNeg (r (σ.1 7 0 k).toNatClampNeg ||| (1 : Int64) <<< ((σ.1 8 0 k).toInt64 &&& 63))) r) (mo_fo (fun k r => vp_updL r k 0) (σ.2 34 0) 60) (k + 1) = vp_updL (mo_fo (fun k r => mo_ite ((σ.1 10 0 k ≤ day ∧ day < σ.1 11 0 k) ∧ (¬ z = 0 ∨ ¬ σ.1 9 0 k = 3)) (vp_updL r (σ.1 7 0 k).toNatClampNeg (r (σ.1 7 0 k).toNatClampNeg ||| (1 : Int64) <<< ((σ.1 8 0 k).toInt64 &&& 63))) r) (mo_fo (fun k r => vp_updL r k 0) (σ.2 34 0) 60) k) ((σ.1 7 0 (k)).toNatClampNeg) (((mo_fo (fun k r => mo_ite ((σ.1 10 0 k ≤ day ∧ day < σ.1 11 0 k) ∧ (¬ z = 0 ∨ ¬ σ.1 9 0 k = 3)) (vp_updL r (σ.1 7 0 k).toNatClampNeg (r (σ.1 7 0 k).toNatClampNeg ||| (1 : Int64) <<< ((σ.1 8 0 k).toInt64 &&& 63))) r) (mo_fo (fun k r => vp_updL r k 0) (σ.2 34 0) 60) k) ((σ.1 7 0 (k)).toNatClampNeg)) ||| ((1 : Int64) <<< ((σ.1 8 0 (k)).toInt64 &&& 63))) := mo_ite_t (by ((try simp only [hkc, mo_bl0, Classical.not_not, ← Int32.not_lt] at c2 c3 c4 ⊢); (try clear ih); (try clear hih); clear hK hQ; grind)); rw [nI_succ, e] at hih; refine hK _ _ _ _ (show mo_X g t_X10_lay Q 11 [some (.inr (.inr (33, 0))), some (.inr (.inr (6, 0))), some (.inl day), some (.inl z), some (.inl ((nI k) + (1 : Int32)))] [] (mo_wL (mo_rowL σ 34 0 (mo_fo (fun k r => mo_ite ((σ.1 10 0 k ≤ day ∧ day < σ.1 11 0 k) ∧ (¬ z = 0 ∨ ¬ σ.1 9 0 k = 3)) (vp_updL r (σ.1 7 0 k).toNatClampNeg (r (σ.1 7 0 k).toNatClampNeg ||| (1 : Int64) <<< ((σ.1 8 0 k).toInt64 &&& 63))) r) (mo_fo (fun k r => vp_updL r k 0) (σ.2 34 0) 60) k)) 34 0 ((σ.1 7 0 ((nI k).toNatClampNeg)).toNatClampNeg) (((mo_fo (fun k r => mo_ite ((σ.1 10 0 k ≤ day ∧ day < σ.1 11 0 k) ∧ (¬ z = 0 ∨ ¬ σ.1 9 0 k = 3)) (vp_updL r (σ.1 7 0 k).toNatClampNeg (r (σ.1 7 0 k).toNatClampNeg ||| (1 : Int64) <<< ((σ.1 8 0 k).toInt64 &&& 63))) r) (mo_fo (fun k r => vp_updL r k 0) (σ.2 34 0) 60) k) ((σ.1 7 0 ((nI k).toNatClampNeg)).toNatClampNeg)) ||| ((1 : Int64) <<< ((σ.1 8 0 ((nI k).toNatClampNeg)).toInt64 &&& 63)))) from ?_); simp only [hkc, mo_rowL_w]; exact hih)
set_option maxRecDepth 20000 in
set_option maxHeartbeats 2000000 in
theorem ct_X10_lay : mo_ct yX10_lay t_X10_lay S_X10_lay := by
  refine mo_ct_of (by decide) rfl ?_
  rintro g as σ Q ⟨day, z, rfl, hpre, hQ⟩
  refine ⟨Nat.le_of_ble_eq_true rfl, mo_go ok_X10_lay (cs_X10_lay_ok g) [11] 43 ?_⟩
  intro K hK
  refine Exists.intro (0 : Int64) (And.intro rfl (And.intro (show True by trivial) ?_))
  exact hK _ _ _ _ (lp_X10_lay g σ Q day z _ hpre.1.1 hpre.1.2 hpre.2 hQ ((σ.1 6 0 5).toNatClampNeg + 1) 0 (by omega) (by omega) trivial)
noncomputable def mo_set1 (σ : mo_M) (day : Int32) : Nat → (Nat → Int32) × Int32 := mo_fo (fun k (p : (Nat → Int32) × Int32) => mo_ite (σ.1 22 0 k ≤ day ∧ σ.1 21 0 k = 0) (mo_ite (∃ u, u < (σ.1 23 0 4).toNatClampNeg ∧ (σ.1 27 0 u ≤ day ∧ σ.1 26 0 u = 0) ∧ mo_bt (p.1 (σ.1 19 0 k).toNatClampNeg ||| p.1 (σ.1 20 0 k).toNatClampNeg).toInt64 (σ.1 24 0 u) ∧ mo_bt (p.1 (σ.1 19 0 k).toNatClampNeg ||| p.1 (σ.1 20 0 k).toNatClampNeg).toInt64 (σ.1 25 0 u)) (p.1, p.2 + 1) (mo_fo (fun i r => mo_ite (mo_bt ((p.1 (σ.1 19 0 k).toNatClampNeg ||| p.1 (σ.1 20 0 k).toNatClampNeg)).toInt64 (nI i)) (upd r i ((p.1 (σ.1 19 0 k).toNatClampNeg ||| p.1 (σ.1 20 0 k).toNatClampNeg))) r) p.1 30, p.2)) p) ((mo_fo (fun k r => upd r k ((1 : Int32) <<< (nI k &&& 31))) (σ.1 29 0) 30), 0)
def S_X0_settle : mo_S := fun as σ Q => ∃ day : Int32, as = [.inr (.inr (28, 0)), .inr (.inr (18, 0)), .inr (.inr (23, 0)), .inl day] ∧ (mo_le (σ.1 18 0 4) 40 ∧ mo_le (σ.1 23 0 4) 40 ∧ ∀ k, k < (σ.1 18 0 4).toNatClampNeg → vp_in (σ.1 19 0 k) 30 ∧ vp_in (σ.1 20 0 k) 30) ∧ Q (some (.inl ((mo_set1 σ day (σ.1 18 0 4).toNatClampNeg).2))) (mo_rowI σ 29 0 (mo_set1 σ day (σ.1 18 0 4).toNatClampNeg).1)
theorem m_X0_settle : ∀ (as : List mo_V) (σ : mo_M) (P P' : mo_Q), (∀ x τ, P x τ → P' x τ) → S_X0_settle as σ P → S_X0_settle as σ P' := by
  rintro as σ P P' h ⟨day, e, hp, hq⟩
  exact ⟨day, e, hp, h _ _ hq⟩
def cs_X0_settle : Nat → mo_C := fun j => match j with
  | 0 => (3, true, 21, 4, S_X4_isLive)
  | 1 => (3, true, 31, 4, S_X4_hasOneWithin)
  | 2 => (2, true, 34, 0, S_X0_merge)
  | _ => (0, false, 0, 50, fun _ _ _ => False)
theorem cs_X0_settle_ok (g : mo_E) : ∀ j, mo_cok g t_X0_settle (cs_X0_settle j) ∧ mo_mon (cs_X0_settle j) := by
  intro j
  unfold cs_X0_settle
  split
  · exact ⟨mo_cokV ct_X4_isLive (by decide) ⟨_, _, rfl⟩ (by decide +kernel), m_X4_isLive⟩
  · exact ⟨mo_cokV ct_X4_hasOneWithin (by decide) ⟨_, _, rfl⟩ (by decide +kernel), m_X4_hasOneWithin⟩
  · exact ⟨mo_cokV ct_X0_merge (by decide) ⟨_, _, rfl⟩ (by decide +kernel), m_X0_merge⟩
  · exact ⟨mo_cok0 g _, mo_mon0⟩
set_option maxRecDepth 20000 in
set_option maxHeartbeats 2000000 in
theorem lp_X0_settle (g : mo_E) (σ : mo_M) (Q : mo_Q) (day : Int32) (n : Nat) (hn : σ.1 18 0 4 = nI n) (hle : n ≤ 40) (hu : mo_le (σ.1 23 0 4) 40) (hin : ∀ k, k < n → vp_in (σ.1 19 0 k) 30 ∧ vp_in (σ.1 20 0 k) 30) (hQ : Q (some (.inl (mo_set1 σ day n).2)) (mo_rowI σ 29 0 (mo_set1 σ day n).1)) : ∀ (d k : Nat), n < k + d → k ≤ n → (True) → mo_X g t_X0_settle Q 33 [some (.inr (.inr (28, 0))), some (.inr (.inr (18, 0))), some (.inr (.inr (23, 0))), some (.inl day), some (.inl ((mo_set1 σ day k).2)), some (.inl (nI k)), none] [] (mo_rowI σ 29 0 ((mo_set1 σ day k).1)) := by
  intro d
  induction d with
  | zero => intro k h1 h2; omega
  | succ d ih =>
    intro k h1 h2 hinv
    have hkc : (nI k).toNatClampNeg = k := mo_cl (by omega)
    refine mo_go ok_X0_settle (cs_X0_settle_ok g) [33] 58 ?_
    intro K hK
    refine And.intro (fun (c1 : (σ.1 18 0 4) ≤ (nI k)) => ?_) (fun (c1 : ¬ (σ.1 18 0 4) ≤ (nI k)) => ?_)
    · have hk : n ≤ k := mo_cge hn (by omega) (by omega) c1
      (have e : k = n := (by omega); subst e; exact hQ)
    · have hk : k < n := mo_clt hn (by omega) (by omega) c1
      refine Exists.intro 18 (Exists.intro (nI k) (Exists.intro day (And.intro rfl (And.intro (show (18 = 18 ∨ 18 = 23) ∧ vp_in (nI k) 40 by exact ⟨Or.inl rfl, mo_inN (by omega) (by decide)⟩) ?_))))
      refine And.intro (fun (c2 : (mo_bl (σ.1 22 0 (nI k).toNatClampNeg ≤ day ∧ σ.1 21 0 (nI k).toNatClampNeg = 0)) = 0) => ?_) (fun (c2 : ¬ (mo_bl (σ.1 22 0 (nI k).toNatClampNeg ≤ day ∧ σ.1 21 0 (nI k).toNatClampNeg = 0)) = 0) => ?_)
      · (have hih := ih (k + 1) (by omega) (by omega) trivial; have e : mo_set1 σ day (k + 1) = mo_set1 σ day k := (mo_ite_f (by ((try simp only [hkc, mo_bl0, Classical.not_not, ← Int32.not_lt] at c2 ⊢); (try clear ih); (try clear hih); clear hK hQ; grind))); rw [nI_succ, e] at hih; exact hK _ _ _ _ hih)
      · refine And.intro (show vp_in (nI k) 40 by exact mo_inN (by omega) (by decide)) ?_
        refine And.intro (show vp_in (σ.1 19 0 ((nI k).toNatClampNeg)) 30 by rw [hkc]; exact (hin k hk).1) ?_
        refine And.intro (show vp_in (nI k) 40 by exact mo_inN (by omega) (by decide)) ?_
        refine And.intro (show vp_in (σ.1 20 0 ((nI k).toNatClampNeg)) 30 by rw [hkc]; exact (hin k hk).2) ?_
        refine Exists.intro ((((mo_set1 σ day k).1) ((σ.1 19 0 ((nI k).toNatClampNeg)).toNatClampNeg)) ||| (((mo_set1 σ day k).1) ((σ.1 20 0 ((nI k).toNatClampNeg)).toNatClampNeg))) (Exists.intro day (And.intro rfl (And.intro (show mo_le (σ.1 23 0 4) 40 by exact hu) ?_)))
        refine And.intro (fun (c3 : (mo_bl (∃ k_, k_ < (σ.1 23 0 4).toNatClampNeg ∧ (σ.1 27 0 k_ ≤ day ∧ σ.1 26 0 k_ = 0) ∧ mo_bt ((((mo_set1 σ day k).1) ((σ.1 19 0 ((nI k).toNatClampNeg)).toNatClampNeg)) ||| (((mo_set1 σ day k).1) ((σ.1 20 0 ((nI k).toNatClampNeg)).toNatClampNeg))).toInt64 (σ.1 24 0 k_) ∧ mo_bt ((((mo_set1 σ day k).1) ((σ.1 19 0 ((nI k).toNatClampNeg)).toNatClampNeg)) ||| (((mo_set1 σ day k).1) ((σ.1 20 0 ((nI k).toNatClampNeg)).toNatClampNeg))).toInt64 (σ.1 25 0 k_))) = 0) => ?_) (fun (c3 : ¬ (mo_bl (∃ k_, k_ < (σ.1 23 0 4).toNatClampNeg ∧ (σ.1 27 0 k_ ≤ day ∧ σ.1 26 0 k_ = 0) ∧ mo_bt ((((mo_set1 σ day k).1) ((σ.1 19 0 ((nI k).toNatClampNeg)).toNatClampNeg)) ||| (((mo_set1 σ day k).1) ((σ.1 20 0 ((nI k).toNatClampNeg)).toNatClampNeg))).toInt64 (σ.1 24 0 k_) ∧ mo_bt ((((mo_set1 σ day k).1) ((σ.1 19 0 ((nI k).toNatClampNeg)).toNatClampNeg)) ||| (((mo_set1 σ day k).1) ((σ.1 20 0 ((nI k).toNatClampNeg)).toNatClampNeg))).toInt64 (σ.1 25 0 k_))) = 0) => ?_)
        · refine Exists.intro ((((mo_set1 σ day k).1) ((σ.1 19 0 ((nI k).toNatClampNeg)).toNatClampNeg)) ||| (((mo_set1 σ day k).1) ((σ.1 20 0 ((nI k).toNatClampNeg)).toNatClampNeg))) (And.intro rfl (And.intro (show True by trivial) ?_))
          (have hih := ih (k + 1) (by omega) (by omega) trivial; simp only [hkc] at c3; have e : mo_set1 σ day (k + 1) = (mo_fo (fun i r => mo_ite (mo_bt (((mo_set1 σ day k).1 (σ.1 19 0 k).toNatClampNeg ||| (mo_set1 σ day k).1 (σ.1 20 0 k).toNatClampNeg)).toInt64 (nI i)) (upd r i (((mo_set1 σ day k).1 (σ.1 19 0 k).toNatClampNeg ||| (mo_set1 σ day k).1 (σ.1 20 0 k).toNatClampNeg))) r) ((mo_set1 σ day k).1) 30, (mo_set1 σ day k).2) := (mo_ite_t (by ((try simp only [hkc, mo_bl0, Classical.not_not, ← Int32.not_lt] at c2 ⊢); (try clear ih); (try clear hih); clear hK hQ; grind))).trans (mo_ite_f (mo_bl0.mp c3)); rw [nI_succ, e] at hih; refine hK _ _ _ _ (show mo_X g t_X0_settle Q 33 [some (.inr (.inr (28, 0))), some (.inr (.inr (18, 0))), some (.inr (.inr (23, 0))), some (.inl day), some (.inl ((mo_set1 σ day k).2)), some (.inl ((nI k) + (1 : Int32))), some (.inl ((((mo_set1 σ day k).1) ((σ.1 19 0 ((nI k).toNatClampNeg)).toNatClampNeg)) ||| (((mo_set1 σ day k).1) ((σ.1 20 0 ((nI k).toNatClampNeg)).toNatClampNeg))))] [] (mo_rowI (mo_rowI σ 29 0 ((mo_set1 σ day k).1)) 29 0 (mo_fo (fun k_ r_ => mo_ite (mo_bt ((((mo_set1 σ day k).1) ((σ.1 19 0 ((nI k).toNatClampNeg)).toNatClampNeg)) ||| (((mo_set1 σ day k).1) ((σ.1 20 0 ((nI k).toNatClampNeg)).toNatClampNeg))).toInt64 (nI k_)) (upd r_ k_ ((((mo_set1 σ day k).1) ((σ.1 19 0 ((nI k).toNatClampNeg)).toNatClampNeg)) ||| (((mo_set1 σ day k).1) ((σ.1 20 0 ((nI k).toNatClampNeg)).toNatClampNeg)))) r_) ((mo_rowI σ 29 0 ((mo_set1 σ day k).1)).1 29 0) 30)) from ?_); (try simp only [hkc, mo_rowI_r]); refine mo_wk ?_ hih; exact (And.intro rfl (And.intro rfl (And.intro rfl (And.intro rfl (And.intro rfl (And.intro rfl trivial)))))))
        · (have hih := ih (k + 1) (by omega) (by omega) trivial; simp only [hkc] at c3; have e : mo_set1 σ day (k + 1) = ((mo_set1 σ day k).1, (mo_set1 σ day k).2 + 1) := (mo_ite_t (by ((try simp only [hkc, mo_bl0, Classical.not_not, ← Int32.not_lt] at c2 ⊢); (try clear ih); (try clear hih); clear hK hQ; grind))).trans (mo_ite_t (mo_blT c3)); rw [nI_succ, e] at hih; refine hK _ _ _ _ (show mo_X g t_X0_settle Q 33 [some (.inr (.inr (28, 0))), some (.inr (.inr (18, 0))), some (.inr (.inr (23, 0))), some (.inl day), some (.inl (((mo_set1 σ day k).2) + (1 : Int32))), some (.inl ((nI k) + (1 : Int32))), some (.inl ((((mo_set1 σ day k).1) ((σ.1 19 0 ((nI k).toNatClampNeg)).toNatClampNeg)) ||| (((mo_set1 σ day k).1) ((σ.1 20 0 ((nI k).toNatClampNeg)).toNatClampNeg))))] [] (mo_rowI σ 29 0 ((mo_set1 σ day k).1)) from ?_); (try simp only [hkc, mo_rowI_r]); refine mo_wk ?_ hih; exact (And.intro rfl (And.intro rfl (And.intro rfl (And.intro rfl (And.intro rfl (And.intro rfl trivial)))))))
set_option maxRecDepth 20000 in
set_option maxHeartbeats 2000000 in
theorem lq_X0_settle (g : mo_E) (σ : mo_M) (Q : mo_Q) (day : Int32) (n : Nat) (hn : (30 : Int32) = nI n) (hle : n ≤ 30) (hX : mo_X g t_X0_settle Q 33 [some (.inr (.inr (28, 0))), some (.inr (.inr (18, 0))), some (.inr (.inr (23, 0))), some (.inl day), some (.inl (0 : Int32)), some (.inl (0 : Int32)), none] [] (mo_rowI σ 29 0 (mo_fo (fun k r => upd r k ((1 : Int32) <<< (nI k &&& 31))) (σ.1 29 0) n))) : ∀ (d k : Nat), n < k + d → k ≤ n → (True) → mo_X g t_X0_settle Q 3 [some (.inr (.inr (28, 0))), some (.inr (.inr (18, 0))), some (.inr (.inr (23, 0))), some (.inl day), some (.inl (nI k)), none, none] [] (mo_rowI σ 29 0 (mo_fo (fun k r => upd r k ((1 : Int32) <<< (nI k &&& 31))) (σ.1 29 0) k)) := by
  intro d
  induction d with
  | zero => intro k h1 h2; omega
  | succ d ih =>
    intro k h1 h2 hinv
    have hkc : (nI k).toNatClampNeg = k := mo_cl (by omega)
    refine mo_go ok_X0_settle (cs_X0_settle_ok g) [3, 33] 58 ?_
    intro K hK
    refine And.intro (fun (c1 : (30 : Int32) ≤ (nI k)) => ?_) (fun (c1 : ¬ (30 : Int32) ≤ (nI k)) => ?_)
    · have hk : n ≤ k := mo_cge hn (by omega) (by omega) c1
      (have e : k = n := (by omega); subst e; exact hK _ _ _ _ hX)
    · have hk : k < n := mo_clt hn (by omega) (by omega) c1
      refine And.intro (show vp_in (nI k) 30 by exact mo_inN (by omega) (by decide)) ?_
      (have hih := ih (k + 1) (by omega) (by omega) trivial; rw [nI_succ] at hih; refine hK _ _ _ _ (show mo_X g t_X0_settle Q 3 [some (.inr (.inr (28, 0))), some (.inr (.inr (18, 0))), some (.inr (.inr (23, 0))), some (.inl day), some (.inl ((nI k) + (1 : Int32))), none, none] [] (mo_wI (mo_rowI σ 29 0 (mo_fo (fun k r => upd r k ((1 : Int32) <<< (nI k &&& 31))) (σ.1 29 0) k)) 29 0 ((nI k).toNatClampNeg) ((1 : Int32) <<< ((nI k) &&& 31))) from ?_); simp only [hkc, mo_rowI_w]; exact hih)
set_option maxRecDepth 20000 in
set_option maxHeartbeats 2000000 in
theorem ct_X0_settle : mo_ct yX0_settle t_X0_settle S_X0_settle := by
  refine mo_ct_of (by decide) rfl ?_
  rintro g as σ Q ⟨day, rfl, hpre, hQ⟩
  refine ⟨Nat.le_of_ble_eq_true rfl, mo_go ok_X0_settle (cs_X0_settle_ok g) [3, 33] 58 ?_⟩
  intro K hK
  exact hK _ _ _ _ (by have h0 := lq_X0_settle g σ Q day 30 rfl (by omega) (lp_X0_settle g σ Q day _ hpre.1.1 hpre.1.2 hpre.2.1 hpre.2.2 hQ ((σ.1 18 0 4).toNatClampNeg + 1) 0 (by omega) (by omega) trivial) 31 0 (by omega) (by omega) trivial; rw [show mo_rowI σ 29 0 (mo_fo (fun k r => upd r k ((1 : Int32) <<< (nI k &&& 31))) (σ.1 29 0) 0) = σ from mo_rowI_id σ 29 0] at h0; exact h0)
