def S_X11_trace : mo_S := fun as σ Q => ∃ a : Int32, ∃ b : Int32, ∃ c : Int32, as = [.inr (.inr (0, 0)), .inl a, .inl b, .inl c] ∧ (((mo_le (σ.1 6 0 5) 200 ∧ ∀ k_, k_ < (σ.1 6 0 5).toNatClampNeg → vp_in (σ.1 7 0 k_) 60) ∧ ((mo_le (σ.1 18 0 4) 40 ∧ mo_le (σ.1 23 0 4) 40 ∧ ∀ k_, k_ < (σ.1 18 0 4).toNatClampNeg → vp_in (σ.1 19 0 k_) 30 ∧ vp_in (σ.1 20 0 k_) 30) ∧ vp_in a 20 ∧ vp_in (σ.1 39 a.toNatClampNeg 3) 30 ∧ mo_le (σ.1 3 0 2) 60 ∧ mo_le (σ.1 39 a.toNatClampNeg 2) 30)) ∧ ((¬ (mo_bt ((mo_hit σ a c (0 : Int32)).1) b) → (((mo_le (σ.1 6 0 5) 200 ∧ ∀ k_, k_ < (σ.1 6 0 5).toNatClampNeg → vp_in (σ.1 7 0 k_) 60) ∧ ((mo_le (σ.1 18 0 4) 40 ∧ mo_le (σ.1 23 0 4) 40 ∧ ∀ k_, k_ < (σ.1 18 0 4).toNatClampNeg → vp_in (σ.1 19 0 k_) 30 ∧ vp_in (σ.1 20 0 k_) 30) ∧ vp_in a 20 ∧ vp_in (σ.1 39 a.toNatClampNeg 3) 30 ∧ mo_le (σ.1 3 0 2) 60 ∧ mo_le (σ.1 39 a.toNatClampNeg 2) 30)) ∧ ((¬ (mo_bt ((mo_hit (mo_wI (mo_rowL (mo_rowI (mo_rowL σ 34 0 (mo_layR σ c (0 : Int32))) 29 0 (mo_grp σ c)) 35 0 ((mo_hit σ a c (0 : Int32)).2.2.1)) 33 0 2 (nI (mo_hit σ a c (0 : Int32)).2.2.2)) a c (1 : Int32)).1) b) → Q (some (.inl (0 : Int32))) (mo_wI (mo_rowL (mo_rowI (mo_rowL (mo_wI (mo_rowL (mo_rowI (mo_rowL σ 34 0 (mo_layR σ c (0 : Int32))) 29 0 (mo_grp σ c)) 35 0 ((mo_hit σ a c (0 : Int32)).2.2.1)) 33 0 2 (nI (mo_hit σ a c (0 : Int32)).2.2.2)) 34 0 (mo_layR (mo_wI (mo_rowL (mo_rowI (mo_rowL σ 34 0 (mo_layR σ c (0 : Int32))) 29 0 (mo_grp σ c)) 35 0 ((mo_hit σ a c (0 : Int32)).2.2.1)) 33 0 2 (nI (mo_hit σ a c (0 : Int32)).2.2.2)) c (1 : Int32))) 29 0 (mo_grp (mo_wI (mo_rowL (mo_rowI (mo_rowL σ 34 0 (mo_layR σ c (0 : Int32))) 29 0 (mo_grp σ c)) 35 0 ((mo_hit σ a c (0 : Int32)).2.2.1)) 33 0 2 (nI (mo_hit σ a c (0 : Int32)).2.2.2)) c)) 35 0 ((mo_hit (mo_wI (mo_rowL (mo_rowI (mo_rowL σ 34 0 (mo_layR σ c (0 : Int32))) 29 0 (mo_grp σ c)) 35 0 ((mo_hit σ a c (0 : Int32)).2.2.1)) 33 0 2 (nI (mo_hit σ a c (0 : Int32)).2.2.2)) a c (1 : Int32)).2.2.1)) 33 0 2 (nI (mo_hit (mo_wI (mo_rowL (mo_rowI (mo_rowL σ 34 0 (mo_layR σ c (0 : Int32))) 29 0 (mo_grp σ c)) 35 0 ((mo_hit σ a c (0 : Int32)).2.2.1)) 33 0 2 (nI (mo_hit σ a c (0 : Int32)).2.2.2)) a c (1 : Int32)).2.2.2))) ∧ (mo_bt ((mo_hit (mo_wI (mo_rowL (mo_rowI (mo_rowL σ 34 0 (mo_layR σ c (0 : Int32))) 29 0 (mo_grp σ c)) 35 0 ((mo_hit σ a c (0 : Int32)).2.2.1)) 33 0 2 (nI (mo_hit σ a c (0 : Int32)).2.2.2)) a c (1 : Int32)).1) b → Q (some (.inl (1 : Int32))) (mo_wI (mo_rowL (mo_rowI (mo_rowL (mo_wI (mo_rowL (mo_rowI (mo_rowL σ 34 0 (mo_layR σ c (0 : Int32))) 29 0 (mo_grp σ c)) 35 0 ((mo_hit σ a c (0 : Int32)).2.2.1)) 33 0 2 (nI (mo_hit σ a c (0 : Int32)).2.2.2)) 34 0 (mo_layR (mo_wI (mo_rowL (mo_rowI (mo_rowL σ 34 0 (mo_layR σ c (0 : Int32))) 29 0 (mo_grp σ c)) 35 0 ((mo_hit σ a c (0 : Int32)).2.2.1)) 33 0 2 (nI (mo_hit σ a c (0 : Int32)).2.2.2)) c (1 : Int32))) 29 0 (mo_grp (mo_wI (mo_rowL (mo_rowI (mo_rowL σ 34 0 (mo_layR σ c (0 : Int32))) 29 0 (mo_grp σ c)) 35 0 ((mo_hit σ a c (0 : Int32)).2.2.1)) 33 0 2 (nI (mo_hit σ a c (0 : Int32)).2.2.2)) c)) 35 0 ((mo_hit (mo_wI (mo_rowL (mo_rowI (mo_rowL σ 34 0 (mo_layR σ c (0 : Int32))) 29 0 (mo_grp σ c)) 35 0 ((mo_hit σ a c (0 : Int32)).2.2.1)) 33 0 2 (nI (mo_hit σ a c (0 : Int32)).2.2.2)) a c (1 : Int32)).2.2.1)) 33 0 2 (nI (mo_hit (mo_wI (mo_rowL (mo_rowI (mo_rowL σ 34 0 (mo_layR σ c (0 : Int32))) 29 0 (mo_grp σ c)) 35 0 ((mo_hit σ a c (0 : Int32)).2.2.1)) 33 0 2 (nI (mo_hit σ a c (0 : Int32)).2.2.2)) a c (1 : Int32)).2.2.2)))))) ∧ (mo_bt ((mo_hit σ a c (0 : Int32)).1) b → Q (some (.inl (2 : Int32))) (mo_wI (mo_rowL (mo_rowI (mo_rowL σ 34 0 (mo_layR σ c (0 : Int32))) 29 0 (mo_grp σ c)) 35 0 ((mo_hit σ a c (0 : Int32)).2.2.1)) 33 0 2 (nI (mo_hit σ a c (0 : Int32)).2.2.2)))))
theorem m_X11_trace : ∀ (as : List mo_V) (σ : mo_M) (P P' : mo_Q), (∀ x τ, P x τ → P' x τ) → S_X11_trace as σ P → S_X11_trace as σ P' := by
  rintro as σ P P' hm ⟨a, b, c, e, hq⟩
  exact ⟨a, b, c, e, ⟨hq.1, ⟨fun c1 => ⟨(hq.2.1 c1).1, ⟨fun c2 => hm _ _ ((hq.2.1 c1).2.1 c2), fun c2 => hm _ _ ((hq.2.1 c1).2.2 c2)⟩⟩, fun c1 => hm _ _ (hq.2.2 c1)⟩⟩⟩
def cs_X11_trace : Nat → mo_C := fun j => match j with
  | 0 => (4, true, 214, 11, S_X11_hitMakes)
  | 1 => (2, false, 201, 50, S_X11_contains)
  | _ => (0, false, 0, 50, fun _ _ _ => False)
theorem cs_X11_trace_ok (g : mo_E) : ∀ j, mo_cok g t_X11_trace (cs_X11_trace j) ∧ mo_mon (cs_X11_trace j) := by
  intro j
  unfold cs_X11_trace
  split
  · exact ⟨mo_cokV ct_X11_hitMakes (by decide) ⟨_, _, rfl⟩ (by decide +kernel), m_X11_hitMakes⟩
  · exact ⟨mo_cokS ct_X11_contains (by decide +kernel), m_X11_contains⟩
  · exact ⟨mo_cok0 g _, mo_mon0⟩
set_option maxRecDepth 20000 in
set_option maxHeartbeats 2000000 in
theorem ct_X11_trace : mo_ct yX11_trace t_X11_trace S_X11_trace := by
  refine mo_ct_of (by decide) rfl ?_
  rintro g as σ Q ⟨a, b, c, rfl, hQ⟩
  refine ⟨Nat.le_of_ble_eq_true rfl, mo_go ok_X11_trace (cs_X11_trace_ok g) [] 23 ?_⟩
  intro K hK
  refine Exists.intro a (Exists.intro c (Exists.intro (0 : Int32) (And.intro rfl (And.intro (show (mo_le (σ.1 6 0 5) 200 ∧ ∀ k_, k_ < (σ.1 6 0 5).toNatClampNeg → vp_in (σ.1 7 0 k_) 60) ∧ ((mo_le (σ.1 18 0 4) 40 ∧ mo_le (σ.1 23 0 4) 40 ∧ ∀ k_, k_ < (σ.1 18 0 4).toNatClampNeg → vp_in (σ.1 19 0 k_) 30 ∧ vp_in (σ.1 20 0 k_) 30) ∧ vp_in a 20 ∧ vp_in (σ.1 39 a.toNatClampNeg 3) 30 ∧ mo_le (σ.1 3 0 2) 60 ∧ mo_le (σ.1 39 a.toNatClampNeg 2) 30) from hQ.1) ?_))))
  refine Exists.intro ((mo_hit σ a c (0 : Int32)).1) (Exists.intro b (And.intro rfl (And.intro trivial ?_)))
  refine And.intro (fun (c1 : (mo_bl (mo_bt ((mo_hit σ a c (0 : Int32)).1) b)) = 0) => ?_) (fun (c1 : ¬ (mo_bl (mo_bt ((mo_hit σ a c (0 : Int32)).1) b)) = 0) => ?_)
  · replace c1 : ¬ (mo_bt ((mo_hit σ a c (0 : Int32)).1) b) := mo_bl0.mp c1
    refine Exists.intro a (Exists.intro c (Exists.intro (1 : Int32) (And.intro rfl (And.intro (show (mo_le (σ.1 6 0 5) 200 ∧ ∀ k_, k_ < (σ.1 6 0 5).toNatClampNeg → vp_in (σ.1 7 0 k_) 60) ∧ ((mo_le (σ.1 18 0 4) 40 ∧ mo_le (σ.1 23 0 4) 40 ∧ ∀ k_, k_ < (σ.1 18 0 4).toNatClampNeg → vp_in (σ.1 19 0 k_) 30 ∧ vp_in (σ.1 20 0 k_) 30) ∧ vp_in a 20 ∧ vp_in (σ.1 39 a.toNatClampNeg 3) 30 ∧ mo_le (σ.1 3 0 2) 60 ∧ mo_le (σ.1 39 a.toNatClampNeg 2) 30) from (hQ.2.1 c1).1) ?_))))
    refine Exists.intro ((mo_hit (mo_wI (mo_rowL (mo_rowI (mo_rowL σ 34 0 (mo_layR σ c (0 : Int32))) 29 0 (mo_grp σ c)) 35 0 ((mo_hit σ a c (0 : Int32)).2.2.1)) 33 0 2 (nI (mo_hit σ a c (0 : Int32)).2.2.2)) a c (1 : Int32)).1) (Exists.intro b (And.intro rfl (And.intro trivial ?_)))
    refine And.intro (fun (c2 : (mo_bl (mo_bt ((mo_hit (mo_wI (mo_rowL (mo_rowI (mo_rowL σ 34 0 (mo_layR σ c (0 : Int32))) 29 0 (mo_grp σ c)) 35 0 ((mo_hit σ a c (0 : Int32)).2.2.1)) 33 0 2 (nI (mo_hit σ a c (0 : Int32)).2.2.2)) a c (1 : Int32)).1) b)) = 0) => ?_) (fun (c2 : ¬ (mo_bl (mo_bt ((mo_hit (mo_wI (mo_rowL (mo_rowI (mo_rowL σ 34 0 (mo_layR σ c (0 : Int32))) 29 0 (mo_grp σ c)) 35 0 ((mo_hit σ a c (0 : Int32)).2.2.1)) 33 0 2 (nI (mo_hit σ a c (0 : Int32)).2.2.2)) a c (1 : Int32)).1) b)) = 0) => ?_)
    · replace c2 : ¬ (mo_bt ((mo_hit (mo_wI (mo_rowL (mo_rowI (mo_rowL σ 34 0 (mo_layR σ c (0 : Int32))) 29 0 (mo_grp σ c)) 35 0 ((mo_hit σ a c (0 : Int32)).2.2.1)) 33 0 2 (nI (mo_hit σ a c (0 : Int32)).2.2.2)) a c (1 : Int32)).1) b) := mo_bl0.mp c2
      exact ((hQ.2.1 c1).2.1 c2)
    · replace c2 : mo_bt ((mo_hit (mo_wI (mo_rowL (mo_rowI (mo_rowL σ 34 0 (mo_layR σ c (0 : Int32))) 29 0 (mo_grp σ c)) 35 0 ((mo_hit σ a c (0 : Int32)).2.2.1)) 33 0 2 (nI (mo_hit σ a c (0 : Int32)).2.2.2)) a c (1 : Int32)).1) b := mo_blT c2
      exact ((hQ.2.1 c1).2.2 c2)
  · replace c1 : mo_bt ((mo_hit σ a c (0 : Int32)).1) b := mo_blT c1
    exact (hQ.2.2 c1)
def S_X11_bad : mo_S := fun as σ Q => ∃ a : Int32, ∃ b : Int32, ∃ c : Int32, as = [.inr (.inr (0, 0)), .inl a, .inl b, .inl c] ∧ ((¬ (0 ≤ a ∧ a < σ.1 0 0 12) → Q (some (.inl (-1 : Int32))) (σ)) ∧ (0 ≤ a ∧ a < σ.1 0 0 12 → ((¬ (0 ≤ b ∧ b < σ.1 3 0 2) → Q (some (.inl (-1 : Int32))) (σ)) ∧ (0 ≤ b ∧ b < σ.1 3 0 2 → ((0 ≤ c ∧ c ≤ (10000 : Int32) → (((mo_le (σ.1 18 0 4) 40 ∧ mo_le (σ.1 23 0 4) 40 ∧ ∀ k_, k_ < (σ.1 18 0 4).toNatClampNeg → vp_in (σ.1 19 0 k_) 30 ∧ vp_in (σ.1 20 0 k_) 30) ∧ vp_in a 20 ∧ vp_in (σ.1 39 a.toNatClampNeg 3) 30 ∧ mo_le (σ.1 3 0 2) 60 ∧ mo_le (σ.1 39 a.toNatClampNeg 2) 30) ∧ ((¬ (mo_bt (mo_badS σ a c) b) → Q (some (.inl (0 : Int32))) (mo_rowI σ 29 0 (mo_grp σ c))) ∧ (mo_bt (mo_badS σ a c) b → Q (some (.inl (1 : Int32))) (mo_rowI σ 29 0 (mo_grp σ c)))))) ∧ (¬ (0 ≤ c ∧ c ≤ (10000 : Int32)) → Q (some (.inl (-1 : Int32))) (σ)))))))
theorem m_X11_bad : ∀ (as : List mo_V) (σ : mo_M) (P P' : mo_Q), (∀ x τ, P x τ → P' x τ) → S_X11_bad as σ P → S_X11_bad as σ P' := by
  rintro as σ P P' hm ⟨a, b, c, e, hq⟩
  exact ⟨a, b, c, e, ⟨fun c1 => hm _ _ (hq.1 c1), fun c1 => ⟨fun c2 => hm _ _ ((hq.2 c1).1 c2), fun c2 => ⟨fun c3 => ⟨(((hq.2 c1).2 c2).1 c3).1, ⟨fun c4 => hm _ _ ((((hq.2 c1).2 c2).1 c3).2.1 c4), fun c4 => hm _ _ ((((hq.2 c1).2 c2).1 c3).2.2 c4)⟩⟩, fun c3 => hm _ _ (((hq.2 c1).2 c2).2 c3)⟩⟩⟩⟩
def cs_X11_bad : Nat → mo_C := fun j => match j with
  | 0 => (2, true, 194, 11, S_X11_isWarning)
  | 1 => (2, true, 140, 11, S_X11_isMake)
  | 2 => (1, false, 137, 50, S_X11_isDay)
  | 3 => (3, true, 197, 11, S_X11_badMakes)
  | 4 => (2, false, 201, 50, S_X11_contains)
  | _ => (0, false, 0, 50, fun _ _ _ => False)
theorem cs_X11_bad_ok (g : mo_E) : ∀ j, mo_cok g t_X11_bad (cs_X11_bad j) ∧ mo_mon (cs_X11_bad j) := by
  intro j
  unfold cs_X11_bad
  split
  · exact ⟨mo_cokV ct_X11_isWarning (by decide) ⟨_, _, rfl⟩ (by decide +kernel), m_X11_isWarning⟩
  · exact ⟨mo_cokV ct_X11_isMake (by decide) ⟨_, _, rfl⟩ (by decide +kernel), m_X11_isMake⟩
  · exact ⟨mo_cokS ct_X11_isDay (by decide +kernel), m_X11_isDay⟩
  · exact ⟨mo_cokV ct_X11_badMakes (by decide) ⟨_, _, rfl⟩ (by decide +kernel), m_X11_badMakes⟩
  · exact ⟨mo_cokS ct_X11_contains (by decide +kernel), m_X11_contains⟩
  · exact ⟨mo_cok0 g _, mo_mon0⟩
set_option maxRecDepth 20000 in
set_option maxHeartbeats 2000000 in
theorem ct_X11_bad : mo_ct yX11_bad t_X11_bad S_X11_bad := by
  refine mo_ct_of (by decide) rfl ?_
  rintro g as σ Q ⟨a, b, c, rfl, hQ⟩
  refine ⟨Nat.le_of_ble_eq_true rfl, mo_go ok_X11_bad (cs_X11_bad_ok g) [] 25 ?_⟩
  intro K hK
  refine Exists.intro a (And.intro rfl (And.intro trivial ?_))
  refine And.intro (fun (c1 : (mo_bl (0 ≤ a ∧ a < σ.1 0 0 12)) = 0) => ?_) (fun (c1 : ¬ (mo_bl (0 ≤ a ∧ a < σ.1 0 0 12)) = 0) => ?_)
  · replace c1 : ¬ (0 ≤ a ∧ a < σ.1 0 0 12) := mo_bl0.mp c1
    exact (hQ.1 c1)
  · replace c1 : 0 ≤ a ∧ a < σ.1 0 0 12 := mo_blT c1
    refine Exists.intro b (And.intro rfl (And.intro trivial ?_))
    refine And.intro (fun (c2 : (mo_bl (0 ≤ b ∧ b < σ.1 3 0 2)) = 0) => ?_) (fun (c2 : ¬ (mo_bl (0 ≤ b ∧ b < σ.1 3 0 2)) = 0) => ?_)
    · replace c2 : ¬ (0 ≤ b ∧ b < σ.1 3 0 2) := mo_bl0.mp c2
      exact ((hQ.2 c1).1 c2)
    · replace c2 : 0 ≤ b ∧ b < σ.1 3 0 2 := mo_blT c2
      refine Exists.intro c (And.intro rfl (And.intro trivial ?_))
      refine And.intro (fun (c3 : ¬ (mo_bl (0 ≤ c ∧ c ≤ (10000 : Int32))) = 0) => ?_) (fun (c3 : (mo_bl (0 ≤ c ∧ c ≤ (10000 : Int32))) = 0) => ?_)
      · replace c3 : 0 ≤ c ∧ c ≤ (10000 : Int32) := mo_blT c3
        refine Exists.intro a (Exists.intro c (And.intro rfl (And.intro (show (mo_le (σ.1 18 0 4) 40 ∧ mo_le (σ.1 23 0 4) 40 ∧ ∀ k_, k_ < (σ.1 18 0 4).toNatClampNeg → vp_in (σ.1 19 0 k_) 30 ∧ vp_in (σ.1 20 0 k_) 30) ∧ vp_in a 20 ∧ vp_in (σ.1 39 a.toNatClampNeg 3) 30 ∧ mo_le (σ.1 3 0 2) 60 ∧ mo_le (σ.1 39 a.toNatClampNeg 2) 30 from (((hQ.2 c1).2 c2).1 c3).1) ?_)))
        refine Exists.intro (mo_badS σ a c) (Exists.intro b (And.intro rfl (And.intro trivial ?_)))
        refine And.intro (fun (c4 : (mo_bl (mo_bt (mo_badS σ a c) b)) = 0) => ?_) (fun (c4 : ¬ (mo_bl (mo_bt (mo_badS σ a c) b)) = 0) => ?_)
        · replace c4 : ¬ (mo_bt (mo_badS σ a c) b) := mo_bl0.mp c4
          exact ((((hQ.2 c1).2 c2).1 c3).2.1 c4)
        · replace c4 : mo_bt (mo_badS σ a c) b := mo_blT c4
          exact ((((hQ.2 c1).2 c2).1 c3).2.2 c4)
      · replace c3 : ¬ (0 ≤ c ∧ c ≤ (10000 : Int32)) := mo_bl0.mp c3
        exact (((hQ.2 c1).2 c2).2 c3)
def S_X11_hit : mo_S := fun as σ Q => ∃ a : Int32, ∃ b : Int32, ∃ c : Int32, as = [.inr (.inr (0, 0)), .inl a, .inl b, .inl c] ∧ ((¬ (0 ≤ a ∧ a < σ.1 0 0 12) → Q (some (.inl (-1 : Int32))) (σ)) ∧ (0 ≤ a ∧ a < σ.1 0 0 12 → ((¬ (0 ≤ b ∧ b < σ.1 3 0 2) → Q (some (.inl (-1 : Int32))) (σ)) ∧ (0 ≤ b ∧ b < σ.1 3 0 2 → ((0 ≤ c ∧ c ≤ (10000 : Int32) → (((mo_le (σ.1 6 0 5) 200 ∧ ∀ k_, k_ < (σ.1 6 0 5).toNatClampNeg → vp_in (σ.1 7 0 k_) 60) ∧ ((mo_le (σ.1 18 0 4) 40 ∧ mo_le (σ.1 23 0 4) 40 ∧ ∀ k_, k_ < (σ.1 18 0 4).toNatClampNeg → vp_in (σ.1 19 0 k_) 30 ∧ vp_in (σ.1 20 0 k_) 30) ∧ vp_in a 20 ∧ vp_in (σ.1 39 a.toNatClampNeg 3) 30 ∧ mo_le (σ.1 3 0 2) 60 ∧ mo_le (σ.1 39 a.toNatClampNeg 2) 30)) ∧ ((¬ (mo_bt ((mo_hit σ a c (0 : Int32)).1) b) → (((mo_le (σ.1 6 0 5) 200 ∧ ∀ k_, k_ < (σ.1 6 0 5).toNatClampNeg → vp_in (σ.1 7 0 k_) 60) ∧ ((mo_le (σ.1 18 0 4) 40 ∧ mo_le (σ.1 23 0 4) 40 ∧ ∀ k_, k_ < (σ.1 18 0 4).toNatClampNeg → vp_in (σ.1 19 0 k_) 30 ∧ vp_in (σ.1 20 0 k_) 30) ∧ vp_in a 20 ∧ vp_in (σ.1 39 a.toNatClampNeg 3) 30 ∧ mo_le (σ.1 3 0 2) 60 ∧ mo_le (σ.1 39 a.toNatClampNeg 2) 30)) ∧ ((¬ (mo_bt ((mo_hit (mo_wI (mo_rowL (mo_rowI (mo_rowL σ 34 0 (mo_layR σ c (0 : Int32))) 29 0 (mo_grp σ c)) 35 0 ((mo_hit σ a c (0 : Int32)).2.2.1)) 33 0 2 (nI (mo_hit σ a c (0 : Int32)).2.2.2)) a c (1 : Int32)).1) b) → Q (some (.inl (0 : Int32))) (mo_wI (mo_rowL (mo_rowI (mo_rowL (mo_wI (mo_rowL (mo_rowI (mo_rowL σ 34 0 (mo_layR σ c (0 : Int32))) 29 0 (mo_grp σ c)) 35 0 ((mo_hit σ a c (0 : Int32)).2.2.1)) 33 0 2 (nI (mo_hit σ a c (0 : Int32)).2.2.2)) 34 0 (mo_layR (mo_wI (mo_rowL (mo_rowI (mo_rowL σ 34 0 (mo_layR σ c (0 : Int32))) 29 0 (mo_grp σ c)) 35 0 ((mo_hit σ a c (0 : Int32)).2.2.1)) 33 0 2 (nI (mo_hit σ a c (0 : Int32)).2.2.2)) c (1 : Int32))) 29 0 (mo_grp (mo_wI (mo_rowL (mo_rowI (mo_rowL σ 34 0 (mo_layR σ c (0 : Int32))) 29 0 (mo_grp σ c)) 35 0 ((mo_hit σ a c (0 : Int32)).2.2.1)) 33 0 2 (nI (mo_hit σ a c (0 : Int32)).2.2.2)) c)) 35 0 ((mo_hit (mo_wI (mo_rowL (mo_rowI (mo_rowL σ 34 0 (mo_layR σ c (0 : Int32))) 29 0 (mo_grp σ c)) 35 0 ((mo_hit σ a c (0 : Int32)).2.2.1)) 33 0 2 (nI (mo_hit σ a c (0 : Int32)).2.2.2)) a c (1 : Int32)).2.2.1)) 33 0 2 (nI (mo_hit (mo_wI (mo_rowL (mo_rowI (mo_rowL σ 34 0 (mo_layR σ c (0 : Int32))) 29 0 (mo_grp σ c)) 35 0 ((mo_hit σ a c (0 : Int32)).2.2.1)) 33 0 2 (nI (mo_hit σ a c (0 : Int32)).2.2.2)) a c (1 : Int32)).2.2.2))) ∧ (mo_bt ((mo_hit (mo_wI (mo_rowL (mo_rowI (mo_rowL σ 34 0 (mo_layR σ c (0 : Int32))) 29 0 (mo_grp σ c)) 35 0 ((mo_hit σ a c (0 : Int32)).2.2.1)) 33 0 2 (nI (mo_hit σ a c (0 : Int32)).2.2.2)) a c (1 : Int32)).1) b → Q (some (.inl (1 : Int32))) (mo_wI (mo_rowL (mo_rowI (mo_rowL (mo_wI (mo_rowL (mo_rowI (mo_rowL σ 34 0 (mo_layR σ c (0 : Int32))) 29 0 (mo_grp σ c)) 35 0 ((mo_hit σ a c (0 : Int32)).2.2.1)) 33 0 2 (nI (mo_hit σ a c (0 : Int32)).2.2.2)) 34 0 (mo_layR (mo_wI (mo_rowL (mo_rowI (mo_rowL σ 34 0 (mo_layR σ c (0 : Int32))) 29 0 (mo_grp σ c)) 35 0 ((mo_hit σ a c (0 : Int32)).2.2.1)) 33 0 2 (nI (mo_hit σ a c (0 : Int32)).2.2.2)) c (1 : Int32))) 29 0 (mo_grp (mo_wI (mo_rowL (mo_rowI (mo_rowL σ 34 0 (mo_layR σ c (0 : Int32))) 29 0 (mo_grp σ c)) 35 0 ((mo_hit σ a c (0 : Int32)).2.2.1)) 33 0 2 (nI (mo_hit σ a c (0 : Int32)).2.2.2)) c)) 35 0 ((mo_hit (mo_wI (mo_rowL (mo_rowI (mo_rowL σ 34 0 (mo_layR σ c (0 : Int32))) 29 0 (mo_grp σ c)) 35 0 ((mo_hit σ a c (0 : Int32)).2.2.1)) 33 0 2 (nI (mo_hit σ a c (0 : Int32)).2.2.2)) a c (1 : Int32)).2.2.1)) 33 0 2 (nI (mo_hit (mo_wI (mo_rowL (mo_rowI (mo_rowL σ 34 0 (mo_layR σ c (0 : Int32))) 29 0 (mo_grp σ c)) 35 0 ((mo_hit σ a c (0 : Int32)).2.2.1)) 33 0 2 (nI (mo_hit σ a c (0 : Int32)).2.2.2)) a c (1 : Int32)).2.2.2)))))) ∧ (mo_bt ((mo_hit σ a c (0 : Int32)).1) b → Q (some (.inl (2 : Int32))) (mo_wI (mo_rowL (mo_rowI (mo_rowL σ 34 0 (mo_layR σ c (0 : Int32))) 29 0 (mo_grp σ c)) 35 0 ((mo_hit σ a c (0 : Int32)).2.2.1)) 33 0 2 (nI (mo_hit σ a c (0 : Int32)).2.2.2)))))) ∧ (¬ (0 ≤ c ∧ c ≤ (10000 : Int32)) → Q (some (.inl (-1 : Int32))) (σ)))))))
theorem m_X11_hit : ∀ (as : List mo_V) (σ : mo_M) (P P' : mo_Q), (∀ x τ, P x τ → P' x τ) → S_X11_hit as σ P → S_X11_hit as σ P' := by
  rintro as σ P P' hm ⟨a, b, c, e, hq⟩
  exact ⟨a, b, c, e, ⟨fun c1 => hm _ _ (hq.1 c1), fun c1 => ⟨fun c2 => hm _ _ ((hq.2 c1).1 c2), fun c2 => ⟨fun c3 => ⟨(((hq.2 c1).2 c2).1 c3).1, ⟨fun c4 => ⟨((((hq.2 c1).2 c2).1 c3).2.1 c4).1, ⟨fun c5 => hm _ _ (((((hq.2 c1).2 c2).1 c3).2.1 c4).2.1 c5), fun c5 => hm _ _ (((((hq.2 c1).2 c2).1 c3).2.1 c4).2.2 c5)⟩⟩, fun c4 => hm _ _ ((((hq.2 c1).2 c2).1 c3).2.2 c4)⟩⟩, fun c3 => hm _ _ (((hq.2 c1).2 c2).2 c3)⟩⟩⟩⟩
def cs_X11_hit : Nat → mo_C := fun j => match j with
  | 0 => (2, true, 194, 11, S_X11_isWarning)
  | 1 => (2, true, 140, 11, S_X11_isMake)
  | 2 => (1, false, 137, 50, S_X11_isDay)
  | 3 => (4, true, 205, 11, S_X11_trace)
  | _ => (0, false, 0, 50, fun _ _ _ => False)
theorem cs_X11_hit_ok (g : mo_E) : ∀ j, mo_cok g t_X11_hit (cs_X11_hit j) ∧ mo_mon (cs_X11_hit j) := by
  intro j
  unfold cs_X11_hit
  split
  · exact ⟨mo_cokV ct_X11_isWarning (by decide) ⟨_, _, rfl⟩ (by decide +kernel), m_X11_isWarning⟩
  · exact ⟨mo_cokV ct_X11_isMake (by decide) ⟨_, _, rfl⟩ (by decide +kernel), m_X11_isMake⟩
  · exact ⟨mo_cokS ct_X11_isDay (by decide +kernel), m_X11_isDay⟩
  · exact ⟨mo_cokV ct_X11_trace (by decide) ⟨_, _, rfl⟩ (by decide +kernel), m_X11_trace⟩
  · exact ⟨mo_cok0 g _, mo_mon0⟩
set_option maxRecDepth 20000 in
set_option maxHeartbeats 2000000 in
theorem ct_X11_hit : mo_ct yX11_hit t_X11_hit S_X11_hit := by
  refine mo_ct_of (by decide) rfl ?_
  rintro g as σ Q ⟨a, b, c, rfl, hQ⟩
  refine ⟨Nat.le_of_ble_eq_true rfl, mo_go ok_X11_hit (cs_X11_hit_ok g) [] 20 ?_⟩
  intro K hK
  refine Exists.intro a (And.intro rfl (And.intro trivial ?_))
  refine And.intro (fun (c1 : (mo_bl (0 ≤ a ∧ a < σ.1 0 0 12)) = 0) => ?_) (fun (c1 : ¬ (mo_bl (0 ≤ a ∧ a < σ.1 0 0 12)) = 0) => ?_)
  · replace c1 : ¬ (0 ≤ a ∧ a < σ.1 0 0 12) := mo_bl0.mp c1
    exact (hQ.1 c1)
  · replace c1 : 0 ≤ a ∧ a < σ.1 0 0 12 := mo_blT c1
    refine Exists.intro b (And.intro rfl (And.intro trivial ?_))
    refine And.intro (fun (c2 : (mo_bl (0 ≤ b ∧ b < σ.1 3 0 2)) = 0) => ?_) (fun (c2 : ¬ (mo_bl (0 ≤ b ∧ b < σ.1 3 0 2)) = 0) => ?_)
    · replace c2 : ¬ (0 ≤ b ∧ b < σ.1 3 0 2) := mo_bl0.mp c2
      exact ((hQ.2 c1).1 c2)
    · replace c2 : 0 ≤ b ∧ b < σ.1 3 0 2 := mo_blT c2
      refine Exists.intro c (And.intro rfl (And.intro trivial ?_))
      refine And.intro (fun (c3 : ¬ (mo_bl (0 ≤ c ∧ c ≤ (10000 : Int32))) = 0) => ?_) (fun (c3 : (mo_bl (0 ≤ c ∧ c ≤ (10000 : Int32))) = 0) => ?_)
      · replace c3 : 0 ≤ c ∧ c ≤ (10000 : Int32) := mo_blT c3
        refine Exists.intro a (Exists.intro b (Exists.intro c (And.intro rfl ?_)))
        refine And.intro (show (mo_le (σ.1 6 0 5) 200 ∧ ∀ k_, k_ < (σ.1 6 0 5).toNatClampNeg → vp_in (σ.1 7 0 k_) 60) ∧ ((mo_le (σ.1 18 0 4) 40 ∧ mo_le (σ.1 23 0 4) 40 ∧ ∀ k_, k_ < (σ.1 18 0 4).toNatClampNeg → vp_in (σ.1 19 0 k_) 30 ∧ vp_in (σ.1 20 0 k_) 30) ∧ vp_in a 20 ∧ vp_in (σ.1 39 a.toNatClampNeg 3) 30 ∧ mo_le (σ.1 3 0 2) 60 ∧ mo_le (σ.1 39 a.toNatClampNeg 2) 30) from (((hQ.2 c1).2 c2).1 c3).1) ?_
        refine And.intro (fun (c4 : ¬ (mo_bt ((mo_hit σ a c (0 : Int32)).1) b)) => ?_) (fun (c4 : mo_bt ((mo_hit σ a c (0 : Int32)).1) b) => ?_)
        · refine And.intro (show (mo_le (σ.1 6 0 5) 200 ∧ ∀ k_, k_ < (σ.1 6 0 5).toNatClampNeg → vp_in (σ.1 7 0 k_) 60) ∧ ((mo_le (σ.1 18 0 4) 40 ∧ mo_le (σ.1 23 0 4) 40 ∧ ∀ k_, k_ < (σ.1 18 0 4).toNatClampNeg → vp_in (σ.1 19 0 k_) 30 ∧ vp_in (σ.1 20 0 k_) 30) ∧ vp_in a 20 ∧ vp_in (σ.1 39 a.toNatClampNeg 3) 30 ∧ mo_le (σ.1 3 0 2) 60 ∧ mo_le (σ.1 39 a.toNatClampNeg 2) 30) from ((((hQ.2 c1).2 c2).1 c3).2.1 c4).1) ?_
          refine And.intro (fun (c5 : ¬ (mo_bt ((mo_hit (mo_wI (mo_rowL (mo_rowI (mo_rowL σ 34 0 (mo_layR σ c (0 : Int32))) 29 0 (mo_grp σ c)) 35 0 ((mo_hit σ a c (0 : Int32)).2.2.1)) 33 0 2 (nI (mo_hit σ a c (0 : Int32)).2.2.2)) a c (1 : Int32)).1) b)) => ?_) (fun (c5 : mo_bt ((mo_hit (mo_wI (mo_rowL (mo_rowI (mo_rowL σ 34 0 (mo_layR σ c (0 : Int32))) 29 0 (mo_grp σ c)) 35 0 ((mo_hit σ a c (0 : Int32)).2.2.1)) 33 0 2 (nI (mo_hit σ a c (0 : Int32)).2.2.2)) a c (1 : Int32)).1) b) => ?_)
          · exact (((((hQ.2 c1).2 c2).1 c3).2.1 c4).2.1 c5)
          · exact (((((hQ.2 c1).2 c2).1 c3).2.1 c4).2.2 c5)
        · exact ((((hQ.2 c1).2 c2).1 c3).2.2 c4)
      · replace c3 : ¬ (0 ≤ c ∧ c ≤ (10000 : Int32)) := mo_bl0.mp c3
        exact (((hQ.2 c1).2 c2).2 c3)
def S_X11_has : mo_S := fun as σ Q => ∃ a : Int32, ∃ b : Int32, ∃ c : Int32, ∃ d : Int32, as = [.inr (.inr (0, 0)), .inl a, .inl b, .inl c, .inl d] ∧ ((¬ (0 ≤ a ∧ a < σ.1 0 0 12) → Q (some (.inl (-1 : Int32))) (σ)) ∧ (0 ≤ a ∧ a < σ.1 0 0 12 → ((¬ (0 ≤ b ∧ b ≤ (29 : Int32)) → Q (some (.inl (-1 : Int32))) (σ)) ∧ (0 ≤ b ∧ b ≤ (29 : Int32) → ((¬ (0 ≤ c ∧ c ≤ (10000 : Int32)) → Q (some (.inl (-1 : Int32))) (σ)) ∧ (0 ≤ c ∧ c ≤ (10000 : Int32) → ((0 ≤ d ∧ d ≤ (10000 : Int32) → (((mo_le (σ.1 6 0 5) 200 ∧ ∀ k_, k_ < (σ.1 6 0 5).toNatClampNeg → vp_in (σ.1 7 0 k_) 60) ∧ ((mo_le (σ.1 18 0 4) 40 ∧ mo_le (σ.1 23 0 4) 40 ∧ ∀ k_, k_ < (σ.1 18 0 4).toNatClampNeg → vp_in (σ.1 19 0 k_) 30 ∧ vp_in (σ.1 20 0 k_) 30) ∧ vp_in a 20 ∧ vp_in (σ.1 39 a.toNatClampNeg 3) 30 ∧ mo_le (σ.1 3 0 2) 60 ∧ mo_le (σ.1 39 a.toNatClampNeg 2) 30)) ∧ ((mo_le (σ.1 12 0 5) 100) ∧ ((¬ (mo_bt ((mo_fo (fun k_ a_ => mo_ite ((σ.1 17 0 k_ ≤ d ∧ mo_bt ((mo_hit σ a d (0 : Int32)).1) (σ.1 14 0 k_)) ∧ σ.1 15 0 k_ ≤ c ∧ c ≤ σ.1 16 0 k_) (a_ ||| (1 : Int32) <<< (σ.1 13 0 k_ &&& 31)) a_) 0 (σ.1 12 0 5).toNatClampNeg).toInt64) b) → (((mo_le (σ.1 6 0 5) 200 ∧ ∀ k_, k_ < (σ.1 6 0 5).toNatClampNeg → vp_in (σ.1 7 0 k_) 60) ∧ ((mo_le (σ.1 18 0 4) 40 ∧ mo_le (σ.1 23 0 4) 40 ∧ ∀ k_, k_ < (σ.1 18 0 4).toNatClampNeg → vp_in (σ.1 19 0 k_) 30 ∧ vp_in (σ.1 20 0 k_) 30) ∧ vp_in a 20 ∧ vp_in (σ.1 39 a.toNatClampNeg 3) 30 ∧ mo_le (σ.1 3 0 2) 60 ∧ mo_le (σ.1 39 a.toNatClampNeg 2) 30)) ∧ ((mo_le (σ.1 12 0 5) 100) ∧ ((¬ (mo_bt ((mo_fo (fun k_ a_ => mo_ite ((σ.1 17 0 k_ ≤ d ∧ mo_bt ((mo_hit (mo_wI (mo_rowL (mo_rowI (mo_rowL σ 34 0 (mo_layR σ d (0 : Int32))) 29 0 (mo_grp σ d)) 35 0 ((mo_hit σ a d (0 : Int32)).2.2.1)) 33 0 2 (nI (mo_hit σ a d (0 : Int32)).2.2.2)) a d (1 : Int32)).1) (σ.1 14 0 k_)) ∧ σ.1 15 0 k_ ≤ c ∧ c ≤ σ.1 16 0 k_) (a_ ||| (1 : Int32) <<< (σ.1 13 0 k_ &&& 31)) a_) 0 (σ.1 12 0 5).toNatClampNeg).toInt64) b) → Q (some (.inl (0 : Int32))) (mo_wI (mo_rowL (mo_rowI (mo_rowL (mo_wI (mo_rowL (mo_rowI (mo_rowL σ 34 0 (mo_layR σ d (0 : Int32))) 29 0 (mo_grp σ d)) 35 0 ((mo_hit σ a d (0 : Int32)).2.2.1)) 33 0 2 (nI (mo_hit σ a d (0 : Int32)).2.2.2)) 34 0 (mo_layR (mo_wI (mo_rowL (mo_rowI (mo_rowL σ 34 0 (mo_layR σ d (0 : Int32))) 29 0 (mo_grp σ d)) 35 0 ((mo_hit σ a d (0 : Int32)).2.2.1)) 33 0 2 (nI (mo_hit σ a d (0 : Int32)).2.2.2)) d (1 : Int32))) 29 0 (mo_grp (mo_wI (mo_rowL (mo_rowI (mo_rowL σ 34 0 (mo_layR σ d (0 : Int32))) 29 0 (mo_grp σ d)) 35 0 ((mo_hit σ a d (0 : Int32)).2.2.1)) 33 0 2 (nI (mo_hit σ a d (0 : Int32)).2.2.2)) d)) 35 0 ((mo_hit (mo_wI (mo_rowL (mo_rowI (mo_rowL σ 34 0 (mo_layR σ d (0 : Int32))) 29 0 (mo_grp σ d)) 35 0 ((mo_hit σ a d (0 : Int32)).2.2.1)) 33 0 2 (nI (mo_hit σ a d (0 : Int32)).2.2.2)) a d (1 : Int32)).2.2.1)) 33 0 2 (nI (mo_hit (mo_wI (mo_rowL (mo_rowI (mo_rowL σ 34 0 (mo_layR σ d (0 : Int32))) 29 0 (mo_grp σ d)) 35 0 ((mo_hit σ a d (0 : Int32)).2.2.1)) 33 0 2 (nI (mo_hit σ a d (0 : Int32)).2.2.2)) a d (1 : Int32)).2.2.2))) ∧ (mo_bt ((mo_fo (fun k_ a_ => mo_ite ((σ.1 17 0 k_ ≤ d ∧ mo_bt ((mo_hit (mo_wI (mo_rowL (mo_rowI (mo_rowL σ 34 0 (mo_layR σ d (0 : Int32))) 29 0 (mo_grp σ d)) 35 0 ((mo_hit σ a d (0 : Int32)).2.2.1)) 33 0 2 (nI (mo_hit σ a d (0 : Int32)).2.2.2)) a d (1 : Int32)).1) (σ.1 14 0 k_)) ∧ σ.1 15 0 k_ ≤ c ∧ c ≤ σ.1 16 0 k_) (a_ ||| (1 : Int32) <<< (σ.1 13 0 k_ &&& 31)) a_) 0 (σ.1 12 0 5).toNatClampNeg).toInt64) b → Q (some (.inl (1 : Int32))) (mo_wI (mo_rowL (mo_rowI (mo_rowL (mo_wI (mo_rowL (mo_rowI (mo_rowL σ 34 0 (mo_layR σ d (0 : Int32))) 29 0 (mo_grp σ d)) 35 0 ((mo_hit σ a d (0 : Int32)).2.2.1)) 33 0 2 (nI (mo_hit σ a d (0 : Int32)).2.2.2)) 34 0 (mo_layR (mo_wI (mo_rowL (mo_rowI (mo_rowL σ 34 0 (mo_layR σ d (0 : Int32))) 29 0 (mo_grp σ d)) 35 0 ((mo_hit σ a d (0 : Int32)).2.2.1)) 33 0 2 (nI (mo_hit σ a d (0 : Int32)).2.2.2)) d (1 : Int32))) 29 0 (mo_grp (mo_wI (mo_rowL (mo_rowI (mo_rowL σ 34 0 (mo_layR σ d (0 : Int32))) 29 0 (mo_grp σ d)) 35 0 ((mo_hit σ a d (0 : Int32)).2.2.1)) 33 0 2 (nI (mo_hit σ a d (0 : Int32)).2.2.2)) d)) 35 0 ((mo_hit (mo_wI (mo_rowL (mo_rowI (mo_rowL σ 34 0 (mo_layR σ d (0 : Int32))) 29 0 (mo_grp σ d)) 35 0 ((mo_hit σ a d (0 : Int32)).2.2.1)) 33 0 2 (nI (mo_hit σ a d (0 : Int32)).2.2.2)) a d (1 : Int32)).2.2.1)) 33 0 2 (nI (mo_hit (mo_wI (mo_rowL (mo_rowI (mo_rowL σ 34 0 (mo_layR σ d (0 : Int32))) 29 0 (mo_grp σ d)) 35 0 ((mo_hit σ a d (0 : Int32)).2.2.1)) 33 0 2 (nI (mo_hit σ a d (0 : Int32)).2.2.2)) a d (1 : Int32)).2.2.2))))))) ∧ (mo_bt ((mo_fo (fun k_ a_ => mo_ite ((σ.1 17 0 k_ ≤ d ∧ mo_bt ((mo_hit σ a d (0 : Int32)).1) (σ.1 14 0 k_)) ∧ σ.1 15 0 k_ ≤ c ∧ c ≤ σ.1 16 0 k_) (a_ ||| (1 : Int32) <<< (σ.1 13 0 k_ &&& 31)) a_) 0 (σ.1 12 0 5).toNatClampNeg).toInt64) b → Q (some (.inl (2 : Int32))) (mo_wI (mo_rowL (mo_rowI (mo_rowL σ 34 0 (mo_layR σ d (0 : Int32))) 29 0 (mo_grp σ d)) 35 0 ((mo_hit σ a d (0 : Int32)).2.2.1)) 33 0 2 (nI (mo_hit σ a d (0 : Int32)).2.2.2))))))) ∧ (¬ (0 ≤ d ∧ d ≤ (10000 : Int32)) → Q (some (.inl (-1 : Int32))) (σ)))))))))
theorem m_X11_has : ∀ (as : List mo_V) (σ : mo_M) (P P' : mo_Q), (∀ x τ, P x τ → P' x τ) → S_X11_has as σ P → S_X11_has as σ P' := by
  rintro as σ P P' hm ⟨a, b, c, d, e, hq⟩
  exact ⟨a, b, c, d, e, ⟨fun c1 => hm _ _ (hq.1 c1), fun c1 => ⟨fun c2 => hm _ _ ((hq.2 c1).1 c2), fun c2 => ⟨fun c3 => hm _ _ (((hq.2 c1).2 c2).1 c3), fun c3 => ⟨fun c4 => ⟨((((hq.2 c1).2 c2).2 c3).1 c4).1, ⟨((((hq.2 c1).2 c2).2 c3).1 c4).2.1, ⟨fun c5 => ⟨(((((hq.2 c1).2 c2).2 c3).1 c4).2.2.1 c5).1, ⟨(((((hq.2 c1).2 c2).2 c3).1 c4).2.2.1 c5).2.1, ⟨fun c6 => hm _ _ ((((((hq.2 c1).2 c2).2 c3).1 c4).2.2.1 c5).2.2.1 c6), fun c6 => hm _ _ ((((((hq.2 c1).2 c2).2 c3).1 c4).2.2.1 c5).2.2.2 c6)⟩⟩⟩, fun c5 => hm _ _ (((((hq.2 c1).2 c2).2 c3).1 c4).2.2.2 c5)⟩⟩⟩, fun c4 => hm _ _ ((((hq.2 c1).2 c2).2 c3).2 c4)⟩⟩⟩⟩⟩
def cs_X11_has : Nat → mo_C := fun j => match j with
  | 0 => (2, true, 194, 11, S_X11_isWarning)
  | 1 => (2, false, 101, 50, S_X11_isWithin)
  | 2 => (1, false, 137, 50, S_X11_isDay)
  | 3 => (4, true, 214, 11, S_X11_hitMakes)
  | 4 => (4, true, 218, 1, S_X1_sitesWith)
  | 5 => (2, false, 201, 50, S_X11_contains)
  | _ => (0, false, 0, 50, fun _ _ _ => False)
theorem cs_X11_has_ok (g : mo_E) : ∀ j, mo_cok g t_X11_has (cs_X11_has j) ∧ mo_mon (cs_X11_has j) := by
  intro j
  unfold cs_X11_has
  split
  · exact ⟨mo_cokV ct_X11_isWarning (by decide) ⟨_, _, rfl⟩ (by decide +kernel), m_X11_isWarning⟩
  · exact ⟨mo_cokS ct_X11_isWithin (by decide +kernel), m_X11_isWithin⟩
  · exact ⟨mo_cokS ct_X11_isDay (by decide +kernel), m_X11_isDay⟩
  · exact ⟨mo_cokV ct_X11_hitMakes (by decide) ⟨_, _, rfl⟩ (by decide +kernel), m_X11_hitMakes⟩
  · exact ⟨mo_cokV ct_X1_sitesWith (by decide) ⟨_, _, rfl⟩ (by decide +kernel), m_X1_sitesWith⟩
  · exact ⟨mo_cokS ct_X11_contains (by decide +kernel), m_X11_contains⟩
  · exact ⟨mo_cok0 g _, mo_mon0⟩
set_option maxRecDepth 20000 in
set_option maxHeartbeats 2000000 in
theorem ct_X11_has : mo_ct yX11_has t_X11_has S_X11_has := by
  refine mo_ct_of (by decide) rfl ?_
  rintro g as σ Q ⟨a, b, c, d, rfl, hQ⟩
  refine ⟨Nat.le_of_ble_eq_true rfl, mo_go ok_X11_has (cs_X11_has_ok g) [] 51 ?_⟩
  intro K hK
  refine Exists.intro a (And.intro rfl (And.intro trivial ?_))
  refine And.intro (fun (c1 : (mo_bl (0 ≤ a ∧ a < σ.1 0 0 12)) = 0) => ?_) (fun (c1 : ¬ (mo_bl (0 ≤ a ∧ a < σ.1 0 0 12)) = 0) => ?_)
  · replace c1 : ¬ (0 ≤ a ∧ a < σ.1 0 0 12) := mo_bl0.mp c1
    exact (hQ.1 c1)
  · replace c1 : 0 ≤ a ∧ a < σ.1 0 0 12 := mo_blT c1
    refine Exists.intro b (Exists.intro (29 : Int32) (And.intro rfl (And.intro trivial ?_)))
    refine And.intro (fun (c2 : (mo_bl (0 ≤ b ∧ b ≤ (29 : Int32))) = 0) => ?_) (fun (c2 : ¬ (mo_bl (0 ≤ b ∧ b ≤ (29 : Int32))) = 0) => ?_)
    · replace c2 : ¬ (0 ≤ b ∧ b ≤ (29 : Int32)) := mo_bl0.mp c2
      exact ((hQ.2 c1).1 c2)
    · replace c2 : 0 ≤ b ∧ b ≤ (29 : Int32) := mo_blT c2
      refine Exists.intro c (And.intro rfl (And.intro trivial ?_))
      refine And.intro (fun (c3 : (mo_bl (0 ≤ c ∧ c ≤ (10000 : Int32))) = 0) => ?_) (fun (c3 : ¬ (mo_bl (0 ≤ c ∧ c ≤ (10000 : Int32))) = 0) => ?_)
      · replace c3 : ¬ (0 ≤ c ∧ c ≤ (10000 : Int32)) := mo_bl0.mp c3
        exact (((hQ.2 c1).2 c2).1 c3)
      · replace c3 : 0 ≤ c ∧ c ≤ (10000 : Int32) := mo_blT c3
        refine Exists.intro d (And.intro rfl (And.intro trivial ?_))
        refine And.intro (fun (c4 : ¬ (mo_bl (0 ≤ d ∧ d ≤ (10000 : Int32))) = 0) => ?_) (fun (c4 : (mo_bl (0 ≤ d ∧ d ≤ (10000 : Int32))) = 0) => ?_)
        · replace c4 : 0 ≤ d ∧ d ≤ (10000 : Int32) := mo_blT c4
          refine Exists.intro a (Exists.intro d (Exists.intro (0 : Int32) (And.intro rfl (And.intro (show (mo_le (σ.1 6 0 5) 200 ∧ ∀ k_, k_ < (σ.1 6 0 5).toNatClampNeg → vp_in (σ.1 7 0 k_) 60) ∧ ((mo_le (σ.1 18 0 4) 40 ∧ mo_le (σ.1 23 0 4) 40 ∧ ∀ k_, k_ < (σ.1 18 0 4).toNatClampNeg → vp_in (σ.1 19 0 k_) 30 ∧ vp_in (σ.1 20 0 k_) 30) ∧ vp_in a 20 ∧ vp_in (σ.1 39 a.toNatClampNeg 3) 30 ∧ mo_le (σ.1 3 0 2) 60 ∧ mo_le (σ.1 39 a.toNatClampNeg 2) 30) from ((((hQ.2 c1).2 c2).2 c3).1 c4).1) ?_))))
          refine Exists.intro ((mo_hit σ a d (0 : Int32)).1) (Exists.intro c (Exists.intro d (And.intro rfl (And.intro (show mo_le (σ.1 12 0 5) 100 from ((((hQ.2 c1).2 c2).2 c3).1 c4).2.1) ?_))))
          refine Exists.intro ((mo_fo (fun k_ a_ => mo_ite ((σ.1 17 0 k_ ≤ d ∧ mo_bt ((mo_hit σ a d (0 : Int32)).1) (σ.1 14 0 k_)) ∧ σ.1 15 0 k_ ≤ c ∧ c ≤ σ.1 16 0 k_) (a_ ||| (1 : Int32) <<< (σ.1 13 0 k_ &&& 31)) a_) 0 (σ.1 12 0 5).toNatClampNeg).toInt64) (Exists.intro b (And.intro rfl (And.intro trivial ?_)))
          refine And.intro (fun (c5 : (mo_bl (mo_bt ((mo_fo (fun k_ a_ => mo_ite ((σ.1 17 0 k_ ≤ d ∧ mo_bt ((mo_hit σ a d (0 : Int32)).1) (σ.1 14 0 k_)) ∧ σ.1 15 0 k_ ≤ c ∧ c ≤ σ.1 16 0 k_) (a_ ||| (1 : Int32) <<< (σ.1 13 0 k_ &&& 31)) a_) 0 (σ.1 12 0 5).toNatClampNeg).toInt64) b)) = 0) => ?_) (fun (c5 : ¬ (mo_bl (mo_bt ((mo_fo (fun k_ a_ => mo_ite ((σ.1 17 0 k_ ≤ d ∧ mo_bt ((mo_hit σ a d (0 : Int32)).1) (σ.1 14 0 k_)) ∧ σ.1 15 0 k_ ≤ c ∧ c ≤ σ.1 16 0 k_) (a_ ||| (1 : Int32) <<< (σ.1 13 0 k_ &&& 31)) a_) 0 (σ.1 12 0 5).toNatClampNeg).toInt64) b)) = 0) => ?_)
          · replace c5 : ¬ (mo_bt ((mo_fo (fun k_ a_ => mo_ite ((σ.1 17 0 k_ ≤ d ∧ mo_bt ((mo_hit σ a d (0 : Int32)).1) (σ.1 14 0 k_)) ∧ σ.1 15 0 k_ ≤ c ∧ c ≤ σ.1 16 0 k_) (a_ ||| (1 : Int32) <<< (σ.1 13 0 k_ &&& 31)) a_) 0 (σ.1 12 0 5).toNatClampNeg).toInt64) b) := mo_bl0.mp c5
            refine Exists.intro a (Exists.intro d (Exists.intro (1 : Int32) (And.intro rfl (And.intro (show (mo_le (σ.1 6 0 5) 200 ∧ ∀ k_, k_ < (σ.1 6 0 5).toNatClampNeg → vp_in (σ.1 7 0 k_) 60) ∧ ((mo_le (σ.1 18 0 4) 40 ∧ mo_le (σ.1 23 0 4) 40 ∧ ∀ k_, k_ < (σ.1 18 0 4).toNatClampNeg → vp_in (σ.1 19 0 k_) 30 ∧ vp_in (σ.1 20 0 k_) 30) ∧ vp_in a 20 ∧ vp_in (σ.1 39 a.toNatClampNeg 3) 30 ∧ mo_le (σ.1 3 0 2) 60 ∧ mo_le (σ.1 39 a.toNatClampNeg 2) 30) from (((((hQ.2 c1).2 c2).2 c3).1 c4).2.2.1 c5).1) ?_))))
            refine Exists.intro ((mo_hit (mo_wI (mo_rowL (mo_rowI (mo_rowL σ 34 0 (mo_layR σ d (0 : Int32))) 29 0 (mo_grp σ d)) 35 0 ((mo_hit σ a d (0 : Int32)).2.2.1)) 33 0 2 (nI (mo_hit σ a d (0 : Int32)).2.2.2)) a d (1 : Int32)).1) (Exists.intro c (Exists.intro d (And.intro rfl (And.intro (show mo_le (σ.1 12 0 5) 100 from (((((hQ.2 c1).2 c2).2 c3).1 c4).2.2.1 c5).2.1) ?_))))
            refine Exists.intro ((mo_fo (fun k_ a_ => mo_ite ((σ.1 17 0 k_ ≤ d ∧ mo_bt ((mo_hit (mo_wI (mo_rowL (mo_rowI (mo_rowL σ 34 0 (mo_layR σ d (0 : Int32))) 29 0 (mo_grp σ d)) 35 0 ((mo_hit σ a d (0 : Int32)).2.2.1)) 33 0 2 (nI (mo_hit σ a d (0 : Int32)).2.2.2)) a d (1 : Int32)).1) (σ.1 14 0 k_)) ∧ σ.1 15 0 k_ ≤ c ∧ c ≤ σ.1 16 0 k_) (a_ ||| (1 : Int32) <<< (σ.1 13 0 k_ &&& 31)) a_) 0 (σ.1 12 0 5).toNatClampNeg).toInt64) (Exists.intro b (And.intro rfl (And.intro trivial ?_)))
            refine And.intro (fun (c6 : (mo_bl (mo_bt ((mo_fo (fun k_ a_ => mo_ite ((σ.1 17 0 k_ ≤ d ∧ mo_bt ((mo_hit (mo_wI (mo_rowL (mo_rowI (mo_rowL σ 34 0 (mo_layR σ d (0 : Int32))) 29 0 (mo_grp σ d)) 35 0 ((mo_hit σ a d (0 : Int32)).2.2.1)) 33 0 2 (nI (mo_hit σ a d (0 : Int32)).2.2.2)) a d (1 : Int32)).1) (σ.1 14 0 k_)) ∧ σ.1 15 0 k_ ≤ c ∧ c ≤ σ.1 16 0 k_) (a_ ||| (1 : Int32) <<< (σ.1 13 0 k_ &&& 31)) a_) 0 (σ.1 12 0 5).toNatClampNeg).toInt64) b)) = 0) => ?_) (fun (c6 : ¬ (mo_bl (mo_bt ((mo_fo (fun k_ a_ => mo_ite ((σ.1 17 0 k_ ≤ d ∧ mo_bt ((mo_hit (mo_wI (mo_rowL (mo_rowI (mo_rowL σ 34 0 (mo_layR σ d (0 : Int32))) 29 0 (mo_grp σ d)) 35 0 ((mo_hit σ a d (0 : Int32)).2.2.1)) 33 0 2 (nI (mo_hit σ a d (0 : Int32)).2.2.2)) a d (1 : Int32)).1) (σ.1 14 0 k_)) ∧ σ.1 15 0 k_ ≤ c ∧ c ≤ σ.1 16 0 k_) (a_ ||| (1 : Int32) <<< (σ.1 13 0 k_ &&& 31)) a_) 0 (σ.1 12 0 5).toNatClampNeg).toInt64) b)) = 0) => ?_)
            · replace c6 : ¬ (mo_bt ((mo_fo (fun k_ a_ => mo_ite ((σ.1 17 0 k_ ≤ d ∧ mo_bt ((mo_hit (mo_wI (mo_rowL (mo_rowI (mo_rowL σ 34 0 (mo_layR σ d (0 : Int32))) 29 0 (mo_grp σ d)) 35 0 ((mo_hit σ a d (0 : Int32)).2.2.1)) 33 0 2 (nI (mo_hit σ a d (0 : Int32)).2.2.2)) a d (1 : Int32)).1) (σ.1 14 0 k_)) ∧ σ.1 15 0 k_ ≤ c ∧ c ≤ σ.1 16 0 k_) (a_ ||| (1 : Int32) <<< (σ.1 13 0 k_ &&& 31)) a_) 0 (σ.1 12 0 5).toNatClampNeg).toInt64) b) := mo_bl0.mp c6
              exact ((((((hQ.2 c1).2 c2).2 c3).1 c4).2.2.1 c5).2.2.1 c6)
            · replace c6 : mo_bt ((mo_fo (fun k_ a_ => mo_ite ((σ.1 17 0 k_ ≤ d ∧ mo_bt ((mo_hit (mo_wI (mo_rowL (mo_rowI (mo_rowL σ 34 0 (mo_layR σ d (0 : Int32))) 29 0 (mo_grp σ d)) 35 0 ((mo_hit σ a d (0 : Int32)).2.2.1)) 33 0 2 (nI (mo_hit σ a d (0 : Int32)).2.2.2)) a d (1 : Int32)).1) (σ.1 14 0 k_)) ∧ σ.1 15 0 k_ ≤ c ∧ c ≤ σ.1 16 0 k_) (a_ ||| (1 : Int32) <<< (σ.1 13 0 k_ &&& 31)) a_) 0 (σ.1 12 0 5).toNatClampNeg).toInt64) b := mo_blT c6
              exact ((((((hQ.2 c1).2 c2).2 c3).1 c4).2.2.1 c5).2.2.2 c6)
          · replace c5 : mo_bt ((mo_fo (fun k_ a_ => mo_ite ((σ.1 17 0 k_ ≤ d ∧ mo_bt ((mo_hit σ a d (0 : Int32)).1) (σ.1 14 0 k_)) ∧ σ.1 15 0 k_ ≤ c ∧ c ≤ σ.1 16 0 k_) (a_ ||| (1 : Int32) <<< (σ.1 13 0 k_ &&& 31)) a_) 0 (σ.1 12 0 5).toNatClampNeg).toInt64) b := mo_blT c5
            exact (((((hQ.2 c1).2 c2).2 c3).1 c4).2.2.2 c5)
        · replace c4 : ¬ (0 ≤ d ∧ d ≤ (10000 : Int32)) := mo_bl0.mp c4
          exact ((((hQ.2 c1).2 c2).2 c3).2 c4)
def S_X11_since : mo_S := fun as σ Q => ∃ a : Int32, ∃ b : Int32, ∃ c : Int32, as = [.inr (.inr (0, 0)), .inl a, .inl b, .inl c] ∧ ((¬ (0 ≤ a ∧ a < σ.1 0 0 12) → Q (some (.inl (-1 : Int32))) (σ)) ∧ (0 ≤ a ∧ a < σ.1 0 0 12 → ((¬ (0 ≤ b ∧ b ≤ (29 : Int32)) → Q (some (.inl (-1 : Int32))) (σ)) ∧ (0 ≤ b ∧ b ≤ (29 : Int32) → ((0 ≤ c ∧ c ≤ (10000 : Int32) → (((mo_le (σ.1 6 0 5) 200 ∧ ∀ k_, k_ < (σ.1 6 0 5).toNatClampNeg → vp_in (σ.1 7 0 k_) 60) ∧ ((mo_le (σ.1 18 0 4) 40 ∧ mo_le (σ.1 23 0 4) 40 ∧ ∀ k_, k_ < (σ.1 18 0 4).toNatClampNeg → vp_in (σ.1 19 0 k_) 30 ∧ vp_in (σ.1 20 0 k_) 30) ∧ vp_in a 20 ∧ vp_in (σ.1 39 a.toNatClampNeg 3) 30 ∧ mo_le (σ.1 3 0 2) 60 ∧ mo_le (σ.1 39 a.toNatClampNeg 2) 30)) ∧ ((mo_le (σ.1 12 0 5) 100) ∧ Q (some (.inl (mo_fo (fun k_ a_ => mo_ite (σ.1 13 0 k_ = b ∧ (σ.1 17 0 k_ ≤ c ∧ mo_bt ((mo_hit σ a c (1 : Int32)).1) (σ.1 14 0 k_)) ∧ (a_ = (-1 : Int32) ∨ σ.1 15 0 k_ < a_)) (σ.1 15 0 k_) a_) (-1 : Int32) (σ.1 12 0 5).toNatClampNeg))) (mo_wI (mo_rowL (mo_rowI (mo_rowL σ 34 0 (mo_layR σ c (1 : Int32))) 29 0 (mo_grp σ c)) 35 0 ((mo_hit σ a c (1 : Int32)).2.2.1)) 33 0 2 (nI (mo_hit σ a c (1 : Int32)).2.2.2))))) ∧ (¬ (0 ≤ c ∧ c ≤ (10000 : Int32)) → Q (some (.inl (-1 : Int32))) (σ)))))))
theorem m_X11_since : ∀ (as : List mo_V) (σ : mo_M) (P P' : mo_Q), (∀ x τ, P x τ → P' x τ) → S_X11_since as σ P → S_X11_since as σ P' := by
  rintro as σ P P' hm ⟨a, b, c, e, hq⟩
  exact ⟨a, b, c, e, ⟨fun c1 => hm _ _ (hq.1 c1), fun c1 => ⟨fun c2 => hm _ _ ((hq.2 c1).1 c2), fun c2 => ⟨fun c3 => ⟨(((hq.2 c1).2 c2).1 c3).1, ⟨(((hq.2 c1).2 c2).1 c3).2.1, hm _ _ (((hq.2 c1).2 c2).1 c3).2.2⟩⟩, fun c3 => hm _ _ (((hq.2 c1).2 c2).2 c3)⟩⟩⟩⟩
def cs_X11_since : Nat → mo_C := fun j => match j with
  | 0 => (2, true, 194, 11, S_X11_isWarning)
  | 1 => (2, false, 101, 50, S_X11_isWithin)
  | 2 => (1, false, 137, 50, S_X11_isDay)
  | 3 => (4, true, 214, 11, S_X11_hitMakes)
  | 4 => (4, true, 222, 1, S_X1_firstDay)
  | _ => (0, false, 0, 50, fun _ _ _ => False)
theorem cs_X11_since_ok (g : mo_E) : ∀ j, mo_cok g t_X11_since (cs_X11_since j) ∧ mo_mon (cs_X11_since j) := by
  intro j
  unfold cs_X11_since
  split
  · exact ⟨mo_cokV ct_X11_isWarning (by decide) ⟨_, _, rfl⟩ (by decide +kernel), m_X11_isWarning⟩
  · exact ⟨mo_cokS ct_X11_isWithin (by decide +kernel), m_X11_isWithin⟩
  · exact ⟨mo_cokS ct_X11_isDay (by decide +kernel), m_X11_isDay⟩
  · exact ⟨mo_cokV ct_X11_hitMakes (by decide) ⟨_, _, rfl⟩ (by decide +kernel), m_X11_hitMakes⟩
  · exact ⟨mo_cokV ct_X1_firstDay (by decide) ⟨_, _, rfl⟩ (by decide +kernel), m_X1_firstDay⟩
  · exact ⟨mo_cok0 g _, mo_mon0⟩
set_option maxRecDepth 20000 in
set_option maxHeartbeats 2000000 in
theorem ct_X11_since : mo_ct yX11_since t_X11_since S_X11_since := by
  refine mo_ct_of (by decide) rfl ?_
  rintro g as σ Q ⟨a, b, c, rfl, hQ⟩
  refine ⟨Nat.le_of_ble_eq_true rfl, mo_go ok_X11_since (cs_X11_since_ok g) [] 25 ?_⟩
  intro K hK
  refine Exists.intro a (And.intro rfl (And.intro trivial ?_))
  refine And.intro (fun (c1 : (mo_bl (0 ≤ a ∧ a < σ.1 0 0 12)) = 0) => ?_) (fun (c1 : ¬ (mo_bl (0 ≤ a ∧ a < σ.1 0 0 12)) = 0) => ?_)
  · replace c1 : ¬ (0 ≤ a ∧ a < σ.1 0 0 12) := mo_bl0.mp c1
    exact (hQ.1 c1)
  · replace c1 : 0 ≤ a ∧ a < σ.1 0 0 12 := mo_blT c1
    refine Exists.intro b (Exists.intro (29 : Int32) (And.intro rfl (And.intro trivial ?_)))
    refine And.intro (fun (c2 : (mo_bl (0 ≤ b ∧ b ≤ (29 : Int32))) = 0) => ?_) (fun (c2 : ¬ (mo_bl (0 ≤ b ∧ b ≤ (29 : Int32))) = 0) => ?_)
    · replace c2 : ¬ (0 ≤ b ∧ b ≤ (29 : Int32)) := mo_bl0.mp c2
      exact ((hQ.2 c1).1 c2)
    · replace c2 : 0 ≤ b ∧ b ≤ (29 : Int32) := mo_blT c2
      refine Exists.intro c (And.intro rfl (And.intro trivial ?_))
      refine And.intro (fun (c3 : ¬ (mo_bl (0 ≤ c ∧ c ≤ (10000 : Int32))) = 0) => ?_) (fun (c3 : (mo_bl (0 ≤ c ∧ c ≤ (10000 : Int32))) = 0) => ?_)
      · replace c3 : 0 ≤ c ∧ c ≤ (10000 : Int32) := mo_blT c3
        refine Exists.intro a (Exists.intro c (Exists.intro (1 : Int32) (And.intro rfl (And.intro (show (mo_le (σ.1 6 0 5) 200 ∧ ∀ k_, k_ < (σ.1 6 0 5).toNatClampNeg → vp_in (σ.1 7 0 k_) 60) ∧ ((mo_le (σ.1 18 0 4) 40 ∧ mo_le (σ.1 23 0 4) 40 ∧ ∀ k_, k_ < (σ.1 18 0 4).toNatClampNeg → vp_in (σ.1 19 0 k_) 30 ∧ vp_in (σ.1 20 0 k_) 30) ∧ vp_in a 20 ∧ vp_in (σ.1 39 a.toNatClampNeg 3) 30 ∧ mo_le (σ.1 3 0 2) 60 ∧ mo_le (σ.1 39 a.toNatClampNeg 2) 30) from (((hQ.2 c1).2 c2).1 c3).1) ?_))))
        refine Exists.intro b (Exists.intro ((mo_hit σ a c (1 : Int32)).1) (Exists.intro c (And.intro rfl (And.intro (show mo_le (σ.1 12 0 5) 100 from (((hQ.2 c1).2 c2).1 c3).2.1) ?_))))
        exact (((hQ.2 c1).2 c2).1 c3).2.2
      · replace c3 : ¬ (0 ≤ c ∧ c ≤ (10000 : Int32)) := mo_bl0.mp c3
        exact (((hQ.2 c1).2 c2).2 c3)
def S_X11_ring : mo_S := fun as σ Q => ∃ a : Int32, ∃ b : Int32, as = [.inr (.inr (0, 0)), .inl a, .inl b] ∧ ((¬ (0 ≤ a ∧ a < σ.1 3 0 2) → Q (some (.inl (-1 : Int32))) (σ)) ∧ (0 ≤ a ∧ a < σ.1 3 0 2 → ((0 ≤ b ∧ b ≤ (10000 : Int32) → ((mo_le (σ.1 6 0 5) 200 ∧ ∀ k_, k_ < (σ.1 6 0 5).toNatClampNeg → vp_in (σ.1 7 0 k_) 60) ∧ (vp_in a 60 ∧ (((lg_cmp (((mo_layR σ b (1 : Int32)) a.toNatClampNeg) &&& ((mo_spr (mo_rowL σ 34 0 (mo_layR σ b (1 : Int32))) ((1 : Int64) <<< (a.toInt64 &&& 63)) 60).1)) (0 : Int64)) = 0 → Q (some (.inl (0 : Int32))) (mo_wI (mo_rowL (mo_rowL σ 34 0 (mo_layR σ b (1 : Int32))) 35 0 ((mo_spr (mo_rowL σ 34 0 (mo_layR σ b (1 : Int32))) ((1 : Int64) <<< (a.toInt64 &&& 63)) 60).2.2.1)) 33 0 2 (nI (mo_spr (mo_rowL σ 34 0 (mo_layR σ b (1 : Int32))) ((1 : Int64) <<< (a.toInt64 &&& 63)) 60).2.2.2))) ∧ (¬ (lg_cmp (((mo_layR σ b (1 : Int32)) a.toNatClampNeg) &&& ((mo_spr (mo_rowL σ 34 0 (mo_layR σ b (1 : Int32))) ((1 : Int64) <<< (a.toInt64 &&& 63)) 60).1)) (0 : Int64)) = 0 → Q (some (.inl (1 : Int32))) (mo_wI (mo_rowL (mo_rowL σ 34 0 (mo_layR σ b (1 : Int32))) 35 0 ((mo_spr (mo_rowL σ 34 0 (mo_layR σ b (1 : Int32))) ((1 : Int64) <<< (a.toInt64 &&& 63)) 60).2.2.1)) 33 0 2 (nI (mo_spr (mo_rowL σ 34 0 (mo_layR σ b (1 : Int32))) ((1 : Int64) <<< (a.toInt64 &&& 63)) 60).2.2.2))))))) ∧ (¬ (0 ≤ b ∧ b ≤ (10000 : Int32)) → Q (some (.inl (-1 : Int32))) (σ)))))
theorem m_X11_ring : ∀ (as : List mo_V) (σ : mo_M) (P P' : mo_Q), (∀ x τ, P x τ → P' x τ) → S_X11_ring as σ P → S_X11_ring as σ P' := by
  rintro as σ P P' hm ⟨a, b, e, hq⟩
  exact ⟨a, b, e, ⟨fun c1 => hm _ _ (hq.1 c1), fun c1 => ⟨fun c2 => ⟨((hq.2 c1).1 c2).1, ⟨((hq.2 c1).1 c2).2.1, ⟨fun c3 => hm _ _ (((hq.2 c1).1 c2).2.2.1 c3), fun c3 => hm _ _ (((hq.2 c1).1 c2).2.2.2 c3)⟩⟩⟩, fun c2 => hm _ _ ((hq.2 c1).2 c2)⟩⟩⟩
def cs_X11_ring : Nat → mo_C := fun j => match j with
  | 0 => (2, true, 140, 11, S_X11_isMake)
  | 1 => (1, false, 137, 50, S_X11_isDay)
  | 2 => (4, true, 234, 10, S_X10_lay)
  | 3 => (2, true, 238, 10, S_X10_spread)
  | _ => (0, false, 0, 50, fun _ _ _ => False)
theorem cs_X11_ring_ok (g : mo_E) : ∀ j, mo_cok g t_X11_ring (cs_X11_ring j) ∧ mo_mon (cs_X11_ring j) := by
  intro j
  unfold cs_X11_ring
  split
  · exact ⟨mo_cokV ct_X11_isMake (by decide) ⟨_, _, rfl⟩ (by decide +kernel), m_X11_isMake⟩
  · exact ⟨mo_cokS ct_X11_isDay (by decide +kernel), m_X11_isDay⟩
  · exact ⟨mo_cokV ct_X10_lay (by decide) ⟨_, _, rfl⟩ (by decide +kernel), m_X10_lay⟩
  · exact ⟨mo_cokV ct_X10_spread (by decide) ⟨_, _, rfl⟩ (by decide +kernel), m_X10_spread⟩
  · exact ⟨mo_cok0 g _, mo_mon0⟩
set_option maxRecDepth 20000 in
set_option maxHeartbeats 2000000 in
theorem ct_X11_ring : mo_ct yX11_ring t_X11_ring S_X11_ring := by
  refine mo_ct_of (by decide) rfl ?_
  rintro g as σ Q ⟨a, b, rfl, hQ⟩
  refine ⟨Nat.le_of_ble_eq_true rfl, mo_go ok_X11_ring (cs_X11_ring_ok g) [] 38 ?_⟩
  intro K hK
  refine Exists.intro a (And.intro rfl (And.intro trivial ?_))
  refine And.intro (fun (c1 : (mo_bl (0 ≤ a ∧ a < σ.1 3 0 2)) = 0) => ?_) (fun (c1 : ¬ (mo_bl (0 ≤ a ∧ a < σ.1 3 0 2)) = 0) => ?_)
  · replace c1 : ¬ (0 ≤ a ∧ a < σ.1 3 0 2) := mo_bl0.mp c1
    exact (hQ.1 c1)
  · replace c1 : 0 ≤ a ∧ a < σ.1 3 0 2 := mo_blT c1
    refine Exists.intro b (And.intro rfl (And.intro trivial ?_))
    refine And.intro (fun (c2 : ¬ (mo_bl (0 ≤ b ∧ b ≤ (10000 : Int32))) = 0) => ?_) (fun (c2 : (mo_bl (0 ≤ b ∧ b ≤ (10000 : Int32))) = 0) => ?_)
    · replace c2 : 0 ≤ b ∧ b ≤ (10000 : Int32) := mo_blT c2
      refine Exists.intro b (Exists.intro (1 : Int32) (And.intro rfl (And.intro (show mo_le (σ.1 6 0 5) 200 ∧ ∀ k_, k_ < (σ.1 6 0 5).toNatClampNeg → vp_in (σ.1 7 0 k_) 60 from ((hQ.2 c1).1 c2).1) ?_)))
      refine Exists.intro ((1 : Int64) <<< (a.toInt64 &&& 63)) (And.intro rfl (And.intro trivial ?_))
      refine And.intro (show vp_in a 60 from ((hQ.2 c1).1 c2).2.1) ?_
      refine And.intro (fun (c3 : (lg_cmp (((mo_layR σ b (1 : Int32)) a.toNatClampNeg) &&& ((mo_spr (mo_rowL σ 34 0 (mo_layR σ b (1 : Int32))) ((1 : Int64) <<< (a.toInt64 &&& 63)) 60).1)) (0 : Int64)) = 0) => ?_) (fun (c3 : ¬ (lg_cmp (((mo_layR σ b (1 : Int32)) a.toNatClampNeg) &&& ((mo_spr (mo_rowL σ 34 0 (mo_layR σ b (1 : Int32))) ((1 : Int64) <<< (a.toInt64 &&& 63)) 60).1)) (0 : Int64)) = 0) => ?_)
      · exact (((hQ.2 c1).1 c2).2.2.1 c3)
      · exact (((hQ.2 c1).1 c2).2.2.2 c3)
    · replace c2 : ¬ (0 ≤ b ∧ b ≤ (10000 : Int32)) := mo_bl0.mp c2
      exact ((hQ.2 c1).2 c2)
def S_X11_recall : mo_S := fun as σ Q => ∃ a : Int32, ∃ b : Int32, ∃ c : Int32, as = [.inr (.inr (0, 0)), .inl a, .inl b, .inl c] ∧ ((¬ (0 ≤ b ∧ b ≤ (10000 : Int32)) → Q (some (.inl (-1 : Int32))) (mo_wI σ 0 0 14 (-1 : Int32))) ∧ (0 ≤ b ∧ b ≤ (10000 : Int32) → ((0 ≤ c ∧ c ≤ (10000 : Int32) → ((0 ≤ a ∧ a < σ.1 0 0 12 → (((mo_le (σ.1 6 0 5) 200 ∧ ∀ k_, k_ < (σ.1 6 0 5).toNatClampNeg → vp_in (σ.1 7 0 k_) 60) ∧ ((mo_le (σ.1 18 0 4) 40 ∧ mo_le (σ.1 23 0 4) 40 ∧ ∀ k_, k_ < (σ.1 18 0 4).toNatClampNeg → vp_in (σ.1 19 0 k_) 30 ∧ vp_in (σ.1 20 0 k_) 30) ∧ vp_in a 20 ∧ vp_in (σ.1 39 a.toNatClampNeg 3) 30 ∧ mo_le (σ.1 3 0 2) 60 ∧ mo_le (σ.1 39 a.toNatClampNeg 2) 30)) ∧ ((mo_le (σ.1 12 0 5) 100) ∧ (vp_in a 20 ∧ (a.toNatClampNeg < 20 ∧ (vp_in a 20 ∧ (a.toNatClampNeg < 20 ∧ (a.toNatClampNeg < 20 ∧ Q (some (.inl ((mo_pc ((mo_fo (fun k_ a_ => mo_ite ((σ.1 17 0 k_ ≤ c ∧ mo_bt ((mo_hit σ a c (1 : Int32)).1) (σ.1 14 0 k_)) ∧ σ.1 15 0 k_ ≤ b ∧ b ≤ σ.1 16 0 k_) (a_ ||| (1 : Int32) <<< (σ.1 13 0 k_ &&& 31)) a_) 0 (σ.1 12 0 5).toNatClampNeg) &&& ((σ.1 39 a.toNatClampNeg 4) ^^^ (-1 : Int32))))))) (mo_wI (mo_wI (mo_wI (mo_rowL (mo_rowI (mo_rowL σ 34 0 (mo_layR σ c (1 : Int32))) 29 0 (mo_grp σ c)) 35 0 ((mo_hit σ a c (1 : Int32)).2.2.1)) 33 0 2 (nI (mo_hit σ a c (1 : Int32)).2.2.2)) 39 a.toNatClampNeg 4 ((σ.1 39 a.toNatClampNeg 4) ||| ((mo_fo (fun k_ a_ => mo_ite ((σ.1 17 0 k_ ≤ c ∧ mo_bt ((mo_hit σ a c (1 : Int32)).1) (σ.1 14 0 k_)) ∧ σ.1 15 0 k_ ≤ b ∧ b ≤ σ.1 16 0 k_) (a_ ||| (1 : Int32) <<< (σ.1 13 0 k_ &&& 31)) a_) 0 (σ.1 12 0 5).toNatClampNeg) &&& ((σ.1 39 a.toNatClampNeg 4) ^^^ (-1 : Int32))))) 0 0 14 0))))))))) ∧ (¬ (0 ≤ a ∧ a < σ.1 0 0 12) → Q (some (.inl (-2 : Int32))) (mo_wI σ 0 0 14 (-2 : Int32))))) ∧ (¬ (0 ≤ c ∧ c ≤ (10000 : Int32)) → Q (some (.inl (-1 : Int32))) (mo_wI σ 0 0 14 (-1 : Int32))))))
theorem m_X11_recall : ∀ (as : List mo_V) (σ : mo_M) (P P' : mo_Q), (∀ x τ, P x τ → P' x τ) → S_X11_recall as σ P → S_X11_recall as σ P' := by
  rintro as σ P P' hm ⟨a, b, c, e, hq⟩
  exact ⟨a, b, c, e, ⟨fun c1 => hm _ _ (hq.1 c1), fun c1 => ⟨fun c2 => ⟨fun c3 => ⟨(((hq.2 c1).1 c2).1 c3).1, ⟨(((hq.2 c1).1 c2).1 c3).2.1, ⟨(((hq.2 c1).1 c2).1 c3).2.2.1, ⟨(((hq.2 c1).1 c2).1 c3).2.2.2.1, ⟨(((hq.2 c1).1 c2).1 c3).2.2.2.2.1, ⟨(((hq.2 c1).1 c2).1 c3).2.2.2.2.2.1, ⟨(((hq.2 c1).1 c2).1 c3).2.2.2.2.2.2.1, hm _ _ (((hq.2 c1).1 c2).1 c3).2.2.2.2.2.2.2⟩⟩⟩⟩⟩⟩⟩, fun c3 => hm _ _ (((hq.2 c1).1 c2).2 c3)⟩, fun c2 => hm _ _ ((hq.2 c1).2 c2)⟩⟩⟩
def cs_X11_recall : Nat → mo_C := fun j => match j with
  | 0 => (1, false, 137, 50, S_X11_isDay)
  | 1 => (2, true, 105, 11, S_X11_refuse)
  | 2 => (2, true, 194, 11, S_X11_isWarning)
  | 3 => (4, true, 214, 11, S_X11_hitMakes)
  | 4 => (4, true, 218, 1, S_X1_sitesWith)
  | 5 => (1, false, 229, 50, S_J6_bitCount_0f7a4)
  | 6 => (2, true, 115, 11, S_X11_accept)
  | _ => (0, false, 0, 50, fun _ _ _ => False)
theorem cs_X11_recall_ok (g : mo_E) : ∀ j, mo_cok g t_X11_recall (cs_X11_recall j) ∧ mo_mon (cs_X11_recall j) := by
  intro j
  unfold cs_X11_recall
  split
  · exact ⟨mo_cokS ct_X11_isDay (by decide +kernel), m_X11_isDay⟩
  · exact ⟨mo_cokV ct_X11_refuse (by decide) ⟨_, _, rfl⟩ (by decide +kernel), m_X11_refuse⟩
  · exact ⟨mo_cokV ct_X11_isWarning (by decide) ⟨_, _, rfl⟩ (by decide +kernel), m_X11_isWarning⟩
  · exact ⟨mo_cokV ct_X11_hitMakes (by decide) ⟨_, _, rfl⟩ (by decide +kernel), m_X11_hitMakes⟩
  · exact ⟨mo_cokV ct_X1_sitesWith (by decide) ⟨_, _, rfl⟩ (by decide +kernel), m_X1_sitesWith⟩
  · exact ⟨mo_cokS ct_J6_bitCount_0f7a4 (by decide +kernel), m_J6_bitCount_0f7a4⟩
  · exact ⟨mo_cokV ct_X11_accept (by decide) ⟨_, _, rfl⟩ (by decide +kernel), m_X11_accept⟩
  · exact ⟨mo_cok0 g _, mo_mon0⟩
set_option maxRecDepth 20000 in
set_option maxHeartbeats 2000000 in
theorem ct_X11_recall : mo_ct yX11_recall t_X11_recall S_X11_recall := by
  refine mo_ct_of (by decide) rfl ?_
  rintro g as σ Q ⟨a, b, c, rfl, hQ⟩
  refine ⟨Nat.le_of_ble_eq_true rfl, mo_go ok_X11_recall (cs_X11_recall_ok g) [] 54 ?_⟩
  intro K hK
  refine Exists.intro b (And.intro rfl (And.intro trivial ?_))
  refine And.intro (fun (c1 : (mo_bl (0 ≤ b ∧ b ≤ (10000 : Int32))) = 0) => ?_) (fun (c1 : ¬ (mo_bl (0 ≤ b ∧ b ≤ (10000 : Int32))) = 0) => ?_)
  · replace c1 : ¬ (0 ≤ b ∧ b ≤ (10000 : Int32)) := mo_bl0.mp c1
    refine Exists.intro (-1 : Int32) (And.intro rfl (And.intro trivial ?_))
    exact (hQ.1 c1)
  · replace c1 : 0 ≤ b ∧ b ≤ (10000 : Int32) := mo_blT c1
    refine Exists.intro c (And.intro rfl (And.intro trivial ?_))
    refine And.intro (fun (c2 : ¬ (mo_bl (0 ≤ c ∧ c ≤ (10000 : Int32))) = 0) => ?_) (fun (c2 : (mo_bl (0 ≤ c ∧ c ≤ (10000 : Int32))) = 0) => ?_)
    · replace c2 : 0 ≤ c ∧ c ≤ (10000 : Int32) := mo_blT c2
      refine Exists.intro a (And.intro rfl (And.intro trivial ?_))
      refine And.intro (fun (c3 : ¬ (mo_bl (0 ≤ a ∧ a < σ.1 0 0 12)) = 0) => ?_) (fun (c3 : (mo_bl (0 ≤ a ∧ a < σ.1 0 0 12)) = 0) => ?_)
      · replace c3 : 0 ≤ a ∧ a < σ.1 0 0 12 := mo_blT c3
        refine Exists.intro a (Exists.intro c (Exists.intro (1 : Int32) (And.intro rfl (And.intro (show (mo_le (σ.1 6 0 5) 200 ∧ ∀ k_, k_ < (σ.1 6 0 5).toNatClampNeg → vp_in (σ.1 7 0 k_) 60) ∧ ((mo_le (σ.1 18 0 4) 40 ∧ mo_le (σ.1 23 0 4) 40 ∧ ∀ k_, k_ < (σ.1 18 0 4).toNatClampNeg → vp_in (σ.1 19 0 k_) 30 ∧ vp_in (σ.1 20 0 k_) 30) ∧ vp_in a 20 ∧ vp_in (σ.1 39 a.toNatClampNeg 3) 30 ∧ mo_le (σ.1 3 0 2) 60 ∧ mo_le (σ.1 39 a.toNatClampNeg 2) 30) from (((hQ.2 c1).1 c2).1 c3).1) ?_))))
        refine Exists.intro ((mo_hit σ a c (1 : Int32)).1) (Exists.intro b (Exists.intro c (And.intro rfl (And.intro (show mo_le (σ.1 12 0 5) 100 from (((hQ.2 c1).1 c2).1 c3).2.1) ?_))))
        refine And.intro (show vp_in a 20 from (((hQ.2 c1).1 c2).1 c3).2.2.1) ?_
        refine And.intro (show a.toNatClampNeg < 20 from (((hQ.2 c1).1 c2).1 c3).2.2.2.1) ?_
        refine And.intro (show vp_in a 20 from (((hQ.2 c1).1 c2).1 c3).2.2.2.2.1) ?_
        refine And.intro (show a.toNatClampNeg < 20 from (((hQ.2 c1).1 c2).1 c3).2.2.2.2.2.1) ?_
        refine And.intro (show a.toNatClampNeg < 20 from (((hQ.2 c1).1 c2).1 c3).2.2.2.2.2.2.1) ?_
        refine Exists.intro ((mo_fo (fun k_ a_ => mo_ite ((σ.1 17 0 k_ ≤ c ∧ mo_bt ((mo_hit σ a c (1 : Int32)).1) (σ.1 14 0 k_)) ∧ σ.1 15 0 k_ ≤ b ∧ b ≤ σ.1 16 0 k_) (a_ ||| (1 : Int32) <<< (σ.1 13 0 k_ &&& 31)) a_) 0 (σ.1 12 0 5).toNatClampNeg) &&& ((σ.1 39 a.toNatClampNeg 4) ^^^ (-1 : Int32))) (And.intro rfl (And.intro trivial ?_))
        refine Exists.intro (mo_pc ((mo_fo (fun k_ a_ => mo_ite ((σ.1 17 0 k_ ≤ c ∧ mo_bt ((mo_hit σ a c (1 : Int32)).1) (σ.1 14 0 k_)) ∧ σ.1 15 0 k_ ≤ b ∧ b ≤ σ.1 16 0 k_) (a_ ||| (1 : Int32) <<< (σ.1 13 0 k_ &&& 31)) a_) 0 (σ.1 12 0 5).toNatClampNeg) &&& ((σ.1 39 a.toNatClampNeg 4) ^^^ (-1 : Int32)))) (And.intro rfl (And.intro trivial ?_))
        exact (((hQ.2 c1).1 c2).1 c3).2.2.2.2.2.2.2
      · replace c3 : ¬ (0 ≤ a ∧ a < σ.1 0 0 12) := mo_bl0.mp c3
        refine Exists.intro (-2 : Int32) (And.intro rfl (And.intro trivial ?_))
        exact (((hQ.2 c1).1 c2).2 c3)
    · replace c2 : ¬ (0 ≤ c ∧ c ≤ (10000 : Int32)) := mo_bl0.mp c2
      refine Exists.intro (-1 : Int32) (And.intro rfl (And.intro trivial ?_))
      exact ((hQ.2 c1).2 c2)
def S_X11_told : mo_S := fun as σ Q => ∃ a : Int32, as = [.inr (.inr (0, 0)), .inl a] ∧ ((¬ (0 ≤ a ∧ a < σ.1 0 0 12) → Q (some (.inl (0 : Int32))) (σ)) ∧ (0 ≤ a ∧ a < σ.1 0 0 12 → (vp_in a 20 ∧ (a.toNatClampNeg < 20 ∧ Q (some (.inl (σ.1 39 a.toNatClampNeg 4))) (σ)))))
theorem m_X11_told : ∀ (as : List mo_V) (σ : mo_M) (P P' : mo_Q), (∀ x τ, P x τ → P' x τ) → S_X11_told as σ P → S_X11_told as σ P' := by
  rintro as σ P P' hm ⟨a, e, hq⟩
  exact ⟨a, e, ⟨fun c1 => hm _ _ (hq.1 c1), fun c1 => ⟨(hq.2 c1).1, ⟨(hq.2 c1).2.1, hm _ _ (hq.2 c1).2.2⟩⟩⟩⟩
def cs_X11_told : Nat → mo_C := fun j => match j with
  | 0 => (2, true, 194, 11, S_X11_isWarning)
  | _ => (0, false, 0, 50, fun _ _ _ => False)
theorem cs_X11_told_ok (g : mo_E) : ∀ j, mo_cok g t_X11_told (cs_X11_told j) ∧ mo_mon (cs_X11_told j) := by
  intro j
  unfold cs_X11_told
  split
  · exact ⟨mo_cokV ct_X11_isWarning (by decide) ⟨_, _, rfl⟩ (by decide +kernel), m_X11_isWarning⟩
  · exact ⟨mo_cok0 g _, mo_mon0⟩
set_option maxRecDepth 20000 in
set_option maxHeartbeats 2000000 in
theorem ct_X11_told : mo_ct yX11_told t_X11_told S_X11_told := by
  refine mo_ct_of (by decide) rfl ?_
  rintro g as σ Q ⟨a, rfl, hQ⟩
  refine ⟨Nat.le_of_ble_eq_true rfl, mo_go ok_X11_told (cs_X11_told_ok g) [] 13 ?_⟩
  intro K hK
  refine Exists.intro a (And.intro rfl (And.intro trivial ?_))
  refine And.intro (fun (c1 : (mo_bl (0 ≤ a ∧ a < σ.1 0 0 12)) = 0) => ?_) (fun (c1 : ¬ (mo_bl (0 ≤ a ∧ a < σ.1 0 0 12)) = 0) => ?_)
  · replace c1 : ¬ (0 ≤ a ∧ a < σ.1 0 0 12) := mo_bl0.mp c1
    exact (hQ.1 c1)
  · replace c1 : 0 ≤ a ∧ a < σ.1 0 0 12 := mo_blT c1
    refine And.intro (show vp_in a 20 from (hQ.2 c1).1) ?_
    refine And.intro (show a.toNatClampNeg < 20 from (hQ.2 c1).2.1) ?_
    exact (hQ.2 c1).2.2
def S_X11_group : mo_S := fun as σ Q => ∃ a : Int32, ∃ b : Int32, as = [.inr (.inr (0, 0)), .inl a, .inl b] ∧ ((¬ (0 ≤ a ∧ a < σ.1 1 0 1) → Q (some (.inl (-1 : Int32))) (σ)) ∧ (0 ≤ a ∧ a < σ.1 1 0 1 → ((0 ≤ b ∧ b ≤ (10000 : Int32) → ((mo_le (σ.1 18 0 4) 40 ∧ mo_le (σ.1 23 0 4) 40 ∧ ∀ k_, k_ < (σ.1 18 0 4).toNatClampNeg → vp_in (σ.1 19 0 k_) 30 ∧ vp_in (σ.1 20 0 k_) 30) ∧ (vp_in a 30 ∧ Q (some (.inl (mo_fsI (fun k_ => mo_bt ((((mo_set1 σ b (σ.1 18 0 4).toNatClampNeg).1) a.toNatClampNeg).toInt64) (nI k_)) 64))) (mo_rowI σ 29 0 ((mo_set1 σ b (σ.1 18 0 4).toNatClampNeg).1))))) ∧ (¬ (0 ≤ b ∧ b ≤ (10000 : Int32)) → Q (some (.inl (-1 : Int32))) (σ)))))
theorem m_X11_group : ∀ (as : List mo_V) (σ : mo_M) (P P' : mo_Q), (∀ x τ, P x τ → P' x τ) → S_X11_group as σ P → S_X11_group as σ P' := by
  rintro as σ P P' hm ⟨a, b, e, hq⟩
  exact ⟨a, b, e, ⟨fun c1 => hm _ _ (hq.1 c1), fun c1 => ⟨fun c2 => ⟨((hq.2 c1).1 c2).1, ⟨((hq.2 c1).1 c2).2.1, hm _ _ ((hq.2 c1).1 c2).2.2⟩⟩, fun c2 => hm _ _ ((hq.2 c1).2 c2)⟩⟩⟩
def cs_X11_group : Nat → mo_C := fun j => match j with
  | 0 => (2, true, 122, 11, S_X11_isPart)
  | 1 => (1, false, 137, 50, S_X11_isDay)
  | 2 => (4, true, 175, 0, S_X0_settle)
  | 3 => (1, false, 182, 50, S_X11_lowest)
  | _ => (0, false, 0, 50, fun _ _ _ => False)
theorem cs_X11_group_ok (g : mo_E) : ∀ j, mo_cok g t_X11_group (cs_X11_group j) ∧ mo_mon (cs_X11_group j) := by
  intro j
  unfold cs_X11_group
  split
  · exact ⟨mo_cokV ct_X11_isPart (by decide) ⟨_, _, rfl⟩ (by decide +kernel), m_X11_isPart⟩
  · exact ⟨mo_cokS ct_X11_isDay (by decide +kernel), m_X11_isDay⟩
  · exact ⟨mo_cokV ct_X0_settle (by decide) ⟨_, _, rfl⟩ (by decide +kernel), m_X0_settle⟩
  · exact ⟨mo_cokS ct_X11_lowest (by decide +kernel), m_X11_lowest⟩
  · exact ⟨mo_cok0 g _, mo_mon0⟩
set_option maxRecDepth 20000 in
set_option maxHeartbeats 2000000 in
theorem ct_X11_group : mo_ct yX11_group t_X11_group S_X11_group := by
  refine mo_ct_of (by decide) rfl ?_
  rintro g as σ Q ⟨a, b, rfl, hQ⟩
  refine ⟨Nat.le_of_ble_eq_true rfl, mo_go ok_X11_group (cs_X11_group_ok g) [] 27 ?_⟩
  intro K hK
  refine Exists.intro a (And.intro rfl (And.intro trivial ?_))
  refine And.intro (fun (c1 : (mo_bl (0 ≤ a ∧ a < σ.1 1 0 1)) = 0) => ?_) (fun (c1 : ¬ (mo_bl (0 ≤ a ∧ a < σ.1 1 0 1)) = 0) => ?_)
  · replace c1 : ¬ (0 ≤ a ∧ a < σ.1 1 0 1) := mo_bl0.mp c1
    exact (hQ.1 c1)
  · replace c1 : 0 ≤ a ∧ a < σ.1 1 0 1 := mo_blT c1
    refine Exists.intro b (And.intro rfl (And.intro trivial ?_))
    refine And.intro (fun (c2 : ¬ (mo_bl (0 ≤ b ∧ b ≤ (10000 : Int32))) = 0) => ?_) (fun (c2 : (mo_bl (0 ≤ b ∧ b ≤ (10000 : Int32))) = 0) => ?_)
    · replace c2 : 0 ≤ b ∧ b ≤ (10000 : Int32) := mo_blT c2
      refine Exists.intro b (And.intro rfl (And.intro (show mo_le (σ.1 18 0 4) 40 ∧ mo_le (σ.1 23 0 4) 40 ∧ ∀ k_, k_ < (σ.1 18 0 4).toNatClampNeg → vp_in (σ.1 19 0 k_) 30 ∧ vp_in (σ.1 20 0 k_) 30 from ((hQ.2 c1).1 c2).1) ?_))
      refine And.intro (show vp_in a 30 from ((hQ.2 c1).1 c2).2.1) ?_
      refine Exists.intro ((((mo_set1 σ b (σ.1 18 0 4).toNatClampNeg).1) a.toNatClampNeg).toInt64) (And.intro rfl (And.intro trivial ?_))
      exact ((hQ.2 c1).1 c2).2.2
    · replace c2 : ¬ (0 ≤ b ∧ b ≤ (10000 : Int32)) := mo_bl0.mp c2
      exact ((hQ.2 c1).2 c2)
def S_X11_quarrels : mo_S := fun as σ Q => ∃ a : Int32, as = [.inr (.inr (0, 0)), .inl a] ∧ ((¬ (0 ≤ a ∧ a ≤ (10000 : Int32)) → Q (some (.inl (-1 : Int32))) (σ)) ∧ (0 ≤ a ∧ a ≤ (10000 : Int32) → ((mo_le (σ.1 18 0 4) 40 ∧ mo_le (σ.1 23 0 4) 40 ∧ ∀ k_, k_ < (σ.1 18 0 4).toNatClampNeg → vp_in (σ.1 19 0 k_) 30 ∧ vp_in (σ.1 20 0 k_) 30) ∧ Q (some (.inl ((mo_set1 σ a (σ.1 18 0 4).toNatClampNeg).2))) (mo_rowI σ 29 0 ((mo_set1 σ a (σ.1 18 0 4).toNatClampNeg).1)))))
theorem m_X11_quarrels : ∀ (as : List mo_V) (σ : mo_M) (P P' : mo_Q), (∀ x τ, P x τ → P' x τ) → S_X11_quarrels as σ P → S_X11_quarrels as σ P' := by
  rintro as σ P P' hm ⟨a, e, hq⟩
  exact ⟨a, e, ⟨fun c1 => hm _ _ (hq.1 c1), fun c1 => ⟨(hq.2 c1).1, hm _ _ (hq.2 c1).2⟩⟩⟩
def cs_X11_quarrels : Nat → mo_C := fun j => match j with
  | 0 => (1, false, 137, 50, S_X11_isDay)
  | 1 => (4, true, 175, 0, S_X0_settle)
  | _ => (0, false, 0, 50, fun _ _ _ => False)
theorem cs_X11_quarrels_ok (g : mo_E) : ∀ j, mo_cok g t_X11_quarrels (cs_X11_quarrels j) ∧ mo_mon (cs_X11_quarrels j) := by
  intro j
  unfold cs_X11_quarrels
  split
  · exact ⟨mo_cokS ct_X11_isDay (by decide +kernel), m_X11_isDay⟩
  · exact ⟨mo_cokV ct_X0_settle (by decide) ⟨_, _, rfl⟩ (by decide +kernel), m_X0_settle⟩
  · exact ⟨mo_cok0 g _, mo_mon0⟩
set_option maxRecDepth 20000 in
set_option maxHeartbeats 2000000 in
theorem ct_X11_quarrels : mo_ct yX11_quarrels t_X11_quarrels S_X11_quarrels := by
  refine mo_ct_of (by decide) rfl ?_
  rintro g as σ Q ⟨a, rfl, hQ⟩
  refine ⟨Nat.le_of_ble_eq_true rfl, mo_go ok_X11_quarrels (cs_X11_quarrels_ok g) [] 15 ?_⟩
  intro K hK
  refine Exists.intro a (And.intro rfl (And.intro trivial ?_))
  refine And.intro (fun (c1 : (mo_bl (0 ≤ a ∧ a ≤ (10000 : Int32))) = 0) => ?_) (fun (c1 : ¬ (mo_bl (0 ≤ a ∧ a ≤ (10000 : Int32))) = 0) => ?_)
  · replace c1 : ¬ (0 ≤ a ∧ a ≤ (10000 : Int32)) := mo_bl0.mp c1
    exact (hQ.1 c1)
  · replace c1 : 0 ≤ a ∧ a ≤ (10000 : Int32) := mo_blT c1
    refine Exists.intro a (And.intro rfl (And.intro (show mo_le (σ.1 18 0 4) 40 ∧ mo_le (σ.1 23 0 4) 40 ∧ ∀ k_, k_ < (σ.1 18 0 4).toNatClampNeg → vp_in (σ.1 19 0 k_) 30 ∧ vp_in (σ.1 20 0 k_) 30 from (hQ.2 c1).1) ?_))
    exact (hQ.2 c1).2
def S_X11_gaps : mo_S := fun as σ Q => ∃ a : Int32, ∃ b : Int32, ∃ c : Int32, as = [.inr (.inr (0, 0)), .inl a, .inl b, .inl c] ∧ ((¬ (0 ≤ a ∧ a < σ.1 3 0 2) → Q (some (.inl (-1 : Int32))) (σ)) ∧ (0 ≤ a ∧ a < σ.1 3 0 2 → ((¬ (0 ≤ b ∧ b ≤ (10000 : Int32)) → Q (some (.inl (-1 : Int32))) (σ)) ∧ (0 ≤ b ∧ b ≤ (10000 : Int32) → ((0 ≤ c ∧ c ≤ (1 : Int32) → ((mo_le (σ.1 18 0 4) 40 ∧ mo_le (σ.1 23 0 4) 40 ∧ ∀ k_, k_ < (σ.1 18 0 4).toNatClampNeg → vp_in (σ.1 19 0 k_) 30 ∧ vp_in (σ.1 20 0 k_) 30) ∧ ((mo_le (σ.1 6 0 5) 200 ∧ ∀ k_, k_ < (σ.1 6 0 5).toNatClampNeg → vp_in (σ.1 8 0 k_) 60 ∧ vp_in (σ.1 4 0 (σ.1 8 0 k_).toNatClampNeg) 30) ∧ ((mo_le (σ.1 6 0 5) 200 ∧ ∀ k_, k_ < (σ.1 6 0 5).toNatClampNeg → vp_in (σ.1 8 0 k_) 60 ∧ vp_in (σ.1 4 0 (σ.1 8 0 k_).toNatClampNeg) 30) ∧ ((¬ c = 0 → Q (some (.inl (mo_pc ((mo_fo (fun k_ s_ => mo_ite (σ.1 7 0 k_ = a ∧ σ.1 9 0 k_ = (0 : Int32) ∧ (σ.1 10 0 k_ ≤ b ∧ b < σ.1 11 0 k_)) (s_ ||| ((mo_rowI σ 29 0 ((mo_set1 σ b (σ.1 18 0 4).toNatClampNeg).1)).1 29 0 (σ.1 4 0 (σ.1 8 0 k_).toNatClampNeg).toNatClampNeg &&& -((mo_rowI σ 29 0 ((mo_set1 σ b (σ.1 18 0 4).toNatClampNeg).1)).1 29 0 (σ.1 4 0 (σ.1 8 0 k_).toNatClampNeg).toNatClampNeg))) s_) 0 (σ.1 6 0 5).toNatClampNeg) &&& ((mo_fo (fun k_ s_ => mo_ite (σ.1 7 0 k_ = a ∧ σ.1 9 0 k_ = (1 : Int32) ∧ (σ.1 10 0 k_ ≤ b ∧ b < σ.1 11 0 k_)) (s_ ||| ((mo_rowI σ 29 0 ((mo_set1 σ b (σ.1 18 0 4).toNatClampNeg).1)).1 29 0 (σ.1 4 0 (σ.1 8 0 k_).toNatClampNeg).toNatClampNeg &&& -((mo_rowI σ 29 0 ((mo_set1 σ b (σ.1 18 0 4).toNatClampNeg).1)).1 29 0 (σ.1 4 0 (σ.1 8 0 k_).toNatClampNeg).toNatClampNeg))) s_) 0 (σ.1 6 0 5).toNatClampNeg) ^^^ (-1 : Int32)))))) (mo_rowI σ 29 0 ((mo_set1 σ b (σ.1 18 0 4).toNatClampNeg).1))) ∧ (c = 0 → Q (some (.inl (mo_pc ((mo_fo (fun k_ s_ => mo_ite (σ.1 7 0 k_ = a ∧ σ.1 9 0 k_ = (1 : Int32) ∧ (σ.1 10 0 k_ ≤ b ∧ b < σ.1 11 0 k_)) (s_ ||| ((mo_rowI σ 29 0 ((mo_set1 σ b (σ.1 18 0 4).toNatClampNeg).1)).1 29 0 (σ.1 4 0 (σ.1 8 0 k_).toNatClampNeg).toNatClampNeg &&& -((mo_rowI σ 29 0 ((mo_set1 σ b (σ.1 18 0 4).toNatClampNeg).1)).1 29 0 (σ.1 4 0 (σ.1 8 0 k_).toNatClampNeg).toNatClampNeg))) s_) 0 (σ.1 6 0 5).toNatClampNeg) &&& ((mo_fo (fun k_ s_ => mo_ite (σ.1 7 0 k_ = a ∧ σ.1 9 0 k_ = (0 : Int32) ∧ (σ.1 10 0 k_ ≤ b ∧ b < σ.1 11 0 k_)) (s_ ||| ((mo_rowI σ 29 0 ((mo_set1 σ b (σ.1 18 0 4).toNatClampNeg).1)).1 29 0 (σ.1 4 0 (σ.1 8 0 k_).toNatClampNeg).toNatClampNeg &&& -((mo_rowI σ 29 0 ((mo_set1 σ b (σ.1 18 0 4).toNatClampNeg).1)).1 29 0 (σ.1 4 0 (σ.1 8 0 k_).toNatClampNeg).toNatClampNeg))) s_) 0 (σ.1 6 0 5).toNatClampNeg) ^^^ (-1 : Int32)))))) (mo_rowI σ 29 0 ((mo_set1 σ b (σ.1 18 0 4).toNatClampNeg).1)))))))) ∧ (¬ (0 ≤ c ∧ c ≤ (1 : Int32)) → Q (some (.inl (-1 : Int32))) (σ)))))))
theorem m_X11_gaps : ∀ (as : List mo_V) (σ : mo_M) (P P' : mo_Q), (∀ x τ, P x τ → P' x τ) → S_X11_gaps as σ P → S_X11_gaps as σ P' := by
  rintro as σ P P' hm ⟨a, b, c, e, hq⟩
  exact ⟨a, b, c, e, ⟨fun c1 => hm _ _ (hq.1 c1), fun c1 => ⟨fun c2 => hm _ _ ((hq.2 c1).1 c2), fun c2 => ⟨fun c3 => ⟨(((hq.2 c1).2 c2).1 c3).1, ⟨(((hq.2 c1).2 c2).1 c3).2.1, ⟨(((hq.2 c1).2 c2).1 c3).2.2.1, ⟨fun c4 => hm _ _ ((((hq.2 c1).2 c2).1 c3).2.2.2.1 c4), fun c4 => hm _ _ ((((hq.2 c1).2 c2).1 c3).2.2.2.2 c4)⟩⟩⟩⟩, fun c3 => hm _ _ (((hq.2 c1).2 c2).2 c3)⟩⟩⟩⟩
def cs_X11_gaps : Nat → mo_C := fun j => match j with
  | 0 => (2, true, 140, 11, S_X11_isMake)
  | 1 => (1, false, 137, 50, S_X11_isDay)
  | 2 => (2, false, 101, 50, S_X11_isWithin)
  | 3 => (4, true, 175, 0, S_X0_settle)
  | 4 => (4, true, 226, 11, S_X11_groupsInside)
  | 5 => (1, false, 229, 50, S_J6_bitCount_0f7a4)
  | _ => (0, false, 0, 50, fun _ _ _ => False)
theorem cs_X11_gaps_ok (g : mo_E) : ∀ j, mo_cok g t_X11_gaps (cs_X11_gaps j) ∧ mo_mon (cs_X11_gaps j) := by
  intro j
  unfold cs_X11_gaps
  split
  · exact ⟨mo_cokV ct_X11_isMake (by decide) ⟨_, _, rfl⟩ (by decide +kernel), m_X11_isMake⟩
  · exact ⟨mo_cokS ct_X11_isDay (by decide +kernel), m_X11_isDay⟩
  · exact ⟨mo_cokS ct_X11_isWithin (by decide +kernel), m_X11_isWithin⟩
  · exact ⟨mo_cokV ct_X0_settle (by decide) ⟨_, _, rfl⟩ (by decide +kernel), m_X0_settle⟩
  · exact ⟨mo_cokV ct_X11_groupsInside (by decide) ⟨_, _, rfl⟩ (by decide +kernel), m_X11_groupsInside⟩
  · exact ⟨mo_cokS ct_J6_bitCount_0f7a4 (by decide +kernel), m_J6_bitCount_0f7a4⟩
  · exact ⟨mo_cok0 g _, mo_mon0⟩
set_option maxRecDepth 20000 in
set_option maxHeartbeats 2000000 in
theorem ct_X11_gaps : mo_ct yX11_gaps t_X11_gaps S_X11_gaps := by
  refine mo_ct_of (by decide) rfl ?_
  rintro g as σ Q ⟨a, b, c, rfl, hQ⟩
  refine ⟨Nat.le_of_ble_eq_true rfl, mo_go ok_X11_gaps (cs_X11_gaps_ok g) [] 50 ?_⟩
  intro K hK
  refine Exists.intro a (And.intro rfl (And.intro trivial ?_))
  refine And.intro (fun (c1 : (mo_bl (0 ≤ a ∧ a < σ.1 3 0 2)) = 0) => ?_) (fun (c1 : ¬ (mo_bl (0 ≤ a ∧ a < σ.1 3 0 2)) = 0) => ?_)
  · replace c1 : ¬ (0 ≤ a ∧ a < σ.1 3 0 2) := mo_bl0.mp c1
    exact (hQ.1 c1)
  · replace c1 : 0 ≤ a ∧ a < σ.1 3 0 2 := mo_blT c1
    refine Exists.intro b (And.intro rfl (And.intro trivial ?_))
    refine And.intro (fun (c2 : (mo_bl (0 ≤ b ∧ b ≤ (10000 : Int32))) = 0) => ?_) (fun (c2 : ¬ (mo_bl (0 ≤ b ∧ b ≤ (10000 : Int32))) = 0) => ?_)
    · replace c2 : ¬ (0 ≤ b ∧ b ≤ (10000 : Int32)) := mo_bl0.mp c2
      exact ((hQ.2 c1).1 c2)
    · replace c2 : 0 ≤ b ∧ b ≤ (10000 : Int32) := mo_blT c2
      refine Exists.intro c (Exists.intro (1 : Int32) (And.intro rfl (And.intro trivial ?_)))
      refine And.intro (fun (c3 : ¬ (mo_bl (0 ≤ c ∧ c ≤ (1 : Int32))) = 0) => ?_) (fun (c3 : (mo_bl (0 ≤ c ∧ c ≤ (1 : Int32))) = 0) => ?_)
      · replace c3 : 0 ≤ c ∧ c ≤ (1 : Int32) := mo_blT c3
        refine Exists.intro b (And.intro rfl (And.intro (show mo_le (σ.1 18 0 4) 40 ∧ mo_le (σ.1 23 0 4) 40 ∧ ∀ k_, k_ < (σ.1 18 0 4).toNatClampNeg → vp_in (σ.1 19 0 k_) 30 ∧ vp_in (σ.1 20 0 k_) 30 from (((hQ.2 c1).2 c2).1 c3).1) ?_))
        refine Exists.intro a (Exists.intro (1 : Int32) (Exists.intro b (And.intro rfl (And.intro (show mo_le (σ.1 6 0 5) 200 ∧ ∀ k_, k_ < (σ.1 6 0 5).toNatClampNeg → vp_in (σ.1 8 0 k_) 60 ∧ vp_in (σ.1 4 0 (σ.1 8 0 k_).toNatClampNeg) 30 from (((hQ.2 c1).2 c2).1 c3).2.1) ?_))))
        refine Exists.intro a (Exists.intro (0 : Int32) (Exists.intro b (And.intro rfl (And.intro (show mo_le (σ.1 6 0 5) 200 ∧ ∀ k_, k_ < (σ.1 6 0 5).toNatClampNeg → vp_in (σ.1 8 0 k_) 60 ∧ vp_in (σ.1 4 0 (σ.1 8 0 k_).toNatClampNeg) 30 from (((hQ.2 c1).2 c2).1 c3).2.2.1) ?_))))
        refine And.intro (fun (c4 : ¬ c = 0) => ?_) (fun (c4 : c = 0) => ?_)
        · refine Exists.intro ((mo_fo (fun k_ s_ => mo_ite (σ.1 7 0 k_ = a ∧ σ.1 9 0 k_ = (0 : Int32) ∧ (σ.1 10 0 k_ ≤ b ∧ b < σ.1 11 0 k_)) (s_ ||| ((mo_rowI σ 29 0 ((mo_set1 σ b (σ.1 18 0 4).toNatClampNeg).1)).1 29 0 (σ.1 4 0 (σ.1 8 0 k_).toNatClampNeg).toNatClampNeg &&& -((mo_rowI σ 29 0 ((mo_set1 σ b (σ.1 18 0 4).toNatClampNeg).1)).1 29 0 (σ.1 4 0 (σ.1 8 0 k_).toNatClampNeg).toNatClampNeg))) s_) 0 (σ.1 6 0 5).toNatClampNeg) &&& ((mo_fo (fun k_ s_ => mo_ite (σ.1 7 0 k_ = a ∧ σ.1 9 0 k_ = (1 : Int32) ∧ (σ.1 10 0 k_ ≤ b ∧ b < σ.1 11 0 k_)) (s_ ||| ((mo_rowI σ 29 0 ((mo_set1 σ b (σ.1 18 0 4).toNatClampNeg).1)).1 29 0 (σ.1 4 0 (σ.1 8 0 k_).toNatClampNeg).toNatClampNeg &&& -((mo_rowI σ 29 0 ((mo_set1 σ b (σ.1 18 0 4).toNatClampNeg).1)).1 29 0 (σ.1 4 0 (σ.1 8 0 k_).toNatClampNeg).toNatClampNeg))) s_) 0 (σ.1 6 0 5).toNatClampNeg) ^^^ (-1 : Int32))) (And.intro rfl (And.intro trivial ?_))
          exact ((((hQ.2 c1).2 c2).1 c3).2.2.2.1 c4)
        · refine Exists.intro ((mo_fo (fun k_ s_ => mo_ite (σ.1 7 0 k_ = a ∧ σ.1 9 0 k_ = (1 : Int32) ∧ (σ.1 10 0 k_ ≤ b ∧ b < σ.1 11 0 k_)) (s_ ||| ((mo_rowI σ 29 0 ((mo_set1 σ b (σ.1 18 0 4).toNatClampNeg).1)).1 29 0 (σ.1 4 0 (σ.1 8 0 k_).toNatClampNeg).toNatClampNeg &&& -((mo_rowI σ 29 0 ((mo_set1 σ b (σ.1 18 0 4).toNatClampNeg).1)).1 29 0 (σ.1 4 0 (σ.1 8 0 k_).toNatClampNeg).toNatClampNeg))) s_) 0 (σ.1 6 0 5).toNatClampNeg) &&& ((mo_fo (fun k_ s_ => mo_ite (σ.1 7 0 k_ = a ∧ σ.1 9 0 k_ = (0 : Int32) ∧ (σ.1 10 0 k_ ≤ b ∧ b < σ.1 11 0 k_)) (s_ ||| ((mo_rowI σ 29 0 ((mo_set1 σ b (σ.1 18 0 4).toNatClampNeg).1)).1 29 0 (σ.1 4 0 (σ.1 8 0 k_).toNatClampNeg).toNatClampNeg &&& -((mo_rowI σ 29 0 ((mo_set1 σ b (σ.1 18 0 4).toNatClampNeg).1)).1 29 0 (σ.1 4 0 (σ.1 8 0 k_).toNatClampNeg).toNatClampNeg))) s_) 0 (σ.1 6 0 5).toNatClampNeg) ^^^ (-1 : Int32))) (And.intro rfl (And.intro trivial ?_))
          exact ((((hQ.2 c1).2 c2).1 c3).2.2.2.2 c4)
      · replace c3 : ¬ (0 ≤ c ∧ c ≤ (1 : Int32)) := mo_bl0.mp c3
        exact (((hQ.2 c1).2 c2).2 c3)
