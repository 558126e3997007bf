theorem mo_blT {c : Prop} (h : ¬ mo_bl c = 0) : c := Classical.byContradiction fun q => h (mo_bl_f q)
def S_X11_part : mo_S := fun as σ Q => ∃ a : Int32, as = [.inr (.inr (0, 0)), .inl a] ∧ ((0 ≤ a ∧ a ≤ (9 : Int32) → (((σ.1 1 0 1) < (30 : Int32) → ((vp_in (σ.1 1 0 1) 30) ∧ Q (some (.inl (σ.1 1 0 1 + 1 - 1))) (mo_wI (mo_wI (mo_wI σ 2 0 ((σ.1 1 0 1).toNatClampNeg) a) 1 0 1 (σ.1 1 0 1 + 1)) 0 0 14 0))) ∧ (¬ (σ.1 1 0 1) < (30 : Int32) → Q (some (.inl (-5 : Int32))) (mo_wI σ 0 0 14 (-5 : Int32))))) ∧ (¬ (0 ≤ a ∧ a ≤ (9 : Int32)) → Q (some (.inl (-1 : Int32))) (mo_wI σ 0 0 14 (-1 : Int32))))
theorem m_X11_part : ∀ (as : List mo_V) (σ : mo_M) (P P' : mo_Q), (∀ x τ, P x τ → P' x τ) → S_X11_part as σ P → S_X11_part as σ P' := by
  rintro as σ P P' hm ⟨a, e, hq⟩
  exact ⟨a, e, ⟨fun c1 => ⟨fun c2 => ⟨((hq.1 c1).1 c2).1, hm _ _ ((hq.1 c1).1 c2).2⟩, fun c2 => hm _ _ ((hq.1 c1).2 c2)⟩, fun c1 => hm _ _ (hq.2 c1)⟩⟩
def cs_X11_part : Nat → mo_C := fun j => match j with
  | 0 => (2, false, 101, 50, S_X11_isWithin)
  | 1 => (2, true, 105, 11, S_X11_refuse)
  | 2 => (2, true, 112, 5, S_X5_add)
  | 3 => (2, true, 115, 11, S_X11_accept)
  | _ => (0, false, 0, 50, fun _ _ _ => False)
theorem cs_X11_part_ok (g : mo_E) : ∀ j, mo_cok g t_X11_part (cs_X11_part j) ∧ mo_mon (cs_X11_part j) := by
  intro j
  unfold cs_X11_part
  split
  · exact ⟨mo_cokS ct_X11_isWithin (by decide +kernel), m_X11_isWithin⟩
  · exact ⟨mo_cokV ct_X11_refuse (by decide) ⟨_, _, rfl⟩ (by decide +kernel), m_X11_refuse⟩
  · exact ⟨mo_cokV ct_X5_add (by decide) ⟨_, _, rfl⟩ (by decide +kernel), m_X5_add⟩
  · exact ⟨mo_cokV ct_X11_accept (by decide) ⟨_, _, rfl⟩ (by decide +kernel), m_X11_accept⟩
  · exact ⟨mo_cok0 g _, mo_mon0⟩
set_option maxRecDepth 20000 in
set_option maxHeartbeats 2000000 in
theorem ct_X11_part : mo_ct yX11_part t_X11_part S_X11_part := by
  refine mo_ct_of (by decide) rfl ?_
  rintro g as σ Q ⟨a, rfl, hQ⟩
  refine ⟨Nat.le_of_ble_eq_true rfl, mo_go ok_X11_part (cs_X11_part_ok g) [] 25 ?_⟩
  intro K hK
  refine Exists.intro a (Exists.intro (9 : Int32) (And.intro rfl (And.intro trivial ?_)))
  refine And.intro (fun (c1 : ¬ (mo_bl (0 ≤ a ∧ a ≤ (9 : Int32))) = 0) => ?_) (fun (c1 : (mo_bl (0 ≤ a ∧ a ≤ (9 : Int32))) = 0) => ?_)
  · replace c1 : 0 ≤ a ∧ a ≤ (9 : Int32) := mo_blT c1
    refine And.intro (fun (c2 : (σ.1 1 0 1) < (30 : Int32)) => ?_) (fun (c2 : ¬ (σ.1 1 0 1) < (30 : Int32)) => ?_)
    · refine Exists.intro a (And.intro rfl (And.intro (show vp_in (σ.1 1 0 1) 30 from ((hQ.1 c1).1 c2).1) ?_))
      refine Exists.intro (σ.1 1 0 1 + 1 - 1) (And.intro rfl (And.intro trivial ?_))
      exact ((hQ.1 c1).1 c2).2
    · refine Exists.intro (-5 : Int32) (And.intro rfl (And.intro trivial ?_))
      exact ((hQ.1 c1).2 c2)
  · replace c1 : ¬ (0 ≤ a ∧ a ≤ (9 : Int32)) := mo_bl0.mp c1
    refine Exists.intro (-1 : Int32) (And.intro rfl (And.intro trivial ?_))
    exact (hQ.2 c1)
def S_X12_part : mo_S := fun as σ Q => ∃ a : Int32, as = [.inr (.inr (50, 0)), .inl a] ∧ (((0 : Int32) ≤ a ∧ a ≤ (9 : Int32) → ((¬ (σ.1 50 0 1) = (30 : Int32) → (vp_in (σ.1 50 0 1) 30 ∧ Q (some (.inl ((((σ.1 50 0 1) + (1 : Int32)) - (1 : Int32))))) (mo_wI (mo_wI (mo_wI σ 51 0 ((σ.1 50 0 1).toNatClampNeg) a) 50 0 1 ((σ.1 50 0 1) + (1 : Int32))) 50 0 0 (if (((σ.1 50 0 1) + (1 : Int32)) - (1 : Int32)) < 0 then (((σ.1 50 0 1) + (1 : Int32)) - (1 : Int32)) else 0)))) ∧ ((σ.1 50 0 1) = (30 : Int32) → Q (some (.inl (-5 : Int32))) (mo_wI σ 50 0 0 (if (-5 : Int32) < 0 then (-5 : Int32) else 0))))) ∧ (¬ ((0 : Int32) ≤ a ∧ a ≤ (9 : Int32)) → Q (some (.inl (-1 : Int32))) (mo_wI σ 50 0 0 (if (-1 : Int32) < 0 then (-1 : Int32) else 0))))
theorem m_X12_part : ∀ (as : List mo_V) (σ : mo_M) (P P' : mo_Q), (∀ x τ, P x τ → P' x τ) → S_X12_part as σ P → S_X12_part as σ P' := by
  rintro as σ P P' hm ⟨a, e, hq⟩
  exact ⟨a, e, ⟨fun c1 => ⟨fun c2 => ⟨((hq.1 c1).1 c2).1, hm _ _ ((hq.1 c1).1 c2).2⟩, fun c2 => hm _ _ ((hq.1 c1).2 c2)⟩, fun c1 => hm _ _ (hq.2 c1)⟩⟩
def cs_X12_part : Nat → mo_C := fun j => match j with
  | 0 => (3, false, 109, 50, S_X12_in)
  | 1 => (2, true, 122, 12, S_X12_ends)
  | _ => (0, false, 0, 50, fun _ _ _ => False)
theorem cs_X12_part_ok (g : mo_E) : ∀ j, mo_cok g t_X12_part (cs_X12_part j) ∧ mo_mon (cs_X12_part j) := by
  intro j
  unfold cs_X12_part
  split
  · exact ⟨mo_cokS ct_X12_in (by decide +kernel), m_X12_in⟩
  · exact ⟨mo_cokV ct_X12_ends (by decide) ⟨_, _, rfl⟩ (by decide +kernel), m_X12_ends⟩
  · exact ⟨mo_cok0 g _, mo_mon0⟩
set_option maxRecDepth 20000 in
set_option maxHeartbeats 2000000 in
theorem ct_X12_part : mo_ct yX12_part t_X12_part S_X12_part := by
  refine mo_ct_of (by decide) rfl ?_
  rintro g as σ Q ⟨a, rfl, hQ⟩
  refine ⟨Nat.le_of_ble_eq_true rfl, mo_go ok_X12_part (cs_X12_part_ok g) [] 37 ?_⟩
  intro K hK
  refine Exists.intro a (Exists.intro (0 : Int32) (Exists.intro (9 : Int32) (And.intro rfl (And.intro trivial ?_))))
  refine And.intro (fun (c1 : ¬ (mo_bl ((0 : Int32) ≤ a ∧ a ≤ (9 : Int32))) = 0) => ?_) (fun (c1 : (mo_bl ((0 : Int32) ≤ a ∧ a ≤ (9 : Int32))) = 0) => ?_)
  · replace c1 : (0 : Int32) ≤ a ∧ a ≤ (9 : Int32) := mo_blT c1
    refine And.intro (fun (c2 : ¬ (σ.1 50 0 1) = (30 : Int32)) => ?_) (fun (c2 : (σ.1 50 0 1) = (30 : Int32)) => ?_)
    · refine And.intro (show vp_in (σ.1 50 0 1) 30 from ((hQ.1 c1).1 c2).1) ?_
      refine Exists.intro (((σ.1 50 0 1) + (1 : Int32)) - (1 : Int32)) (And.intro rfl (And.intro trivial ?_))
      exact ((hQ.1 c1).1 c2).2
    · refine Exists.intro (-5 : Int32) (And.intro rfl (And.intro trivial ?_))
      exact ((hQ.1 c1).2 c2)
  · replace c1 : ¬ ((0 : Int32) ≤ a ∧ a ≤ (9 : Int32)) := mo_bl0.mp c1
    refine Exists.intro (-1 : Int32) (And.intro rfl (And.intro trivial ?_))
    exact (hQ.2 c1)
def S_X11_make : mo_S := fun as σ Q => ∃ a : Int32, ∃ b : Int32, ∃ c : Int32, ∃ d : Int32, as = [.inr (.inr (0, 0)), .inl a, .inl b, .inl c, .inl d] ∧ (((0 ≤ b ∧ b ≤ (999 : Int32)) ∧ (0 ≤ c ∧ c ≤ (999 : Int32)) ∧ (0 ≤ d ∧ d ≤ (999 : Int32)) → ((0 ≤ a ∧ a < σ.1 1 0 1 → ((mo_le (σ.1 3 0 2) 60) ∧ (((mo_fsI (fun k_ => σ.1 4 0 k_ = a ∧ σ.1 5 0 k_ = (b * (1000000 : Int32) + c * (1000 : Int32) + d * (1 : Int32))) (σ.1 3 0 2).toNatClampNeg) = (-1 : Int32) → (((σ.1 3 0 2) < (60 : Int32) → ((vp_in (σ.1 3 0 2) 60) ∧ Q (some (.inl (σ.1 3 0 2 + 1 - 1))) (mo_wI (mo_wI (mo_wI (mo_wI σ 4 0 ((σ.1 3 0 2).toNatClampNeg) a) 5 0 ((σ.1 3 0 2).toNatClampNeg) ((b * (1000000 : Int32) + c * (1000 : Int32) + d * (1 : Int32)))) 3 0 2 (σ.1 3 0 2 + 1)) 0 0 14 0))) ∧ (¬ (σ.1 3 0 2) < (60 : Int32) → Q (some (.inl (-5 : Int32))) (mo_wI σ 0 0 14 (-5 : Int32))))) ∧ (¬ (mo_fsI (fun k_ => σ.1 4 0 k_ = a ∧ σ.1 5 0 k_ = (b * (1000000 : Int32) + c * (1000 : Int32) + d * (1 : Int32))) (σ.1 3 0 2).toNatClampNeg) = (-1 : Int32) → Q (some (.inl (-4 : Int32))) (mo_wI σ 0 0 14 (-4 : Int32)))))) ∧ (¬ (0 ≤ a ∧ a < σ.1 1 0 1) → Q (some (.inl (-2 : Int32))) (mo_wI σ 0 0 14 (-2 : Int32))))) ∧ (¬ ((0 ≤ b ∧ b ≤ (999 : Int32)) ∧ (0 ≤ c ∧ c ≤ (999 : Int32)) ∧ (0 ≤ d ∧ d ≤ (999 : Int32))) → Q (some (.inl (-1 : Int32))) (mo_wI σ 0 0 14 (-1 : Int32))))
theorem m_X11_make : ∀ (as : List mo_V) (σ : mo_M) (P P' : mo_Q), (∀ x τ, P x τ → P' x τ) → S_X11_make as σ P → S_X11_make as σ P' := by
  rintro as σ P P' hm ⟨a, b, c, d, e, hq⟩
  exact ⟨a, b, c, d, e, ⟨fun c1 => ⟨fun c2 => ⟨((hq.1 c1).1 c2).1, ⟨fun c3 => ⟨fun c4 => ⟨((((hq.1 c1).1 c2).2.1 c3).1 c4).1, hm _ _ ((((hq.1 c1).1 c2).2.1 c3).1 c4).2⟩, fun c4 => hm _ _ ((((hq.1 c1).1 c2).2.1 c3).2 c4)⟩, fun c3 => hm _ _ (((hq.1 c1).1 c2).2.2 c3)⟩⟩, fun c2 => hm _ _ ((hq.1 c1).2 c2)⟩, fun c1 => hm _ _ (hq.2 c1)⟩⟩
def cs_X11_make : Nat → mo_C := fun j => match j with
  | 0 => (3, false, 118, 50, S_X11_isVersion)
  | 1 => (2, true, 105, 11, S_X11_refuse)
  | 2 => (2, true, 122, 11, S_X11_isPart)
  | 3 => (3, false, 126, 50, S_X11_versionOf)
  | 4 => (3, true, 130, 3, S_X3_search)
  | 5 => (3, true, 135, 3, S_X3_add)
  | 6 => (2, true, 115, 11, S_X11_accept)
  | _ => (0, false, 0, 50, fun _ _ _ => False)
theorem cs_X11_make_ok (g : mo_E) : ∀ j, mo_cok g t_X11_make (cs_X11_make j) ∧ mo_mon (cs_X11_make j) := by
  intro j
  unfold cs_X11_make
  split
  · exact ⟨mo_cokS ct_X11_isVersion (by decide +kernel), m_X11_isVersion⟩
  · exact ⟨mo_cokV ct_X11_refuse (by decide) ⟨_, _, rfl⟩ (by decide +kernel), m_X11_refuse⟩
  · exact ⟨mo_cokV ct_X11_isPart (by decide) ⟨_, _, rfl⟩ (by decide +kernel), m_X11_isPart⟩
  · exact ⟨mo_cokS ct_X11_versionOf (by decide +kernel), m_X11_versionOf⟩
  · exact ⟨mo_cokV ct_X3_search (by decide) ⟨_, _, rfl⟩ (by decide +kernel), m_X3_search⟩
  · exact ⟨mo_cokV ct_X3_add (by decide) ⟨_, _, rfl⟩ (by decide +kernel), m_X3_add⟩
  · exact ⟨mo_cokV ct_X11_accept (by decide) ⟨_, _, rfl⟩ (by decide +kernel), m_X11_accept⟩
  · exact ⟨mo_cok0 g _, mo_mon0⟩
set_option maxRecDepth 20000 in
set_option maxHeartbeats 2000000 in
theorem ct_X11_make : mo_ct yX11_make t_X11_make S_X11_make := by
  refine mo_ct_of (by decide) rfl ?_
  rintro g as σ Q ⟨a, b, c, d, rfl, hQ⟩
  refine ⟨Nat.le_of_ble_eq_true rfl, mo_go ok_X11_make (cs_X11_make_ok g) [] 51 ?_⟩
  intro K hK
  refine Exists.intro b (Exists.intro c (Exists.intro d (And.intro rfl (And.intro trivial ?_))))
  refine And.intro (fun (c1 : ¬ (mo_bl ((0 ≤ b ∧ b ≤ (999 : Int32)) ∧ (0 ≤ c ∧ c ≤ (999 : Int32)) ∧ (0 ≤ d ∧ d ≤ (999 : Int32)))) = 0) => ?_) (fun (c1 : (mo_bl ((0 ≤ b ∧ b ≤ (999 : Int32)) ∧ (0 ≤ c ∧ c ≤ (999 : Int32)) ∧ (0 ≤ d ∧ d ≤ (999 : Int32)))) = 0) => ?_)
  · replace c1 : (0 ≤ b ∧ b ≤ (999 : Int32)) ∧ (0 ≤ c ∧ c ≤ (999 : Int32)) ∧ (0 ≤ d ∧ d ≤ (999 : Int32)) := mo_blT c1
    refine Exists.intro a (And.intro rfl (And.intro trivial ?_))
    refine And.intro (fun (c2 : ¬ (mo_bl (0 ≤ a ∧ a < σ.1 1 0 1)) = 0) => ?_) (fun (c2 : (mo_bl (0 ≤ a ∧ a < σ.1 1 0 1)) = 0) => ?_)
    · replace c2 : 0 ≤ a ∧ a < σ.1 1 0 1 := mo_blT c2
      refine Exists.intro b (Exists.intro c (Exists.intro d (And.intro rfl (And.intro trivial ?_))))
      refine Exists.intro a (Exists.intro (b * (1000000 : Int32) + c * (1000 : Int32) + d * (1 : Int32)) (And.intro rfl (And.intro (show mo_le (σ.1 3 0 2) 60 from ((hQ.1 c1).1 c2).1) ?_)))
      refine And.intro (fun (c3 : (mo_fsI (fun k_ => σ.1 4 0 k_ = a ∧ σ.1 5 0 k_ = (b * (1000000 : Int32) + c * (1000 : Int32) + d * (1 : Int32))) (σ.1 3 0 2).toNatClampNeg) = (-1 : Int32)) => ?_) (fun (c3 : ¬ (mo_fsI (fun k_ => σ.1 4 0 k_ = a ∧ σ.1 5 0 k_ = (b * (1000000 : Int32) + c * (1000 : Int32) + d * (1 : Int32))) (σ.1 3 0 2).toNatClampNeg) = (-1 : Int32)) => ?_)
      · refine And.intro (fun (c4 : (σ.1 3 0 2) < (60 : Int32)) => ?_) (fun (c4 : ¬ (σ.1 3 0 2) < (60 : Int32)) => ?_)
        · refine Exists.intro a (Exists.intro (b * (1000000 : Int32) + c * (1000 : Int32) + d * (1 : Int32)) (And.intro rfl (And.intro (show vp_in (σ.1 3 0 2) 60 from ((((hQ.1 c1).1 c2).2.1 c3).1 c4).1) ?_)))
          refine Exists.intro (σ.1 3 0 2 + 1 - 1) (And.intro rfl (And.intro trivial ?_))
          exact ((((hQ.1 c1).1 c2).2.1 c3).1 c4).2
        · refine Exists.intro (-5 : Int32) (And.intro rfl (And.intro trivial ?_))
          exact ((((hQ.1 c1).1 c2).2.1 c3).2 c4)
      · refine Exists.intro (-4 : Int32) (And.intro rfl (And.intro trivial ?_))
        exact (((hQ.1 c1).1 c2).2.2 c3)
    · replace c2 : ¬ (0 ≤ a ∧ a < σ.1 1 0 1) := mo_bl0.mp c2
      refine Exists.intro (-2 : Int32) (And.intro rfl (And.intro trivial ?_))
      exact ((hQ.1 c1).2 c2)
  · replace c1 : ¬ ((0 ≤ b ∧ b ≤ (999 : Int32)) ∧ (0 ≤ c ∧ c ≤ (999 : Int32)) ∧ (0 ≤ d ∧ d ≤ (999 : Int32))) := mo_bl0.mp c1
    refine Exists.intro (-1 : Int32) (And.intro rfl (And.intro trivial ?_))
    exact (hQ.2 c1)
def S_X12_make : mo_S := fun as σ Q => ∃ a : Int32, ∃ b : Int32, ∃ c : Int32, ∃ d : Int32, as = [.inr (.inr (50, 0)), .inl a, .inl b, .inl c, .inl d] ∧ (((0 ≤ b ∧ b ≤ (999 : Int32)) ∧ (0 ≤ c ∧ c ≤ (999 : Int32)) ∧ (0 ≤ d ∧ d ≤ (999 : Int32)) → ((0 ≤ a ∧ a ≤ σ.1 50 0 1 - 1 → ((mo_le (σ.1 50 0 2) 60) ∧ (((mo_fsI (fun k_ => σ.1 52 0 k_ = a ∧ σ.1 53 0 k_ = ((b * (1000 : Int32) + c) * (1000 : Int32) + d)) (σ.1 50 0 2).toNatClampNeg) = (-1 : Int32) → ((¬ (σ.1 50 0 2) = (60 : Int32) → (vp_in (σ.1 50 0 2) 60 ∧ (vp_in (σ.1 50 0 2) 60 ∧ Q (some (.inl ((((σ.1 50 0 2) + (1 : Int32)) - (1 : Int32))))) (mo_wI (mo_wI (mo_wI (mo_wI σ 52 0 ((σ.1 50 0 2).toNatClampNeg) a) 53 0 ((σ.1 50 0 2).toNatClampNeg) ((b * (1000 : Int32) + c) * (1000 : Int32) + d)) 50 0 2 ((σ.1 50 0 2) + (1 : Int32))) 50 0 0 (if (((σ.1 50 0 2) + (1 : Int32)) - (1 : Int32)) < 0 then (((σ.1 50 0 2) + (1 : Int32)) - (1 : Int32)) else 0))))) ∧ ((σ.1 50 0 2) = (60 : Int32) → Q (some (.inl (-5 : Int32))) (mo_wI σ 50 0 0 (if (-5 : Int32) < 0 then (-5 : Int32) else 0))))) ∧ (¬ (mo_fsI (fun k_ => σ.1 52 0 k_ = a ∧ σ.1 53 0 k_ = ((b * (1000 : Int32) + c) * (1000 : Int32) + d)) (σ.1 50 0 2).toNatClampNeg) = (-1 : Int32) → Q (some (.inl (-4 : Int32))) (mo_wI σ 50 0 0 (if (-4 : Int32) < 0 then (-4 : Int32) else 0)))))) ∧ (¬ (0 ≤ a ∧ a ≤ σ.1 50 0 1 - 1) → Q (some (.inl (-2 : Int32))) (mo_wI σ 50 0 0 (if (-2 : Int32) < 0 then (-2 : Int32) else 0))))) ∧ (¬ ((0 ≤ b ∧ b ≤ (999 : Int32)) ∧ (0 ≤ c ∧ c ≤ (999 : Int32)) ∧ (0 ≤ d ∧ d ≤ (999 : Int32))) → Q (some (.inl (-1 : Int32))) (mo_wI σ 50 0 0 (if (-1 : Int32) < 0 then (-1 : Int32) else 0))))
theorem m_X12_make : ∀ (as : List mo_V) (σ : mo_M) (P P' : mo_Q), (∀ x τ, P x τ → P' x τ) → S_X12_make as σ P → S_X12_make as σ P' := by
  rintro as σ P P' hm ⟨a, b, c, d, e, hq⟩
  exact ⟨a, b, c, d, e, ⟨fun c1 => ⟨fun c2 => ⟨((hq.1 c1).1 c2).1, ⟨fun c3 => ⟨fun c4 => ⟨((((hq.1 c1).1 c2).2.1 c3).1 c4).1, ⟨((((hq.1 c1).1 c2).2.1 c3).1 c4).2.1, hm _ _ ((((hq.1 c1).1 c2).2.1 c3).1 c4).2.2⟩⟩, fun c4 => hm _ _ ((((hq.1 c1).1 c2).2.1 c3).2 c4)⟩, fun c3 => hm _ _ (((hq.1 c1).1 c2).2.2 c3)⟩⟩, fun c2 => hm _ _ ((hq.1 c1).2 c2)⟩, fun c1 => hm _ _ (hq.2 c1)⟩⟩
def cs_X12_make : Nat → mo_C := fun j => match j with
  | 0 => (3, false, 126, 50, S_X12_areGood)
  | 1 => (2, true, 122, 12, S_X12_ends)
  | 2 => (2, true, 129, 12, S_X12_isPart)
  | 3 => (3, false, 133, 50, S_X12_versionOf)
  | 4 => (3, true, 137, 12, S_X12_found)
  | _ => (0, false, 0, 50, fun _ _ _ => False)
theorem cs_X12_make_ok (g : mo_E) : ∀ j, mo_cok g t_X12_make (cs_X12_make j) ∧ mo_mon (cs_X12_make j) := by
  intro j
  unfold cs_X12_make
  split
  · exact ⟨mo_cokS ct_X12_areGood (by decide +kernel), m_X12_areGood⟩
  · exact ⟨mo_cokV ct_X12_ends (by decide) ⟨_, _, rfl⟩ (by decide +kernel), m_X12_ends⟩
  · exact ⟨mo_cokV ct_X12_isPart (by decide) ⟨_, _, rfl⟩ (by decide +kernel), m_X12_isPart⟩
  · exact ⟨mo_cokS ct_X12_versionOf (by decide +kernel), m_X12_versionOf⟩
  · exact ⟨mo_cokV ct_X12_found (by decide) ⟨_, _, rfl⟩ (by decide +kernel), m_X12_found⟩
  · exact ⟨mo_cok0 g _, mo_mon0⟩
set_option maxRecDepth 20000 in
set_option maxHeartbeats 2000000 in
theorem ct_X12_make : mo_ct yX12_make t_X12_make S_X12_make := by
  refine mo_ct_of (by decide) rfl ?_
  rintro g as σ Q ⟨a, b, c, d, rfl, hQ⟩
  refine ⟨Nat.le_of_ble_eq_true rfl, mo_go ok_X12_make (cs_X12_make_ok g) [] 67 ?_⟩
  intro K hK
  refine Exists.intro b (Exists.intro c (Exists.intro d (And.intro rfl (And.intro trivial ?_))))
  refine And.intro (fun (c1 : ¬ (mo_bl ((0 ≤ b ∧ b ≤ (999 : Int32)) ∧ (0 ≤ c ∧ c ≤ (999 : Int32)) ∧ (0 ≤ d ∧ d ≤ (999 : Int32)))) = 0) => ?_) (fun (c1 : (mo_bl ((0 ≤ b ∧ b ≤ (999 : Int32)) ∧ (0 ≤ c ∧ c ≤ (999 : Int32)) ∧ (0 ≤ d ∧ d ≤ (999 : Int32)))) = 0) => ?_)
  · replace c1 : (0 ≤ b ∧ b ≤ (999 : Int32)) ∧ (0 ≤ c ∧ c ≤ (999 : Int32)) ∧ (0 ≤ d ∧ d ≤ (999 : Int32)) := mo_blT c1
    refine Exists.intro a (And.intro rfl (And.intro trivial ?_))
    refine And.intro (fun (c2 : ¬ (mo_bl (0 ≤ a ∧ a ≤ σ.1 50 0 1 - 1)) = 0) => ?_) (fun (c2 : (mo_bl (0 ≤ a ∧ a ≤ σ.1 50 0 1 - 1)) = 0) => ?_)
    · replace c2 : 0 ≤ a ∧ a ≤ σ.1 50 0 1 - 1 := mo_blT c2
      refine Exists.intro b (Exists.intro c (Exists.intro d (And.intro rfl (And.intro trivial ?_))))
      refine Exists.intro a (Exists.intro ((b * (1000 : Int32) + c) * (1000 : Int32) + d) (And.intro rfl (And.intro (show mo_le (σ.1 50 0 2) 60 from ((hQ.1 c1).1 c2).1) ?_)))
      refine And.intro (fun (c3 : (mo_fsI (fun k_ => σ.1 52 0 k_ = a ∧ σ.1 53 0 k_ = ((b * (1000 : Int32) + c) * (1000 : Int32) + d)) (σ.1 50 0 2).toNatClampNeg) = (-1 : Int32)) => ?_) (fun (c3 : ¬ (mo_fsI (fun k_ => σ.1 52 0 k_ = a ∧ σ.1 53 0 k_ = ((b * (1000 : Int32) + c) * (1000 : Int32) + d)) (σ.1 50 0 2).toNatClampNeg) = (-1 : Int32)) => ?_)
      · refine And.intro (fun (c4 : ¬ (σ.1 50 0 2) = (60 : Int32)) => ?_) (fun (c4 : (σ.1 50 0 2) = (60 : Int32)) => ?_)
        · refine And.intro (show vp_in (σ.1 50 0 2) 60 from ((((hQ.1 c1).1 c2).2.1 c3).1 c4).1) ?_
          refine Exists.intro b (Exists.intro c (Exists.intro d (And.intro rfl (And.intro trivial ?_))))
          refine And.intro (show vp_in (σ.1 50 0 2) 60 from ((((hQ.1 c1).1 c2).2.1 c3).1 c4).2.1) ?_
          refine Exists.intro (((σ.1 50 0 2) + (1 : Int32)) - (1 : Int32)) (And.intro rfl (And.intro trivial ?_))
          exact ((((hQ.1 c1).1 c2).2.1 c3).1 c4).2.2
        · refine Exists.intro (-5 : Int32) (And.intro rfl (And.intro trivial ?_))
          exact ((((hQ.1 c1).1 c2).2.1 c3).2 c4)
      · refine Exists.intro (-4 : Int32) (And.intro rfl (And.intro trivial ?_))
        exact (((hQ.1 c1).1 c2).2.2 c3)
    · replace c2 : ¬ (0 ≤ a ∧ a ≤ σ.1 50 0 1 - 1) := mo_bl0.mp c2
      refine Exists.intro (-2 : Int32) (And.intro rfl (And.intro trivial ?_))
      exact ((hQ.1 c1).2 c2)
  · replace c1 : ¬ ((0 ≤ b ∧ b ≤ (999 : Int32)) ∧ (0 ≤ c ∧ c ≤ (999 : Int32)) ∧ (0 ≤ d ∧ d ≤ (999 : Int32))) := mo_bl0.mp c1
    refine Exists.intro (-1 : Int32) (And.intro rfl (And.intro trivial ?_))
    exact (hQ.2 c1)
def S_X11_find : mo_S := fun as σ Q => ∃ a : Int32, ∃ b : Int32, ∃ c : Int32, ∃ d : Int32, as = [.inr (.inr (0, 0)), .inl a, .inl b, .inl c, .inl d] ∧ ((¬ ((0 ≤ b ∧ b ≤ (999 : Int32)) ∧ (0 ≤ c ∧ c ≤ (999 : Int32)) ∧ (0 ≤ d ∧ d ≤ (999 : Int32))) → Q (some (.inl (-1 : Int32))) (σ)) ∧ ((0 ≤ b ∧ b ≤ (999 : Int32)) ∧ (0 ≤ c ∧ c ≤ (999 : Int32)) ∧ (0 ≤ d ∧ d ≤ (999 : Int32)) → ((mo_le (σ.1 3 0 2) 60) ∧ Q (some (.inl (mo_fsI (fun k_ => σ.1 4 0 k_ = a ∧ σ.1 5 0 k_ = (b * (1000000 : Int32) + c * (1000 : Int32) + d * (1 : Int32))) (σ.1 3 0 2).toNatClampNeg))) (σ))))
theorem m_X11_find : ∀ (as : List mo_V) (σ : mo_M) (P P' : mo_Q), (∀ x τ, P x τ → P' x τ) → S_X11_find as σ P → S_X11_find as σ P' := by
  rintro as σ P P' hm ⟨a, b, c, d, e, hq⟩
  exact ⟨a, b, c, d, e, ⟨fun c1 => hm _ _ (hq.1 c1), fun c1 => ⟨(hq.2 c1).1, hm _ _ (hq.2 c1).2⟩⟩⟩
def cs_X11_find : Nat → mo_C := fun j => match j with
  | 0 => (3, false, 118, 50, S_X11_isVersion)
  | 1 => (3, false, 126, 50, S_X11_versionOf)
  | 2 => (3, true, 130, 3, S_X3_search)
  | _ => (0, false, 0, 50, fun _ _ _ => False)
theorem cs_X11_find_ok (g : mo_E) : ∀ j, mo_cok g t_X11_find (cs_X11_find j) ∧ mo_mon (cs_X11_find j) := by
  intro j
  unfold cs_X11_find
  split
  · exact ⟨mo_cokS ct_X11_isVersion (by decide +kernel), m_X11_isVersion⟩
  · exact ⟨mo_cokS ct_X11_versionOf (by decide +kernel), m_X11_versionOf⟩
  · exact ⟨mo_cokV ct_X3_search (by decide) ⟨_, _, rfl⟩ (by decide +kernel), m_X3_search⟩
  · exact ⟨mo_cok0 g _, mo_mon0⟩
set_option maxRecDepth 20000 in
set_option maxHeartbeats 2000000 in
theorem ct_X11_find : mo_ct yX11_find t_X11_find S_X11_find := by
  refine mo_ct_of (by decide) rfl ?_
  rintro g as σ Q ⟨a, b, c, d, rfl, hQ⟩
  refine ⟨Nat.le_of_ble_eq_true rfl, mo_go ok_X11_find (cs_X11_find_ok g) [] 17 ?_⟩
  intro K hK
  refine Exists.intro b (Exists.intro c (Exists.intro d (And.intro rfl (And.intro trivial ?_))))
  refine And.intro (fun (c1 : (mo_bl ((0 ≤ b ∧ b ≤ (999 : Int32)) ∧ (0 ≤ c ∧ c ≤ (999 : Int32)) ∧ (0 ≤ d ∧ d ≤ (999 : Int32)))) = 0) => ?_) (fun (c1 : ¬ (mo_bl ((0 ≤ b ∧ b ≤ (999 : Int32)) ∧ (0 ≤ c ∧ c ≤ (999 : Int32)) ∧ (0 ≤ d ∧ d ≤ (999 : Int32)))) = 0) => ?_)
  · replace c1 : ¬ ((0 ≤ b ∧ b ≤ (999 : Int32)) ∧ (0 ≤ c ∧ c ≤ (999 : Int32)) ∧ (0 ≤ d ∧ d ≤ (999 : Int32))) := mo_bl0.mp c1
    exact (hQ.1 c1)
  · replace c1 : (0 ≤ b ∧ b ≤ (999 : Int32)) ∧ (0 ≤ c ∧ c ≤ (999 : Int32)) ∧ (0 ≤ d ∧ d ≤ (999 : Int32)) := mo_blT c1
    refine Exists.intro b (Exists.intro c (Exists.intro d (And.intro rfl (And.intro trivial ?_))))
    refine Exists.intro a (Exists.intro (b * (1000000 : Int32) + c * (1000 : Int32) + d * (1 : Int32)) (And.intro rfl (And.intro (show mo_le (σ.1 3 0 2) 60 from (hQ.2 c1).1) ?_)))
    exact (hQ.2 c1).2
def S_X12_find : mo_S := fun as σ Q => ∃ a : Int32, ∃ b : Int32, ∃ c : Int32, ∃ d : Int32, as = [.inr (.inr (50, 0)), .inl a, .inl b, .inl c, .inl d] ∧ ((¬ ((0 ≤ b ∧ b ≤ (999 : Int32)) ∧ (0 ≤ c ∧ c ≤ (999 : Int32)) ∧ (0 ≤ d ∧ d ≤ (999 : Int32))) → Q (some (.inl (-1 : Int32))) (σ)) ∧ ((0 ≤ b ∧ b ≤ (999 : Int32)) ∧ (0 ≤ c ∧ c ≤ (999 : Int32)) ∧ (0 ≤ d ∧ d ≤ (999 : Int32)) → ((mo_le (σ.1 50 0 2) 60) ∧ Q (some (.inl (mo_fsI (fun k_ => σ.1 52 0 k_ = a ∧ σ.1 53 0 k_ = ((b * (1000 : Int32) + c) * (1000 : Int32) + d)) (σ.1 50 0 2).toNatClampNeg))) (σ))))
theorem m_X12_find : ∀ (as : List mo_V) (σ : mo_M) (P P' : mo_Q), (∀ x τ, P x τ → P' x τ) → S_X12_find as σ P → S_X12_find as σ P' := by
  rintro as σ P P' hm ⟨a, b, c, d, e, hq⟩
  exact ⟨a, b, c, d, e, ⟨fun c1 => hm _ _ (hq.1 c1), fun c1 => ⟨(hq.2 c1).1, hm _ _ (hq.2 c1).2⟩⟩⟩
def cs_X12_find : Nat → mo_C := fun j => match j with
  | 0 => (3, false, 126, 50, S_X12_areGood)
  | 1 => (3, false, 133, 50, S_X12_versionOf)
  | 2 => (3, true, 137, 12, S_X12_found)
  | _ => (0, false, 0, 50, fun _ _ _ => False)
theorem cs_X12_find_ok (g : mo_E) : ∀ j, mo_cok g t_X12_find (cs_X12_find j) ∧ mo_mon (cs_X12_find j) := by
  intro j
  unfold cs_X12_find
  split
  · exact ⟨mo_cokS ct_X12_areGood (by decide +kernel), m_X12_areGood⟩
  · exact ⟨mo_cokS ct_X12_versionOf (by decide +kernel), m_X12_versionOf⟩
  · exact ⟨mo_cokV ct_X12_found (by decide) ⟨_, _, rfl⟩ (by decide +kernel), m_X12_found⟩
  · exact ⟨mo_cok0 g _, mo_mon0⟩
set_option maxRecDepth 20000 in
set_option maxHeartbeats 2000000 in
theorem ct_X12_find : mo_ct yX12_find t_X12_find S_X12_find := by
  refine mo_ct_of (by decide) rfl ?_
  rintro g as σ Q ⟨a, b, c, d, rfl, hQ⟩
  refine ⟨Nat.le_of_ble_eq_true rfl, mo_go ok_X12_find (cs_X12_find_ok g) [] 16 ?_⟩
  intro K hK
  refine Exists.intro b (Exists.intro c (Exists.intro d (And.intro rfl (And.intro trivial ?_))))
  refine And.intro (fun (c1 : (mo_bl ((0 ≤ b ∧ b ≤ (999 : Int32)) ∧ (0 ≤ c ∧ c ≤ (999 : Int32)) ∧ (0 ≤ d ∧ d ≤ (999 : Int32)))) = 0) => ?_) (fun (c1 : ¬ (mo_bl ((0 ≤ b ∧ b ≤ (999 : Int32)) ∧ (0 ≤ c ∧ c ≤ (999 : Int32)) ∧ (0 ≤ d ∧ d ≤ (999 : Int32)))) = 0) => ?_)
  · replace c1 : ¬ ((0 ≤ b ∧ b ≤ (999 : Int32)) ∧ (0 ≤ c ∧ c ≤ (999 : Int32)) ∧ (0 ≤ d ∧ d ≤ (999 : Int32))) := mo_bl0.mp c1
    exact (hQ.1 c1)
  · replace c1 : (0 ≤ b ∧ b ≤ (999 : Int32)) ∧ (0 ≤ c ∧ c ≤ (999 : Int32)) ∧ (0 ≤ d ∧ d ≤ (999 : Int32)) := mo_blT c1
    refine Exists.intro b (Exists.intro c (Exists.intro d (And.intro rfl (And.intro trivial ?_))))
    refine Exists.intro a (Exists.intro ((b * (1000 : Int32) + c) * (1000 : Int32) + d) (And.intro rfl (And.intro (show mo_le (σ.1 50 0 2) 60 from (hQ.2 c1).1) ?_)))
    exact (hQ.2 c1).2
def S_X11_link : mo_S := fun as σ Q => ∃ a : Int32, ∃ b : Int32, ∃ c : Int32, ∃ d : Int32, as = [.inr (.inr (0, 0)), .inl a, .inl b, .inl c, .inl d] ∧ ((¬ (0 ≤ c ∧ c ≤ (3 : Int32)) → Q (some (.inl (-1 : Int32))) (mo_wI σ 0 0 14 (-1 : Int32))) ∧ (0 ≤ c ∧ c ≤ (3 : Int32) → ((0 ≤ d ∧ d ≤ (10000 : Int32) → ((¬ (0 ≤ a ∧ a < σ.1 3 0 2) → Q (some (.inl (-2 : Int32))) (mo_wI σ 0 0 14 (-2 : Int32))) ∧ (0 ≤ a ∧ a < σ.1 3 0 2 → ((0 ≤ b ∧ b < σ.1 3 0 2 → ((¬ a = b → (((σ.1 6 0 5) < (200 : Int32) → ((vp_in (σ.1 6 0 5) 200) ∧ Q (some (.inl (σ.1 6 0 5 + 1 - 1))) (mo_wI (mo_wI (mo_wI (mo_wI (mo_wI (mo_wI (mo_wI σ 7 0 ((σ.1 6 0 5).toNatClampNeg) a) 8 0 ((σ.1 6 0 5).toNatClampNeg) b) 9 0 ((σ.1 6 0 5).toNatClampNeg) c) 10 0 ((σ.1 6 0 5).toNatClampNeg) d) 11 0 ((σ.1 6 0 5).toNatClampNeg) 10001) 6 0 5 (σ.1 6 0 5 + 1)) 0 0 14 0))) ∧ (¬ (σ.1 6 0 5) < (200 : Int32) → Q (some (.inl (-5 : Int32))) (mo_wI σ 0 0 14 (-5 : Int32))))) ∧ (a = b → Q (some (.inl (-4 : Int32))) (mo_wI σ 0 0 14 (-4 : Int32))))) ∧ (¬ (0 ≤ b ∧ b < σ.1 3 0 2) → Q (some (.inl (-2 : Int32))) (mo_wI σ 0 0 14 (-2 : Int32))))))) ∧ (¬ (0 ≤ d ∧ d ≤ (10000 : Int32)) → Q (some (.inl (-1 : Int32))) (mo_wI σ 0 0 14 (-1 : Int32))))))
theorem m_X11_link : ∀ (as : List mo_V) (σ : mo_M) (P P' : mo_Q), (∀ x τ, P x τ → P' x τ) → S_X11_link as σ P → S_X11_link as σ P' := by
  rintro as σ P P' hm ⟨a, b, c, d, e, hq⟩
  exact ⟨a, b, c, d, e, ⟨fun c1 => hm _ _ (hq.1 c1), fun c1 => ⟨fun c2 => ⟨fun c3 => hm _ _ (((hq.2 c1).1 c2).1 c3), fun c3 => ⟨fun c4 => ⟨fun c5 => ⟨fun c6 => ⟨((((((hq.2 c1).1 c2).2 c3).1 c4).1 c5).1 c6).1, hm _ _ ((((((hq.2 c1).1 c2).2 c3).1 c4).1 c5).1 c6).2⟩, fun c6 => hm _ _ ((((((hq.2 c1).1 c2).2 c3).1 c4).1 c5).2 c6)⟩, fun c5 => hm _ _ (((((hq.2 c1).1 c2).2 c3).1 c4).2 c5)⟩, fun c4 => hm _ _ ((((hq.2 c1).1 c2).2 c3).2 c4)⟩⟩, fun c2 => hm _ _ ((hq.2 c1).2 c2)⟩⟩⟩
def cs_X11_link : Nat → mo_C := fun j => match j with
  | 0 => (2, false, 101, 50, S_X11_isWithin)
  | 1 => (1, false, 137, 50, S_X11_isDay)
  | 2 => (2, true, 105, 11, S_X11_refuse)
  | 3 => (2, true, 140, 11, S_X11_isMake)
  | 4 => (5, true, 144, 2, S_X2_add)
  | 5 => (2, true, 115, 11, S_X11_accept)
  | _ => (0, false, 0, 50, fun _ _ _ => False)
theorem cs_X11_link_ok (g : mo_E) : ∀ j, mo_cok g t_X11_link (cs_X11_link j) ∧ mo_mon (cs_X11_link j) := by
  intro j
  unfold cs_X11_link
  split
  · exact ⟨mo_cokS ct_X11_isWithin (by decide +kernel), m_X11_isWithin⟩
  · exact ⟨mo_cokS ct_X11_isDay (by decide +kernel), m_X11_isDay⟩
  · exact ⟨mo_cokV ct_X11_refuse (by decide) ⟨_, _, rfl⟩ (by decide +kernel), m_X11_refuse⟩
  · exact ⟨mo_cokV ct_X11_isMake (by decide) ⟨_, _, rfl⟩ (by decide +kernel), m_X11_isMake⟩
  · exact ⟨mo_cokV ct_X2_add (by decide) ⟨_, _, rfl⟩ (by decide +kernel), m_X2_add⟩
  · exact ⟨mo_cokV ct_X11_accept (by decide) ⟨_, _, rfl⟩ (by decide +kernel), m_X11_accept⟩
  · exact ⟨mo_cok0 g _, mo_mon0⟩
set_option maxRecDepth 20000 in
set_option maxHeartbeats 2000000 in
theorem ct_X11_link : mo_ct yX11_link t_X11_link S_X11_link := by
  refine mo_ct_of (by decide) rfl ?_
  rintro g as σ Q ⟨a, b, c, d, rfl, hQ⟩
  refine ⟨Nat.le_of_ble_eq_true rfl, mo_go ok_X11_link (cs_X11_link_ok g) [] 50 ?_⟩
  intro K hK
  refine Exists.intro c (Exists.intro (3 : Int32) (And.intro rfl (And.intro trivial ?_)))
  refine And.intro (fun (c1 : (mo_bl (0 ≤ c ∧ c ≤ (3 : Int32))) = 0) => ?_) (fun (c1 : ¬ (mo_bl (0 ≤ c ∧ c ≤ (3 : Int32))) = 0) => ?_)
  · replace c1 : ¬ (0 ≤ c ∧ c ≤ (3 : Int32)) := mo_bl0.mp c1
    refine Exists.intro (-1 : Int32) (And.intro rfl (And.intro trivial ?_))
    exact (hQ.1 c1)
  · replace c1 : 0 ≤ c ∧ c ≤ (3 : Int32) := mo_blT c1
    refine Exists.intro d (And.intro rfl (And.intro trivial ?_))
    refine And.intro (fun (c2 : ¬ (mo_bl (0 ≤ d ∧ d ≤ (10000 : Int32))) = 0) => ?_) (fun (c2 : (mo_bl (0 ≤ d ∧ d ≤ (10000 : Int32))) = 0) => ?_)
    · replace c2 : 0 ≤ d ∧ d ≤ (10000 : Int32) := mo_blT c2
      refine Exists.intro a (And.intro rfl (And.intro trivial ?_))
      refine And.intro (fun (c3 : (mo_bl (0 ≤ a ∧ a < σ.1 3 0 2)) = 0) => ?_) (fun (c3 : ¬ (mo_bl (0 ≤ a ∧ a < σ.1 3 0 2)) = 0) => ?_)
      · replace c3 : ¬ (0 ≤ a ∧ a < σ.1 3 0 2) := mo_bl0.mp c3
        refine Exists.intro (-2 : Int32) (And.intro rfl (And.intro trivial ?_))
        exact (((hQ.2 c1).1 c2).1 c3)
      · replace c3 : 0 ≤ a ∧ a < σ.1 3 0 2 := mo_blT c3
        refine Exists.intro b (And.intro rfl (And.intro trivial ?_))
        refine And.intro (fun (c4 : ¬ (mo_bl (0 ≤ b ∧ b < σ.1 3 0 2)) = 0) => ?_) (fun (c4 : (mo_bl (0 ≤ b ∧ b < σ.1 3 0 2)) = 0) => ?_)
        · replace c4 : 0 ≤ b ∧ b < σ.1 3 0 2 := mo_blT c4
          refine And.intro (fun (c5 : ¬ a = b) => ?_) (fun (c5 : a = b) => ?_)
          · refine And.intro (fun (c6 : (σ.1 6 0 5) < (200 : Int32)) => ?_) (fun (c6 : ¬ (σ.1 6 0 5) < (200 : Int32)) => ?_)
            · refine Exists.intro a (Exists.intro b (Exists.intro c (Exists.intro d (And.intro rfl (And.intro (show vp_in (σ.1 6 0 5) 200 from ((((((hQ.2 c1).1 c2).2 c3).1 c4).1 c5).1 c6).1) ?_)))))
              refine Exists.intro (σ.1 6 0 5 + 1 - 1) (And.intro rfl (And.intro trivial ?_))
              exact ((((((hQ.2 c1).1 c2).2 c3).1 c4).1 c5).1 c6).2
            · refine Exists.intro (-5 : Int32) (And.intro rfl (And.intro trivial ?_))
              exact ((((((hQ.2 c1).1 c2).2 c3).1 c4).1 c5).2 c6)
          · refine Exists.intro (-4 : Int32) (And.intro rfl (And.intro trivial ?_))
            exact (((((hQ.2 c1).1 c2).2 c3).1 c4).2 c5)
        · replace c4 : ¬ (0 ≤ b ∧ b < σ.1 3 0 2) := mo_bl0.mp c4
          refine Exists.intro (-2 : Int32) (And.intro rfl (And.intro trivial ?_))
          exact ((((hQ.2 c1).1 c2).2 c3).2 c4)
    · replace c2 : ¬ (0 ≤ d ∧ d ≤ (10000 : Int32)) := mo_bl0.mp c2
      refine Exists.intro (-1 : Int32) (And.intro rfl (And.intro trivial ?_))
      exact ((hQ.2 c1).2 c2)
def S_X12_link : mo_S := fun as σ Q => ∃ a : Int32, ∃ b : Int32, ∃ c : Int32, ∃ d : Int32, as = [.inr (.inr (50, 0)), .inl a, .inl b, .inl c, .inl d] ∧ ((¬ ((0 : Int32) ≤ c ∧ c ≤ (3 : Int32)) → Q (some (.inl (-1 : Int32))) (mo_wI σ 50 0 0 (if (-1 : Int32) < 0 then (-1 : Int32) else 0))) ∧ ((0 : Int32) ≤ c ∧ c ≤ (3 : Int32) → ((0 ≤ d ∧ d ≤ (10000 : Int32) → ((¬ (0 ≤ a ∧ a ≤ σ.1 50 0 2 - 1) → Q (some (.inl (-2 : Int32))) (mo_wI σ 50 0 0 (if (-2 : Int32) < 0 then (-2 : Int32) else 0))) ∧ (0 ≤ a ∧ a ≤ σ.1 50 0 2 - 1 → ((0 ≤ b ∧ b ≤ σ.1 50 0 2 - 1 → ((¬ a = b → ((¬ (σ.1 50 0 6) = (200 : Int32) → (vp_in (σ.1 50 0 6) 200 ∧ (vp_in (σ.1 50 0 6) 200 ∧ (vp_in (σ.1 50 0 6) 200 ∧ (vp_in (σ.1 50 0 6) 200 ∧ (vp_in (σ.1 50 0 6) 200 ∧ Q (some (.inl ((((σ.1 50 0 6) + (1 : Int32)) - (1 : Int32))))) (mo_wI (mo_wI (mo_wI (mo_wI (mo_wI (mo_wI (mo_wI σ 54 0 ((σ.1 50 0 6).toNatClampNeg) a) 55 0 ((σ.1 50 0 6).toNatClampNeg) b) 56 0 ((σ.1 50 0 6).toNatClampNeg) c) 57 0 ((σ.1 50 0 6).toNatClampNeg) d) 58 0 ((σ.1 50 0 6).toNatClampNeg) (10001 : Int32)) 50 0 6 ((σ.1 50 0 6) + (1 : Int32))) 50 0 0 (if (((σ.1 50 0 6) + (1 : Int32)) - (1 : Int32)) < 0 then (((σ.1 50 0 6) + (1 : Int32)) - (1 : Int32)) else 0)))))))) ∧ ((σ.1 50 0 6) = (200 : Int32) → Q (some (.inl (-5 : Int32))) (mo_wI σ 50 0 0 (if (-5 : Int32) < 0 then (-5 : Int32) else 0))))) ∧ (a = b → Q (some (.inl (-4 : Int32))) (mo_wI σ 50 0 0 (if (-4 : Int32) < 0 then (-4 : Int32) else 0))))) ∧ (¬ (0 ≤ b ∧ b ≤ σ.1 50 0 2 - 1) → Q (some (.inl (-2 : Int32))) (mo_wI σ 50 0 0 (if (-2 : Int32) < 0 then (-2 : Int32) else 0))))))) ∧ (¬ (0 ≤ d ∧ d ≤ (10000 : Int32)) → Q (some (.inl (-1 : Int32))) (mo_wI σ 50 0 0 (if (-1 : Int32) < 0 then (-1 : Int32) else 0))))))
theorem m_X12_link : ∀ (as : List mo_V) (σ : mo_M) (P P' : mo_Q), (∀ x τ, P x τ → P' x τ) → S_X12_link as σ P → S_X12_link as σ P' := by
  rintro as σ P P' hm ⟨a, b, c, d, e, hq⟩
  exact ⟨a, b, c, d, e, ⟨fun c1 => hm _ _ (hq.1 c1), fun c1 => ⟨fun c2 => ⟨fun c3 => hm _ _ (((hq.2 c1).1 c2).1 c3), fun c3 => ⟨fun c4 => ⟨fun c5 => ⟨fun c6 => ⟨((((((hq.2 c1).1 c2).2 c3).1 c4).1 c5).1 c6).1, ⟨((((((hq.2 c1).1 c2).2 c3).1 c4).1 c5).1 c6).2.1, ⟨((((((hq.2 c1).1 c2).2 c3).1 c4).1 c5).1 c6).2.2.1, ⟨((((((hq.2 c1).1 c2).2 c3).1 c4).1 c5).1 c6).2.2.2.1, ⟨((((((hq.2 c1).1 c2).2 c3).1 c4).1 c5).1 c6).2.2.2.2.1, hm _ _ ((((((hq.2 c1).1 c2).2 c3).1 c4).1 c5).1 c6).2.2.2.2.2⟩⟩⟩⟩⟩, fun c6 => hm _ _ ((((((hq.2 c1).1 c2).2 c3).1 c4).1 c5).2 c6)⟩, fun c5 => hm _ _ (((((hq.2 c1).1 c2).2 c3).1 c4).2 c5)⟩, fun c4 => hm _ _ ((((hq.2 c1).1 c2).2 c3).2 c4)⟩⟩, fun c2 => hm _ _ ((hq.2 c1).2 c2)⟩⟩⟩
def cs_X12_link : Nat → mo_C := fun j => match j with
  | 0 => (3, false, 109, 50, S_X12_in)
  | 1 => (1, false, 141, 50, S_X12_isDay)
  | 2 => (2, true, 122, 12, S_X12_ends)
  | 3 => (2, true, 144, 12, S_X12_isMake)
  | _ => (0, false, 0, 50, fun _ _ _ => False)
theorem cs_X12_link_ok (g : mo_E) : ∀ j, mo_cok g t_X12_link (cs_X12_link j) ∧ mo_mon (cs_X12_link j) := by
  intro j
  unfold cs_X12_link
  split
  · exact ⟨mo_cokS ct_X12_in (by decide +kernel), m_X12_in⟩
  · exact ⟨mo_cokS ct_X12_isDay (by decide +kernel), m_X12_isDay⟩
  · exact ⟨mo_cokV ct_X12_ends (by decide) ⟨_, _, rfl⟩ (by decide +kernel), m_X12_ends⟩
  · exact ⟨mo_cokV ct_X12_isMake (by decide) ⟨_, _, rfl⟩ (by decide +kernel), m_X12_isMake⟩
  · exact ⟨mo_cok0 g _, mo_mon0⟩
set_option maxRecDepth 20000 in
set_option maxHeartbeats 2000000 in
theorem ct_X12_link : mo_ct yX12_link t_X12_link S_X12_link := by
  refine mo_ct_of (by decide) rfl ?_
  rintro g as σ Q ⟨a, b, c, d, rfl, hQ⟩
  refine ⟨Nat.le_of_ble_eq_true rfl, mo_go ok_X12_link (cs_X12_link_ok g) [] 83 ?_⟩
  intro K hK
  refine Exists.intro c (Exists.intro (0 : Int32) (Exists.intro (3 : Int32) (And.intro rfl (And.intro trivial ?_))))
  refine And.intro (fun (c1 : (mo_bl ((0 : Int32) ≤ c ∧ c ≤ (3 : Int32))) = 0) => ?_) (fun (c1 : ¬ (mo_bl ((0 : Int32) ≤ c ∧ c ≤ (3 : Int32))) = 0) => ?_)
  · replace c1 : ¬ ((0 : Int32) ≤ c ∧ c ≤ (3 : Int32)) := mo_bl0.mp c1
    refine Exists.intro (-1 : Int32) (And.intro rfl (And.intro trivial ?_))
    exact (hQ.1 c1)
  · replace c1 : (0 : Int32) ≤ c ∧ c ≤ (3 : Int32) := mo_blT c1
    refine Exists.intro d (And.intro rfl (And.intro trivial ?_))
    refine And.intro (fun (c2 : ¬ (mo_bl (0 ≤ d ∧ d ≤ (10000 : Int32))) = 0) => ?_) (fun (c2 : (mo_bl (0 ≤ d ∧ d ≤ (10000 : Int32))) = 0) => ?_)
    · replace c2 : 0 ≤ d ∧ d ≤ (10000 : Int32) := mo_blT c2
      refine Exists.intro a (And.intro rfl (And.intro trivial ?_))
      refine And.intro (fun (c3 : (mo_bl (0 ≤ a ∧ a ≤ σ.1 50 0 2 - 1)) = 0) => ?_) (fun (c3 : ¬ (mo_bl (0 ≤ a ∧ a ≤ σ.1 50 0 2 - 1)) = 0) => ?_)
      · replace c3 : ¬ (0 ≤ a ∧ a ≤ σ.1 50 0 2 - 1) := mo_bl0.mp c3
        refine Exists.intro (-2 : Int32) (And.intro rfl (And.intro trivial ?_))
        exact (((hQ.2 c1).1 c2).1 c3)
      · replace c3 : 0 ≤ a ∧ a ≤ σ.1 50 0 2 - 1 := mo_blT c3
        refine Exists.intro b (And.intro rfl (And.intro trivial ?_))
        refine And.intro (fun (c4 : ¬ (mo_bl (0 ≤ b ∧ b ≤ σ.1 50 0 2 - 1)) = 0) => ?_) (fun (c4 : (mo_bl (0 ≤ b ∧ b ≤ σ.1 50 0 2 - 1)) = 0) => ?_)
        · replace c4 : 0 ≤ b ∧ b ≤ σ.1 50 0 2 - 1 := mo_blT c4
          refine And.intro (fun (c5 : ¬ a = b) => ?_) (fun (c5 : a = b) => ?_)
          · refine And.intro (fun (c6 : ¬ (σ.1 50 0 6) = (200 : Int32)) => ?_) (fun (c6 : (σ.1 50 0 6) = (200 : Int32)) => ?_)
            · refine And.intro (show vp_in (σ.1 50 0 6) 200 from ((((((hQ.2 c1).1 c2).2 c3).1 c4).1 c5).1 c6).1) ?_
              refine And.intro (show vp_in (σ.1 50 0 6) 200 from ((((((hQ.2 c1).1 c2).2 c3).1 c4).1 c5).1 c6).2.1) ?_
              refine And.intro (show vp_in (σ.1 50 0 6) 200 from ((((((hQ.2 c1).1 c2).2 c3).1 c4).1 c5).1 c6).2.2.1) ?_
              refine And.intro (show vp_in (σ.1 50 0 6) 200 from ((((((hQ.2 c1).1 c2).2 c3).1 c4).1 c5).1 c6).2.2.2.1) ?_
              refine And.intro (show vp_in (σ.1 50 0 6) 200 from ((((((hQ.2 c1).1 c2).2 c3).1 c4).1 c5).1 c6).2.2.2.2.1) ?_
              refine Exists.intro (((σ.1 50 0 6) + (1 : Int32)) - (1 : Int32)) (And.intro rfl (And.intro trivial ?_))
              exact ((((((hQ.2 c1).1 c2).2 c3).1 c4).1 c5).1 c6).2.2.2.2.2
            · refine Exists.intro (-5 : Int32) (And.intro rfl (And.intro trivial ?_))
              exact ((((((hQ.2 c1).1 c2).2 c3).1 c4).1 c5).2 c6)
          · refine Exists.intro (-4 : Int32) (And.intro rfl (And.intro trivial ?_))
            exact (((((hQ.2 c1).1 c2).2 c3).1 c4).2 c5)
        · replace c4 : ¬ (0 ≤ b ∧ b ≤ σ.1 50 0 2 - 1) := mo_bl0.mp c4
          refine Exists.intro (-2 : Int32) (And.intro rfl (And.intro trivial ?_))
          exact ((((hQ.2 c1).1 c2).2 c3).2 c4)
    · replace c2 : ¬ (0 ≤ d ∧ d ≤ (10000 : Int32)) := mo_bl0.mp c2
      refine Exists.intro (-1 : Int32) (And.intro rfl (And.intro trivial ?_))
      exact ((hQ.2 c1).2 c2)
def S_X11_cut : mo_S := fun as σ Q => ∃ a : Int32, ∃ b : Int32, as = [.inr (.inr (0, 0)), .inl a, .inl b] ∧ ((0 ≤ b ∧ b ≤ (10000 : Int32) → ((0 ≤ a ∧ a < σ.1 6 0 5 → ((vp_in a 200) ∧ ((¬ (¬ σ.1 11 0 a.toNatClampNeg = (10001 : Int32)) → (vp_in a 200 ∧ Q (some (.inl (0 : Int32))) (mo_wI (mo_wI σ 11 0 a.toNatClampNeg b) 0 0 14 0))) ∧ (¬ σ.1 11 0 a.toNatClampNeg = (10001 : Int32) → Q (some (.inl (-4 : Int32))) (mo_wI σ 0 0 14 (-4 : Int32)))))) ∧ (¬ (0 ≤ a ∧ a < σ.1 6 0 5) → Q (some (.inl (-2 : Int32))) (mo_wI σ 0 0 14 (-2 : Int32))))) ∧ (¬ (0 ≤ b ∧ b ≤ (10000 : Int32)) → Q (some (.inl (-1 : Int32))) (mo_wI σ 0 0 14 (-1 : Int32))))
theorem m_X11_cut : ∀ (as : List mo_V) (σ : mo_M) (P P' : mo_Q), (∀ x τ, P x τ → P' x τ) → S_X11_cut as σ P → S_X11_cut as σ P' := by
  rintro as σ P P' hm ⟨a, b, e, hq⟩
  exact ⟨a, b, e, ⟨fun c1 => ⟨fun c2 => ⟨((hq.1 c1).1 c2).1, ⟨fun c3 => ⟨(((hq.1 c1).1 c2).2.1 c3).1, hm _ _ (((hq.1 c1).1 c2).2.1 c3).2⟩, fun c3 => hm _ _ (((hq.1 c1).1 c2).2.2 c3)⟩⟩, fun c2 => hm _ _ ((hq.1 c1).2 c2)⟩, fun c1 => hm _ _ (hq.2 c1)⟩⟩
def cs_X11_cut : Nat → mo_C := fun j => match j with
  | 0 => (1, false, 137, 50, S_X11_isDay)
  | 1 => (2, true, 105, 11, S_X11_refuse)
  | 2 => (2, true, 147, 11, S_X11_isLink)
  | 3 => (2, true, 150, 2, S_X2_isCut)
  | 4 => (2, true, 115, 11, S_X11_accept)
  | _ => (0, false, 0, 50, fun _ _ _ => False)
theorem cs_X11_cut_ok (g : mo_E) : ∀ j, mo_cok g t_X11_cut (cs_X11_cut j) ∧ mo_mon (cs_X11_cut j) := by
  intro j
  unfold cs_X11_cut
  split
  · exact ⟨mo_cokS ct_X11_isDay (by decide +kernel), m_X11_isDay⟩
  · exact ⟨mo_cokV ct_X11_refuse (by decide) ⟨_, _, rfl⟩ (by decide +kernel), m_X11_refuse⟩
  · exact ⟨mo_cokV ct_X11_isLink (by decide) ⟨_, _, rfl⟩ (by decide +kernel), m_X11_isLink⟩
  · exact ⟨mo_cokV ct_X2_isCut (by decide) ⟨_, _, rfl⟩ (by decide +kernel), m_X2_isCut⟩
  · exact ⟨mo_cokV ct_X11_accept (by decide) ⟨_, _, rfl⟩ (by decide +kernel), m_X11_accept⟩
  · exact ⟨mo_cok0 g _, mo_mon0⟩
set_option maxRecDepth 20000 in
set_option maxHeartbeats 2000000 in
theorem ct_X11_cut : mo_ct yX11_cut t_X11_cut S_X11_cut := by
  refine mo_ct_of (by decide) rfl ?_
  rintro g as σ Q ⟨a, b, rfl, hQ⟩
  refine ⟨Nat.le_of_ble_eq_true rfl, mo_go ok_X11_cut (cs_X11_cut_ok g) [] 35 ?_⟩
  intro K hK
  refine Exists.intro b (And.intro rfl (And.intro trivial ?_))
  refine And.intro (fun (c1 : ¬ (mo_bl (0 ≤ b ∧ b ≤ (10000 : Int32))) = 0) => ?_) (fun (c1 : (mo_bl (0 ≤ b ∧ b ≤ (10000 : Int32))) = 0) => ?_)
  · replace c1 : 0 ≤ b ∧ b ≤ (10000 : Int32) := mo_blT c1
    refine Exists.intro a (And.intro rfl (And.intro trivial ?_))
    refine And.intro (fun (c2 : ¬ (mo_bl (0 ≤ a ∧ a < σ.1 6 0 5)) = 0) => ?_) (fun (c2 : (mo_bl (0 ≤ a ∧ a < σ.1 6 0 5)) = 0) => ?_)
    · replace c2 : 0 ≤ a ∧ a < σ.1 6 0 5 := mo_blT c2
      refine Exists.intro a (And.intro rfl (And.intro (show vp_in a 200 from ((hQ.1 c1).1 c2).1) ?_))
      refine And.intro (fun (c3 : (mo_bl (¬ σ.1 11 0 a.toNatClampNeg = (10001 : Int32))) = 0) => ?_) (fun (c3 : ¬ (mo_bl (¬ σ.1 11 0 a.toNatClampNeg = (10001 : Int32))) = 0) => ?_)
      · replace c3 : ¬ (¬ σ.1 11 0 a.toNatClampNeg = (10001 : Int32)) := mo_bl0.mp c3
        refine And.intro (show vp_in a 200 from (((hQ.1 c1).1 c2).2.1 c3).1) ?_
        refine Exists.intro (0 : Int32) (And.intro rfl (And.intro trivial ?_))
        exact (((hQ.1 c1).1 c2).2.1 c3).2
      · replace c3 : ¬ σ.1 11 0 a.toNatClampNeg = (10001 : Int32) := mo_blT c3
        refine Exists.intro (-4 : Int32) (And.intro rfl (And.intro trivial ?_))
        exact (((hQ.1 c1).1 c2).2.2 c3)
    · replace c2 : ¬ (0 ≤ a ∧ a < σ.1 6 0 5) := mo_bl0.mp c2
      refine Exists.intro (-2 : Int32) (And.intro rfl (And.intro trivial ?_))
      exact ((hQ.1 c1).2 c2)
  · replace c1 : ¬ (0 ≤ b ∧ b ≤ (10000 : Int32)) := mo_bl0.mp c1
    refine Exists.intro (-1 : Int32) (And.intro rfl (And.intro trivial ?_))
    exact (hQ.2 c1)
def S_X12_cut : mo_S := fun as σ Q => ∃ a : Int32, ∃ b : Int32, as = [.inr (.inr (50, 0)), .inl a, .inl b] ∧ ((0 ≤ b ∧ b ≤ (10000 : Int32) → (((0 : Int32) ≤ a ∧ a ≤ ((σ.1 50 0 6) - (1 : Int32)) → (vp_in a 200 ∧ (((10000 : Int32) < (σ.1 58 0 a.toNatClampNeg) → (vp_in a 200 ∧ Q (some (.inl (0 : Int32))) (mo_wI (mo_wI σ 58 0 a.toNatClampNeg b) 50 0 0 (if (0 : Int32) < 0 then (0 : Int32) else 0)))) ∧ (¬ (10000 : Int32) < (σ.1 58 0 a.toNatClampNeg) → Q (some (.inl (-4 : Int32))) (mo_wI σ 50 0 0 (if (-4 : Int32) < 0 then (-4 : Int32) else 0)))))) ∧ (¬ ((0 : Int32) ≤ a ∧ a ≤ ((σ.1 50 0 6) - (1 : Int32))) → Q (some (.inl (-2 : Int32))) (mo_wI σ 50 0 0 (if (-2 : Int32) < 0 then (-2 : Int32) else 0))))) ∧ (¬ (0 ≤ b ∧ b ≤ (10000 : Int32)) → Q (some (.inl (-1 : Int32))) (mo_wI σ 50 0 0 (if (-1 : Int32) < 0 then (-1 : Int32) else 0))))
theorem m_X12_cut : ∀ (as : List mo_V) (σ : mo_M) (P P' : mo_Q), (∀ x τ, P x τ → P' x τ) → S_X12_cut as σ P → S_X12_cut as σ P' := by
  rintro as σ P P' hm ⟨a, b, e, hq⟩
  exact ⟨a, b, e, ⟨fun c1 => ⟨fun c2 => ⟨((hq.1 c1).1 c2).1, ⟨fun c3 => ⟨(((hq.1 c1).1 c2).2.1 c3).1, hm _ _ (((hq.1 c1).1 c2).2.1 c3).2⟩, fun c3 => hm _ _ (((hq.1 c1).1 c2).2.2 c3)⟩⟩, fun c2 => hm _ _ ((hq.1 c1).2 c2)⟩, fun c1 => hm _ _ (hq.2 c1)⟩⟩
def cs_X12_cut : Nat → mo_C := fun j => match j with
  | 0 => (1, false, 141, 50, S_X12_isDay)
  | 1 => (2, true, 122, 12, S_X12_ends)
  | 2 => (3, false, 109, 50, S_X12_in)
  | _ => (0, false, 0, 50, fun _ _ _ => False)
theorem cs_X12_cut_ok (g : mo_E) : ∀ j, mo_cok g t_X12_cut (cs_X12_cut j) ∧ mo_mon (cs_X12_cut j) := by
  intro j
  unfold cs_X12_cut
  split
  · exact ⟨mo_cokS ct_X12_isDay (by decide +kernel), m_X12_isDay⟩
  · exact ⟨mo_cokV ct_X12_ends (by decide) ⟨_, _, rfl⟩ (by decide +kernel), m_X12_ends⟩
  · exact ⟨mo_cokS ct_X12_in (by decide +kernel), m_X12_in⟩
  · exact ⟨mo_cok0 g _, mo_mon0⟩
set_option maxRecDepth 20000 in
set_option maxHeartbeats 2000000 in
theorem ct_X12_cut : mo_ct yX12_cut t_X12_cut S_X12_cut := by
  refine mo_ct_of (by decide) rfl ?_
  rintro g as σ Q ⟨a, b, rfl, hQ⟩
  refine ⟨Nat.le_of_ble_eq_true rfl, mo_go ok_X12_cut (cs_X12_cut_ok g) [] 39 ?_⟩
  intro K hK
  refine Exists.intro b (And.intro rfl (And.intro trivial ?_))
  refine And.intro (fun (c1 : ¬ (mo_bl (0 ≤ b ∧ b ≤ (10000 : Int32))) = 0) => ?_) (fun (c1 : (mo_bl (0 ≤ b ∧ b ≤ (10000 : Int32))) = 0) => ?_)
  · replace c1 : 0 ≤ b ∧ b ≤ (10000 : Int32) := mo_blT c1
    refine Exists.intro a (Exists.intro (0 : Int32) (Exists.intro ((σ.1 50 0 6) - (1 : Int32)) (And.intro rfl (And.intro trivial ?_))))
    refine And.intro (fun (c2 : ¬ (mo_bl ((0 : Int32) ≤ a ∧ a ≤ ((σ.1 50 0 6) - (1 : Int32)))) = 0) => ?_) (fun (c2 : (mo_bl ((0 : Int32) ≤ a ∧ a ≤ ((σ.1 50 0 6) - (1 : Int32)))) = 0) => ?_)
    · replace c2 : (0 : Int32) ≤ a ∧ a ≤ ((σ.1 50 0 6) - (1 : Int32)) := mo_blT c2
      refine And.intro (show vp_in a 200 from ((hQ.1 c1).1 c2).1) ?_
      refine And.intro (fun (c3 : (10000 : Int32) < (σ.1 58 0 a.toNatClampNeg)) => ?_) (fun (c3 : ¬ (10000 : Int32) < (σ.1 58 0 a.toNatClampNeg)) => ?_)
      · refine And.intro (show vp_in a 200 from (((hQ.1 c1).1 c2).2.1 c3).1) ?_
        refine Exists.intro (0 : Int32) (And.intro rfl (And.intro trivial ?_))
        exact (((hQ.1 c1).1 c2).2.1 c3).2
      · refine Exists.intro (-4 : Int32) (And.intro rfl (And.intro trivial ?_))
        exact (((hQ.1 c1).1 c2).2.2 c3)
    · replace c2 : ¬ ((0 : Int32) ≤ a ∧ a ≤ ((σ.1 50 0 6) - (1 : Int32))) := mo_bl0.mp c2
      refine Exists.intro (-2 : Int32) (And.intro rfl (And.intro trivial ?_))
      exact ((hQ.1 c1).2 c2)
  · replace c1 : ¬ (0 ≤ b ∧ b ≤ (10000 : Int32)) := mo_bl0.mp c1
    refine Exists.intro (-1 : Int32) (And.intro rfl (And.intro trivial ?_))
    exact (hQ.2 c1)
def S_X11_counts : mo_S := fun as σ Q => ∃ a : Int32, ∃ b : Int32, as = [.inr (.inr (0, 0)), .inl a, .inl b] ∧ ((¬ (0 ≤ a ∧ a < σ.1 6 0 5) → Q (some (.inl (-1 : Int32))) (σ)) ∧ (0 ≤ a ∧ a < σ.1 6 0 5 → ((0 ≤ b ∧ b ≤ (10000 : Int32) → ((vp_in a 200) ∧ ((¬ (σ.1 10 0 a.toNatClampNeg ≤ b ∧ b < σ.1 11 0 a.toNatClampNeg) → Q (some (.inl (0 : Int32))) (σ)) ∧ (σ.1 10 0 a.toNatClampNeg ≤ b ∧ b < σ.1 11 0 a.toNatClampNeg → Q (some (.inl (1 : Int32))) (σ))))) ∧ (¬ (0 ≤ b ∧ b ≤ (10000 : Int32)) → Q (some (.inl (-1 : Int32))) (σ)))))
theorem m_X11_counts : ∀ (as : List mo_V) (σ : mo_M) (P P' : mo_Q), (∀ x τ, P x τ → P' x τ) → S_X11_counts as σ P → S_X11_counts as σ P' := by
  rintro as σ P P' hm ⟨a, b, e, hq⟩
  exact ⟨a, b, e, ⟨fun c1 => hm _ _ (hq.1 c1), fun c1 => ⟨fun c2 => ⟨((hq.2 c1).1 c2).1, ⟨fun c3 => hm _ _ (((hq.2 c1).1 c2).2.1 c3), fun c3 => hm _ _ (((hq.2 c1).1 c2).2.2 c3)⟩⟩, fun c2 => hm _ _ ((hq.2 c1).2 c2)⟩⟩⟩
def cs_X11_counts : Nat → mo_C := fun j => match j with
  | 0 => (2, true, 147, 11, S_X11_isLink)
  | 1 => (1, false, 137, 50, S_X11_isDay)
  | 2 => (3, true, 157, 2, S_X2_isLive)
  | _ => (0, false, 0, 50, fun _ _ _ => False)
theorem cs_X11_counts_ok (g : mo_E) : ∀ j, mo_cok g t_X11_counts (cs_X11_counts j) ∧ mo_mon (cs_X11_counts j) := by
  intro j
  unfold cs_X11_counts
  split
  · exact ⟨mo_cokV ct_X11_isLink (by decide) ⟨_, _, rfl⟩ (by decide +kernel), m_X11_isLink⟩
  · exact ⟨mo_cokS ct_X11_isDay (by decide +kernel), m_X11_isDay⟩
  · exact ⟨mo_cokV ct_X2_isLive (by decide) ⟨_, _, rfl⟩ (by decide +kernel), m_X2_isLive⟩
  · exact ⟨mo_cok0 g _, mo_mon0⟩
set_option maxRecDepth 20000 in
set_option maxHeartbeats 2000000 in
theorem ct_X11_counts : mo_ct yX11_counts t_X11_counts S_X11_counts := by
  refine mo_ct_of (by decide) rfl ?_
  rintro g as σ Q ⟨a, b, rfl, hQ⟩
  refine ⟨Nat.le_of_ble_eq_true rfl, mo_go ok_X11_counts (cs_X11_counts_ok g) [] 20 ?_⟩
  intro K hK
  refine Exists.intro a (And.intro rfl (And.intro trivial ?_))
  refine And.intro (fun (c1 : (mo_bl (0 ≤ a ∧ a < σ.1 6 0 5)) = 0) => ?_) (fun (c1 : ¬ (mo_bl (0 ≤ a ∧ a < σ.1 6 0 5)) = 0) => ?_)
  · replace c1 : ¬ (0 ≤ a ∧ a < σ.1 6 0 5) := mo_bl0.mp c1
    exact (hQ.1 c1)
  · replace c1 : 0 ≤ a ∧ a < σ.1 6 0 5 := mo_blT c1
    refine Exists.intro b (And.intro rfl (And.intro trivial ?_))
    refine And.intro (fun (c2 : ¬ (mo_bl (0 ≤ b ∧ b ≤ (10000 : Int32))) = 0) => ?_) (fun (c2 : (mo_bl (0 ≤ b ∧ b ≤ (10000 : Int32))) = 0) => ?_)
    · replace c2 : 0 ≤ b ∧ b ≤ (10000 : Int32) := mo_blT c2
      refine Exists.intro a (Exists.intro b (And.intro rfl (And.intro (show vp_in a 200 from ((hQ.2 c1).1 c2).1) ?_)))
      refine And.intro (fun (c3 : (mo_bl (σ.1 10 0 a.toNatClampNeg ≤ b ∧ b < σ.1 11 0 a.toNatClampNeg)) = 0) => ?_) (fun (c3 : ¬ (mo_bl (σ.1 10 0 a.toNatClampNeg ≤ b ∧ b < σ.1 11 0 a.toNatClampNeg)) = 0) => ?_)
      · replace c3 : ¬ (σ.1 10 0 a.toNatClampNeg ≤ b ∧ b < σ.1 11 0 a.toNatClampNeg) := mo_bl0.mp c3
        exact (((hQ.2 c1).1 c2).2.1 c3)
      · replace c3 : σ.1 10 0 a.toNatClampNeg ≤ b ∧ b < σ.1 11 0 a.toNatClampNeg := mo_blT c3
        exact (((hQ.2 c1).1 c2).2.2 c3)
    · replace c2 : ¬ (0 ≤ b ∧ b ≤ (10000 : Int32)) := mo_bl0.mp c2
      exact ((hQ.2 c1).2 c2)
def S_X12_counts : mo_S := fun as σ Q => ∃ a : Int32, ∃ b : Int32, as = [.inr (.inr (50, 0)), .inl a, .inl b] ∧ ((¬ ((0 : Int32) ≤ a ∧ a ≤ ((σ.1 50 0 6) - (1 : Int32))) → Q (some (.inl (-1 : Int32))) (σ)) ∧ ((0 : Int32) ≤ a ∧ a ≤ ((σ.1 50 0 6) - (1 : Int32)) → ((0 ≤ b ∧ b ≤ (10000 : Int32) → ((vp_in a 200) ∧ ((¬ (σ.1 57 0 a.toNatClampNeg ≤ b ∧ b < σ.1 58 0 a.toNatClampNeg) → Q (some (.inl (0 : Int32))) (σ)) ∧ (σ.1 57 0 a.toNatClampNeg ≤ b ∧ b < σ.1 58 0 a.toNatClampNeg → Q (some (.inl (1 : Int32))) (σ))))) ∧ (¬ (0 ≤ b ∧ b ≤ (10000 : Int32)) → Q (some (.inl (-1 : Int32))) (σ)))))
theorem m_X12_counts : ∀ (as : List mo_V) (σ : mo_M) (P P' : mo_Q), (∀ x τ, P x τ → P' x τ) → S_X12_counts as σ P → S_X12_counts as σ P' := by
  rintro as σ P P' hm ⟨a, b, e, hq⟩
  exact ⟨a, b, e, ⟨fun c1 => hm _ _ (hq.1 c1), fun c1 => ⟨fun c2 => ⟨((hq.2 c1).1 c2).1, ⟨fun c3 => hm _ _ (((hq.2 c1).1 c2).2.1 c3), fun c3 => hm _ _ (((hq.2 c1).1 c2).2.2 c3)⟩⟩, fun c2 => hm _ _ ((hq.2 c1).2 c2)⟩⟩⟩
def cs_X12_counts : Nat → mo_C := fun j => match j with
  | 0 => (3, false, 109, 50, S_X12_in)
  | 1 => (1, false, 141, 50, S_X12_isDay)
  | 2 => (3, true, 150, 12, S_X12_is)
  | _ => (0, false, 0, 50, fun _ _ _ => False)
theorem cs_X12_counts_ok (g : mo_E) : ∀ j, mo_cok g t_X12_counts (cs_X12_counts j) ∧ mo_mon (cs_X12_counts j) := by
  intro j
  unfold cs_X12_counts
  split
  · exact ⟨mo_cokS ct_X12_in (by decide +kernel), m_X12_in⟩
  · exact ⟨mo_cokS ct_X12_isDay (by decide +kernel), m_X12_isDay⟩
  · exact ⟨mo_cokV ct_X12_is (by decide) ⟨_, _, rfl⟩ (by decide +kernel), m_X12_is⟩
  · exact ⟨mo_cok0 g _, mo_mon0⟩
set_option maxRecDepth 20000 in
set_option maxHeartbeats 2000000 in
theorem ct_X12_counts : mo_ct yX12_counts t_X12_counts S_X12_counts := by
  refine mo_ct_of (by decide) rfl ?_
  rintro g as σ Q ⟨a, b, rfl, hQ⟩
  refine ⟨Nat.le_of_ble_eq_true rfl, mo_go ok_X12_counts (cs_X12_counts_ok g) [] 23 ?_⟩
  intro K hK
  refine Exists.intro a (Exists.intro (0 : Int32) (Exists.intro ((σ.1 50 0 6) - (1 : Int32)) (And.intro rfl (And.intro trivial ?_))))
  refine And.intro (fun (c1 : (mo_bl ((0 : Int32) ≤ a ∧ a ≤ ((σ.1 50 0 6) - (1 : Int32)))) = 0) => ?_) (fun (c1 : ¬ (mo_bl ((0 : Int32) ≤ a ∧ a ≤ ((σ.1 50 0 6) - (1 : Int32)))) = 0) => ?_)
  · replace c1 : ¬ ((0 : Int32) ≤ a ∧ a ≤ ((σ.1 50 0 6) - (1 : Int32))) := mo_bl0.mp c1
    exact (hQ.1 c1)
  · replace c1 : (0 : Int32) ≤ a ∧ a ≤ ((σ.1 50 0 6) - (1 : Int32)) := mo_blT c1
    refine Exists.intro b (And.intro rfl (And.intro trivial ?_))
    refine And.intro (fun (c2 : ¬ (mo_bl (0 ≤ b ∧ b ≤ (10000 : Int32))) = 0) => ?_) (fun (c2 : (mo_bl (0 ≤ b ∧ b ≤ (10000 : Int32))) = 0) => ?_)
    · replace c2 : 0 ≤ b ∧ b ≤ (10000 : Int32) := mo_blT c2
      refine Exists.intro a (Exists.intro b (And.intro rfl (And.intro (show vp_in a 200 from ((hQ.2 c1).1 c2).1) ?_)))
      refine And.intro (fun (c3 : (mo_bl (σ.1 57 0 a.toNatClampNeg ≤ b ∧ b < σ.1 58 0 a.toNatClampNeg)) = 0) => ?_) (fun (c3 : ¬ (mo_bl (σ.1 57 0 a.toNatClampNeg ≤ b ∧ b < σ.1 58 0 a.toNatClampNeg)) = 0) => ?_)
      · replace c3 : ¬ (σ.1 57 0 a.toNatClampNeg ≤ b ∧ b < σ.1 58 0 a.toNatClampNeg) := mo_bl0.mp c3
        exact (((hQ.2 c1).1 c2).2.1 c3)
      · replace c3 : σ.1 57 0 a.toNatClampNeg ≤ b ∧ b < σ.1 58 0 a.toNatClampNeg := mo_blT c3
        exact (((hQ.2 c1).1 c2).2.2 c3)
    · replace c2 : ¬ (0 ≤ b ∧ b ≤ (10000 : Int32)) := mo_bl0.mp c2
      exact ((hQ.2 c1).2 c2)
def S_X11_hold : mo_S := fun as σ Q => ∃ a : Int32, ∃ b : Int32, ∃ c : Int32, ∃ d : Int32, ∃ f : Int32, as = [.inr (.inr (0, 0)), .inl a, .inl b, .inl c, .inl d, .inl f] ∧ ((¬ (0 ≤ a ∧ a ≤ (29 : Int32)) → Q (some (.inl (-1 : Int32))) (mo_wI σ 0 0 14 (-1 : Int32))) ∧ (0 ≤ a ∧ a ≤ (29 : Int32) → ((¬ (0 ≤ c ∧ c ≤ (10000 : Int32)) → Q (some (.inl (-1 : Int32))) (mo_wI σ 0 0 14 (-1 : Int32))) ∧ (0 ≤ c ∧ c ≤ (10000 : Int32) → ((¬ (0 ≤ d ∧ d ≤ (10000 : Int32)) → Q (some (.inl (-1 : Int32))) (mo_wI σ 0 0 14 (-1 : Int32))) ∧ (0 ≤ d ∧ d ≤ (10000 : Int32) → ((¬ (0 ≤ f ∧ f ≤ (10000 : Int32)) → Q (some (.inl (-1 : Int32))) (mo_wI σ 0 0 14 (-1 : Int32))) ∧ (0 ≤ f ∧ f ≤ (10000 : Int32) → ((c ≤ d → ((0 ≤ b ∧ b < σ.1 3 0 2 → (((σ.1 12 0 5) < (100 : Int32) → ((vp_in (σ.1 12 0 5) 100) ∧ Q (some (.inl (σ.1 12 0 5 + 1))) (mo_wI (mo_wI (mo_wI (mo_wI (mo_wI (mo_wI (mo_wI σ 13 0 ((σ.1 12 0 5).toNatClampNeg) a) 14 0 ((σ.1 12 0 5).toNatClampNeg) b) 15 0 ((σ.1 12 0 5).toNatClampNeg) c) 16 0 ((σ.1 12 0 5).toNatClampNeg) d) 17 0 ((σ.1 12 0 5).toNatClampNeg) f) 12 0 5 (σ.1 12 0 5 + 1)) 0 0 14 0))) ∧ (¬ (σ.1 12 0 5) < (100 : Int32) → Q (some (.inl (-5 : Int32))) (mo_wI σ 0 0 14 (-5 : Int32))))) ∧ (¬ (0 ≤ b ∧ b < σ.1 3 0 2) → Q (some (.inl (-2 : Int32))) (mo_wI σ 0 0 14 (-2 : Int32))))) ∧ (¬ c ≤ d → Q (some (.inl (-1 : Int32))) (mo_wI σ 0 0 14 (-1 : Int32))))))))))))
theorem m_X11_hold : ∀ (as : List mo_V) (σ : mo_M) (P P' : mo_Q), (∀ x τ, P x τ → P' x τ) → S_X11_hold as σ P → S_X11_hold as σ P' := by
  rintro as σ P P' hm ⟨a, b, c, d, f, e, hq⟩
  exact ⟨a, b, c, d, f, e, ⟨fun c1 => hm _ _ (hq.1 c1), fun c1 => ⟨fun c2 => hm _ _ ((hq.2 c1).1 c2), fun c2 => ⟨fun c3 => hm _ _ (((hq.2 c1).2 c2).1 c3), fun c3 => ⟨fun c4 => hm _ _ ((((hq.2 c1).2 c2).2 c3).1 c4), fun c4 => ⟨fun c5 => ⟨fun c6 => ⟨fun c7 => ⟨(((((((hq.2 c1).2 c2).2 c3).2 c4).1 c5).1 c6).1 c7).1, hm _ _ (((((((hq.2 c1).2 c2).2 c3).2 c4).1 c5).1 c6).1 c7).2⟩, fun c7 => hm _ _ (((((((hq.2 c1).2 c2).2 c3).2 c4).1 c5).1 c6).2 c7)⟩, fun c6 => hm _ _ ((((((hq.2 c1).2 c2).2 c3).2 c4).1 c5).2 c6)⟩, fun c5 => hm _ _ (((((hq.2 c1).2 c2).2 c3).2 c4).2 c5)⟩⟩⟩⟩⟩⟩
def cs_X11_hold : Nat → mo_C := fun j => match j with
  | 0 => (2, false, 101, 50, S_X11_isWithin)
  | 1 => (1, false, 137, 50, S_X11_isDay)
  | 2 => (2, true, 105, 11, S_X11_refuse)
  | 3 => (2, true, 140, 11, S_X11_isMake)
  | 4 => (6, true, 161, 1, S_X1_add)
  | 5 => (2, true, 115, 11, S_X11_accept)
  | _ => (0, false, 0, 50, fun _ _ _ => False)
theorem cs_X11_hold_ok (g : mo_E) : ∀ j, mo_cok g t_X11_hold (cs_X11_hold j) ∧ mo_mon (cs_X11_hold j) := by
  intro j
  unfold cs_X11_hold
  split
  · exact ⟨mo_cokS ct_X11_isWithin (by decide +kernel), m_X11_isWithin⟩
  · exact ⟨mo_cokS ct_X11_isDay (by decide +kernel), m_X11_isDay⟩
  · exact ⟨mo_cokV ct_X11_refuse (by decide) ⟨_, _, rfl⟩ (by decide +kernel), m_X11_refuse⟩
  · exact ⟨mo_cokV ct_X11_isMake (by decide) ⟨_, _, rfl⟩ (by decide +kernel), m_X11_isMake⟩
  · exact ⟨mo_cokV ct_X1_add (by decide) ⟨_, _, rfl⟩ (by decide +kernel), m_X1_add⟩
  · exact ⟨mo_cokV ct_X11_accept (by decide) ⟨_, _, rfl⟩ (by decide +kernel), m_X11_accept⟩
  · exact ⟨mo_cok0 g _, mo_mon0⟩
set_option maxRecDepth 20000 in
set_option maxHeartbeats 2000000 in
theorem ct_X11_hold : mo_ct yX11_hold t_X11_hold S_X11_hold := by
  refine mo_ct_of (by decide) rfl ?_
  rintro g as σ Q ⟨a, b, c, d, f, rfl, hQ⟩
  refine ⟨Nat.le_of_ble_eq_true rfl, mo_go ok_X11_hold (cs_X11_hold_ok g) [] 49 ?_⟩
  intro K hK
  refine Exists.intro a (Exists.intro (29 : Int32) (And.intro rfl (And.intro trivial ?_)))
  refine And.intro (fun (c1 : (mo_bl (0 ≤ a ∧ a ≤ (29 : Int32))) = 0) => ?_) (fun (c1 : ¬ (mo_bl (0 ≤ a ∧ a ≤ (29 : Int32))) = 0) => ?_)
  · replace c1 : ¬ (0 ≤ a ∧ a ≤ (29 : Int32)) := mo_bl0.mp c1
    refine Exists.intro (-1 : Int32) (And.intro rfl (And.intro trivial ?_))
    exact (hQ.1 c1)
  · replace c1 : 0 ≤ a ∧ a ≤ (29 : Int32) := mo_blT c1
    refine Exists.intro c (And.intro rfl (And.intro trivial ?_))
    refine And.intro (fun (c2 : (mo_bl (0 ≤ c ∧ c ≤ (10000 : Int32))) = 0) => ?_) (fun (c2 : ¬ (mo_bl (0 ≤ c ∧ c ≤ (10000 : Int32))) = 0) => ?_)
    · replace c2 : ¬ (0 ≤ c ∧ c ≤ (10000 : Int32)) := mo_bl0.mp c2
      refine Exists.intro (-1 : Int32) (And.intro rfl (And.intro trivial ?_))
      exact ((hQ.2 c1).1 c2)
    · replace c2 : 0 ≤ c ∧ c ≤ (10000 : Int32) := mo_blT c2
      refine Exists.intro d (And.intro rfl (And.intro trivial ?_))
      refine And.intro (fun (c3 : (mo_bl (0 ≤ d ∧ d ≤ (10000 : Int32))) = 0) => ?_) (fun (c3 : ¬ (mo_bl (0 ≤ d ∧ d ≤ (10000 : Int32))) = 0) => ?_)
      · replace c3 : ¬ (0 ≤ d ∧ d ≤ (10000 : Int32)) := mo_bl0.mp c3
        refine Exists.intro (-1 : Int32) (And.intro rfl (And.intro trivial ?_))
        exact (((hQ.2 c1).2 c2).1 c3)
      · replace c3 : 0 ≤ d ∧ d ≤ (10000 : Int32) := mo_blT c3
        refine Exists.intro f (And.intro rfl (And.intro trivial ?_))
        refine And.intro (fun (c4 : (mo_bl (0 ≤ f ∧ f ≤ (10000 : Int32))) = 0) => ?_) (fun (c4 : ¬ (mo_bl (0 ≤ f ∧ f ≤ (10000 : Int32))) = 0) => ?_)
        · replace c4 : ¬ (0 ≤ f ∧ f ≤ (10000 : Int32)) := mo_bl0.mp c4
          refine Exists.intro (-1 : Int32) (And.intro rfl (And.intro trivial ?_))
          exact ((((hQ.2 c1).2 c2).2 c3).1 c4)
        · replace c4 : 0 ≤ f ∧ f ≤ (10000 : Int32) := mo_blT c4
          refine And.intro (fun (c5 : c ≤ d) => ?_) (fun (c5 : ¬ c ≤ d) => ?_)
          · refine Exists.intro b (And.intro rfl (And.intro trivial ?_))
            refine And.intro (fun (c6 : ¬ (mo_bl (0 ≤ b ∧ b < σ.1 3 0 2)) = 0) => ?_) (fun (c6 : (mo_bl (0 ≤ b ∧ b < σ.1 3 0 2)) = 0) => ?_)
            · replace c6 : 0 ≤ b ∧ b < σ.1 3 0 2 := mo_blT c6
              refine And.intro (fun (c7 : (σ.1 12 0 5) < (100 : Int32)) => ?_) (fun (c7 : ¬ (σ.1 12 0 5) < (100 : Int32)) => ?_)
              · refine Exists.intro a (Exists.intro b (Exists.intro c (Exists.intro d (Exists.intro f (And.intro rfl (And.intro (show vp_in (σ.1 12 0 5) 100 from (((((((hQ.2 c1).2 c2).2 c3).2 c4).1 c5).1 c6).1 c7).1) ?_))))))
                refine Exists.intro (σ.1 12 0 5 + 1) (And.intro rfl (And.intro trivial ?_))
                exact (((((((hQ.2 c1).2 c2).2 c3).2 c4).1 c5).1 c6).1 c7).2
              · refine Exists.intro (-5 : Int32) (And.intro rfl (And.intro trivial ?_))
                exact (((((((hQ.2 c1).2 c2).2 c3).2 c4).1 c5).1 c6).2 c7)
            · replace c6 : ¬ (0 ≤ b ∧ b < σ.1 3 0 2) := mo_bl0.mp c6
              refine Exists.intro (-2 : Int32) (And.intro rfl (And.intro trivial ?_))
              exact ((((((hQ.2 c1).2 c2).2 c3).2 c4).1 c5).2 c6)
          · refine Exists.intro (-1 : Int32) (And.intro rfl (And.intro trivial ?_))
            exact (((((hQ.2 c1).2 c2).2 c3).2 c4).2 c5)
def S_X12_hold : mo_S := fun as σ Q => ∃ a : Int32, ∃ b : Int32, ∃ c : Int32, ∃ d : Int32, ∃ f : Int32, as = [.inr (.inr (50, 0)), .inl a, .inl b, .inl c, .inl d, .inl f] ∧ ((¬ ((0 : Int32) ≤ a ∧ a ≤ (29 : Int32)) → Q (some (.inl (-1 : Int32))) (mo_wI σ 50 0 0 (if (-1 : Int32) < 0 then (-1 : Int32) else 0))) ∧ ((0 : Int32) ≤ a ∧ a ≤ (29 : Int32) → ((¬ (0 ≤ c ∧ c ≤ (10000 : Int32)) → Q (some (.inl (-1 : Int32))) (mo_wI σ 50 0 0 (if (-1 : Int32) < 0 then (-1 : Int32) else 0))) ∧ (0 ≤ c ∧ c ≤ (10000 : Int32) → ((¬ (c ≤ d ∧ d ≤ (10000 : Int32)) → Q (some (.inl (-1 : Int32))) (mo_wI σ 50 0 0 (if (-1 : Int32) < 0 then (-1 : Int32) else 0))) ∧ (c ≤ d ∧ d ≤ (10000 : Int32) → ((0 ≤ f ∧ f ≤ (10000 : Int32) → ((0 ≤ b ∧ b ≤ σ.1 50 0 2 - 1 → ((¬ (σ.1 50 0 12) = (100 : Int32) → (vp_in (σ.1 50 0 12) 100 ∧ (vp_in (σ.1 50 0 12) 100 ∧ (vp_in (σ.1 50 0 12) 100 ∧ (vp_in (σ.1 50 0 12) 100 ∧ (vp_in (σ.1 50 0 12) 100 ∧ Q (some (.inl (((σ.1 50 0 12) + (1 : Int32))))) (mo_wI (mo_wI (mo_wI (mo_wI (mo_wI (mo_wI (mo_wI σ 59 0 ((σ.1 50 0 12).toNatClampNeg) a) 60 0 ((σ.1 50 0 12).toNatClampNeg) b) 61 0 ((σ.1 50 0 12).toNatClampNeg) c) 62 0 ((σ.1 50 0 12).toNatClampNeg) d) 63 0 ((σ.1 50 0 12).toNatClampNeg) f) 50 0 12 ((σ.1 50 0 12) + (1 : Int32))) 50 0 0 (if ((σ.1 50 0 12) + (1 : Int32)) < 0 then ((σ.1 50 0 12) + (1 : Int32)) else 0)))))))) ∧ ((σ.1 50 0 12) = (100 : Int32) → Q (some (.inl (-5 : Int32))) (mo_wI σ 50 0 0 (if (-5 : Int32) < 0 then (-5 : Int32) else 0))))) ∧ (¬ (0 ≤ b ∧ b ≤ σ.1 50 0 2 - 1) → Q (some (.inl (-2 : Int32))) (mo_wI σ 50 0 0 (if (-2 : Int32) < 0 then (-2 : Int32) else 0))))) ∧ (¬ (0 ≤ f ∧ f ≤ (10000 : Int32)) → Q (some (.inl (-1 : Int32))) (mo_wI σ 50 0 0 (if (-1 : Int32) < 0 then (-1 : Int32) else 0))))))))))
theorem m_X12_hold : ∀ (as : List mo_V) (σ : mo_M) (P P' : mo_Q), (∀ x τ, P x τ → P' x τ) → S_X12_hold as σ P → S_X12_hold as σ P' := by
  rintro as σ P P' hm ⟨a, b, c, d, f, e, hq⟩
  exact ⟨a, b, c, d, f, e, ⟨fun c1 => hm _ _ (hq.1 c1), fun c1 => ⟨fun c2 => hm _ _ ((hq.2 c1).1 c2), fun c2 => ⟨fun c3 => hm _ _ (((hq.2 c1).2 c2).1 c3), fun c3 => ⟨fun c4 => ⟨fun c5 => ⟨fun c6 => ⟨((((((hq.2 c1).2 c2).2 c3).1 c4).1 c5).1 c6).1, ⟨((((((hq.2 c1).2 c2).2 c3).1 c4).1 c5).1 c6).2.1, ⟨((((((hq.2 c1).2 c2).2 c3).1 c4).1 c5).1 c6).2.2.1, ⟨((((((hq.2 c1).2 c2).2 c3).1 c4).1 c5).1 c6).2.2.2.1, ⟨((((((hq.2 c1).2 c2).2 c3).1 c4).1 c5).1 c6).2.2.2.2.1, hm _ _ ((((((hq.2 c1).2 c2).2 c3).1 c4).1 c5).1 c6).2.2.2.2.2⟩⟩⟩⟩⟩, fun c6 => hm _ _ ((((((hq.2 c1).2 c2).2 c3).1 c4).1 c5).2 c6)⟩, fun c5 => hm _ _ (((((hq.2 c1).2 c2).2 c3).1 c4).2 c5)⟩, fun c4 => hm _ _ ((((hq.2 c1).2 c2).2 c3).2 c4)⟩⟩⟩⟩⟩
def cs_X12_hold : Nat → mo_C := fun j => match j with
  | 0 => (3, false, 109, 50, S_X12_in)
  | 1 => (1, false, 141, 50, S_X12_isDay)
  | 2 => (2, true, 122, 12, S_X12_ends)
  | 3 => (2, true, 144, 12, S_X12_isMake)
  | _ => (0, false, 0, 50, fun _ _ _ => False)
theorem cs_X12_hold_ok (g : mo_E) : ∀ j, mo_cok g t_X12_hold (cs_X12_hold j) ∧ mo_mon (cs_X12_hold j) := by
  intro j
  unfold cs_X12_hold
  split
  · exact ⟨mo_cokS ct_X12_in (by decide +kernel), m_X12_in⟩
  · exact ⟨mo_cokS ct_X12_isDay (by decide +kernel), m_X12_isDay⟩
  · exact ⟨mo_cokV ct_X12_ends (by decide) ⟨_, _, rfl⟩ (by decide +kernel), m_X12_ends⟩
  · exact ⟨mo_cokV ct_X12_isMake (by decide) ⟨_, _, rfl⟩ (by decide +kernel), m_X12_isMake⟩
  · exact ⟨mo_cok0 g _, mo_mon0⟩
set_option maxRecDepth 20000 in
set_option maxHeartbeats 2000000 in
theorem ct_X12_hold : mo_ct yX12_hold t_X12_hold S_X12_hold := by
  refine mo_ct_of (by decide) rfl ?_
  rintro g as σ Q ⟨a, b, c, d, f, rfl, hQ⟩
  refine ⟨Nat.le_of_ble_eq_true rfl, mo_go ok_X12_hold (cs_X12_hold_ok g) [] 78 ?_⟩
  intro K hK
  refine Exists.intro a (Exists.intro (0 : Int32) (Exists.intro (29 : Int32) (And.intro rfl (And.intro trivial ?_))))
  refine And.intro (fun (c1 : (mo_bl ((0 : Int32) ≤ a ∧ a ≤ (29 : Int32))) = 0) => ?_) (fun (c1 : ¬ (mo_bl ((0 : Int32) ≤ a ∧ a ≤ (29 : Int32))) = 0) => ?_)
  · replace c1 : ¬ ((0 : Int32) ≤ a ∧ a ≤ (29 : Int32)) := mo_bl0.mp c1
    refine Exists.intro (-1 : Int32) (And.intro rfl (And.intro trivial ?_))
    exact (hQ.1 c1)
  · replace c1 : (0 : Int32) ≤ a ∧ a ≤ (29 : Int32) := mo_blT c1
    refine Exists.intro c (And.intro rfl (And.intro trivial ?_))
    refine And.intro (fun (c2 : (mo_bl (0 ≤ c ∧ c ≤ (10000 : Int32))) = 0) => ?_) (fun (c2 : ¬ (mo_bl (0 ≤ c ∧ c ≤ (10000 : Int32))) = 0) => ?_)
    · replace c2 : ¬ (0 ≤ c ∧ c ≤ (10000 : Int32)) := mo_bl0.mp c2
      refine Exists.intro (-1 : Int32) (And.intro rfl (And.intro trivial ?_))
      exact ((hQ.2 c1).1 c2)
    · replace c2 : 0 ≤ c ∧ c ≤ (10000 : Int32) := mo_blT c2
      refine Exists.intro d (Exists.intro c (Exists.intro (10000 : Int32) (And.intro rfl (And.intro trivial ?_))))
      refine And.intro (fun (c3 : (mo_bl (c ≤ d ∧ d ≤ (10000 : Int32))) = 0) => ?_) (fun (c3 : ¬ (mo_bl (c ≤ d ∧ d ≤ (10000 : Int32))) = 0) => ?_)
      · replace c3 : ¬ (c ≤ d ∧ d ≤ (10000 : Int32)) := mo_bl0.mp c3
        refine Exists.intro (-1 : Int32) (And.intro rfl (And.intro trivial ?_))
        exact (((hQ.2 c1).2 c2).1 c3)
      · replace c3 : c ≤ d ∧ d ≤ (10000 : Int32) := mo_blT c3
        refine Exists.intro f (And.intro rfl (And.intro trivial ?_))
        refine And.intro (fun (c4 : ¬ (mo_bl (0 ≤ f ∧ f ≤ (10000 : Int32))) = 0) => ?_) (fun (c4 : (mo_bl (0 ≤ f ∧ f ≤ (10000 : Int32))) = 0) => ?_)
        · replace c4 : 0 ≤ f ∧ f ≤ (10000 : Int32) := mo_blT c4
          refine Exists.intro b (And.intro rfl (And.intro trivial ?_))
          refine And.intro (fun (c5 : ¬ (mo_bl (0 ≤ b ∧ b ≤ σ.1 50 0 2 - 1)) = 0) => ?_) (fun (c5 : (mo_bl (0 ≤ b ∧ b ≤ σ.1 50 0 2 - 1)) = 0) => ?_)
          · replace c5 : 0 ≤ b ∧ b ≤ σ.1 50 0 2 - 1 := mo_blT c5
            refine And.intro (fun (c6 : ¬ (σ.1 50 0 12) = (100 : Int32)) => ?_) (fun (c6 : (σ.1 50 0 12) = (100 : Int32)) => ?_)
            · refine And.intro (show vp_in (σ.1 50 0 12) 100 from ((((((hQ.2 c1).2 c2).2 c3).1 c4).1 c5).1 c6).1) ?_
              refine And.intro (show vp_in (σ.1 50 0 12) 100 from ((((((hQ.2 c1).2 c2).2 c3).1 c4).1 c5).1 c6).2.1) ?_
              refine And.intro (show vp_in (σ.1 50 0 12) 100 from ((((((hQ.2 c1).2 c2).2 c3).1 c4).1 c5).1 c6).2.2.1) ?_
              refine And.intro (show vp_in (σ.1 50 0 12) 100 from ((((((hQ.2 c1).2 c2).2 c3).1 c4).1 c5).1 c6).2.2.2.1) ?_
              refine And.intro (show vp_in (σ.1 50 0 12) 100 from ((((((hQ.2 c1).2 c2).2 c3).1 c4).1 c5).1 c6).2.2.2.2.1) ?_
              refine Exists.intro ((σ.1 50 0 12) + (1 : Int32)) (And.intro rfl (And.intro trivial ?_))
              exact ((((((hQ.2 c1).2 c2).2 c3).1 c4).1 c5).1 c6).2.2.2.2.2
            · refine Exists.intro (-5 : Int32) (And.intro rfl (And.intro trivial ?_))
              exact ((((((hQ.2 c1).2 c2).2 c3).1 c4).1 c5).2 c6)
          · replace c5 : ¬ (0 ≤ b ∧ b ≤ σ.1 50 0 2 - 1) := mo_bl0.mp c5
            refine Exists.intro (-2 : Int32) (And.intro rfl (And.intro trivial ?_))
            exact (((((hQ.2 c1).2 c2).2 c3).1 c4).2 c5)
        · replace c4 : ¬ (0 ≤ f ∧ f ≤ (10000 : Int32)) := mo_bl0.mp c4
          refine Exists.intro (-1 : Int32) (And.intro rfl (And.intro trivial ?_))
          exact ((((hQ.2 c1).2 c2).2 c3).2 c4)
def S_X11_undo : mo_S := fun as σ Q => ∃ a : Int32, as = [.inr (.inr (0, 0)), .inl a] ∧ ((a < 0 → Q (some (.inl (-2 : Int32))) (mo_wI σ 0 0 14 (-2 : Int32))) ∧ (¬ a < 0 → ((a < (σ.1 18 0 4) → (vp_in a 40 ∧ (((σ.1 21 0 a.toNatClampNeg) = 0 → (vp_in a 40 ∧ Q (some (.inl (0 : Int32))) (mo_wI (mo_wI σ 21 0 a.toNatClampNeg (vp_nar .boolean (1 : Int32))) 0 0 14 0))) ∧ (¬ (σ.1 21 0 a.toNatClampNeg) = 0 → Q (some (.inl (-4 : Int32))) (mo_wI σ 0 0 14 (-4 : Int32)))))) ∧ (¬ a < (σ.1 18 0 4) → Q (some (.inl (-2 : Int32))) (mo_wI σ 0 0 14 (-2 : Int32))))))
theorem m_X11_undo : ∀ (as : List mo_V) (σ : mo_M) (P P' : mo_Q), (∀ x τ, P x τ → P' x τ) → S_X11_undo as σ P → S_X11_undo as σ P' := by
  rintro as σ P P' hm ⟨a, e, hq⟩
  exact ⟨a, e, ⟨fun c1 => hm _ _ (hq.1 c1), fun c1 => ⟨fun c2 => ⟨((hq.2 c1).1 c2).1, ⟨fun c3 => ⟨(((hq.2 c1).1 c2).2.1 c3).1, hm _ _ (((hq.2 c1).1 c2).2.1 c3).2⟩, fun c3 => hm _ _ (((hq.2 c1).1 c2).2.2 c3)⟩⟩, fun c2 => hm _ _ ((hq.2 c1).2 c2)⟩⟩⟩
def cs_X11_undo : Nat → mo_C := fun j => match j with
  | 0 => (2, true, 105, 11, S_X11_refuse)
  | 1 => (2, true, 115, 11, S_X11_accept)
  | _ => (0, false, 0, 50, fun _ _ _ => False)
theorem cs_X11_undo_ok (g : mo_E) : ∀ j, mo_cok g t_X11_undo (cs_X11_undo j) ∧ mo_mon (cs_X11_undo j) := by
  intro j
  unfold cs_X11_undo
  split
  · exact ⟨mo_cokV ct_X11_refuse (by decide) ⟨_, _, rfl⟩ (by decide +kernel), m_X11_refuse⟩
  · exact ⟨mo_cokV ct_X11_accept (by decide) ⟨_, _, rfl⟩ (by decide +kernel), m_X11_accept⟩
  · exact ⟨mo_cok0 g _, mo_mon0⟩
set_option maxRecDepth 20000 in
set_option maxHeartbeats 2000000 in
theorem ct_X11_undo : mo_ct yX11_undo t_X11_undo S_X11_undo := by
  refine mo_ct_of (by decide) rfl ?_
  rintro g as σ Q ⟨a, rfl, hQ⟩
  refine ⟨Nat.le_of_ble_eq_true rfl, mo_go ok_X11_undo (cs_X11_undo_ok g) [] 32 ?_⟩
  intro K hK
  refine And.intro (fun (c1 : a < 0) => ?_) (fun (c1 : ¬ a < 0) => ?_)
  · refine Exists.intro (-2 : Int32) (And.intro rfl (And.intro trivial ?_))
    exact (hQ.1 c1)
  · refine And.intro (fun (c2 : a < (σ.1 18 0 4)) => ?_) (fun (c2 : ¬ a < (σ.1 18 0 4)) => ?_)
    · refine And.intro (show vp_in a 40 from ((hQ.2 c1).1 c2).1) ?_
      refine And.intro (fun (c3 : (σ.1 21 0 a.toNatClampNeg) = 0) => ?_) (fun (c3 : ¬ (σ.1 21 0 a.toNatClampNeg) = 0) => ?_)
      · refine And.intro (show vp_in a 40 from (((hQ.2 c1).1 c2).2.1 c3).1) ?_
        refine Exists.intro (0 : Int32) (And.intro rfl (And.intro trivial ?_))
        exact (((hQ.2 c1).1 c2).2.1 c3).2
      · refine Exists.intro (-4 : Int32) (And.intro rfl (And.intro trivial ?_))
        exact (((hQ.2 c1).1 c2).2.2 c3)
    · refine Exists.intro (-2 : Int32) (And.intro rfl (And.intro trivial ?_))
      exact ((hQ.2 c1).2 c2)
def S_X12_undo : mo_S := fun as σ Q => ∃ a : Int32, as = [.inr (.inr (50, 0)), .inl a] ∧ (((0 : Int32) ≤ a ∧ a ≤ ((σ.1 50 0 18) - (1 : Int32)) → (vp_in a 40 ∧ (((σ.1 67 0 a.toNatClampNeg) = 0 → (vp_in a 40 ∧ Q (some (.inl (0 : Int32))) (mo_wI (mo_wI σ 67 0 a.toNatClampNeg (vp_nar .boolean (1 : Int32))) 50 0 0 (if (0 : Int32) < 0 then (0 : Int32) else 0)))) ∧ (¬ (σ.1 67 0 a.toNatClampNeg) = 0 → Q (some (.inl (-4 : Int32))) (mo_wI σ 50 0 0 (if (-4 : Int32) < 0 then (-4 : Int32) else 0)))))) ∧ (¬ ((0 : Int32) ≤ a ∧ a ≤ ((σ.1 50 0 18) - (1 : Int32))) → Q (some (.inl (-2 : Int32))) (mo_wI σ 50 0 0 (if (-2 : Int32) < 0 then (-2 : Int32) else 0))))
theorem m_X12_undo : ∀ (as : List mo_V) (σ : mo_M) (P P' : mo_Q), (∀ x τ, P x τ → P' x τ) → S_X12_undo as σ P → S_X12_undo as σ P' := by
  rintro as σ P P' hm ⟨a, e, hq⟩
  exact ⟨a, e, ⟨fun c1 => ⟨(hq.1 c1).1, ⟨fun c2 => ⟨((hq.1 c1).2.1 c2).1, hm _ _ ((hq.1 c1).2.1 c2).2⟩, fun c2 => hm _ _ ((hq.1 c1).2.2 c2)⟩⟩, fun c1 => hm _ _ (hq.2 c1)⟩⟩
def cs_X12_undo : Nat → mo_C := fun j => match j with
  | 0 => (3, false, 109, 50, S_X12_in)
  | 1 => (2, true, 122, 12, S_X12_ends)
  | _ => (0, false, 0, 50, fun _ _ _ => False)
theorem cs_X12_undo_ok (g : mo_E) : ∀ j, mo_cok g t_X12_undo (cs_X12_undo j) ∧ mo_mon (cs_X12_undo j) := by
  intro j
  unfold cs_X12_undo
  split
  · exact ⟨mo_cokS ct_X12_in (by decide +kernel), m_X12_in⟩
  · exact ⟨mo_cokV ct_X12_ends (by decide) ⟨_, _, rfl⟩ (by decide +kernel), m_X12_ends⟩
  · exact ⟨mo_cok0 g _, mo_mon0⟩
set_option maxRecDepth 20000 in
set_option maxHeartbeats 2000000 in
theorem ct_X12_undo : mo_ct yX12_undo t_X12_undo S_X12_undo := by
  refine mo_ct_of (by decide) rfl ?_
  rintro g as σ Q ⟨a, rfl, hQ⟩
  refine ⟨Nat.le_of_ble_eq_true rfl, mo_go ok_X12_undo (cs_X12_undo_ok g) [] 31 ?_⟩
  intro K hK
  refine Exists.intro a (Exists.intro (0 : Int32) (Exists.intro ((σ.1 50 0 18) - (1 : Int32)) (And.intro rfl (And.intro trivial ?_))))
  refine And.intro (fun (c1 : ¬ (mo_bl ((0 : Int32) ≤ a ∧ a ≤ ((σ.1 50 0 18) - (1 : Int32)))) = 0) => ?_) (fun (c1 : (mo_bl ((0 : Int32) ≤ a ∧ a ≤ ((σ.1 50 0 18) - (1 : Int32)))) = 0) => ?_)
  · replace c1 : (0 : Int32) ≤ a ∧ a ≤ ((σ.1 50 0 18) - (1 : Int32)) := mo_blT c1
    refine And.intro (show vp_in a 40 from (hQ.1 c1).1) ?_
    refine And.intro (fun (c2 : (σ.1 67 0 a.toNatClampNeg) = 0) => ?_) (fun (c2 : ¬ (σ.1 67 0 a.toNatClampNeg) = 0) => ?_)
    · refine And.intro (show vp_in a 40 from ((hQ.1 c1).2.1 c2).1) ?_
      refine Exists.intro (0 : Int32) (And.intro rfl (And.intro trivial ?_))
      exact ((hQ.1 c1).2.1 c2).2
    · refine Exists.intro (-4 : Int32) (And.intro rfl (And.intro trivial ?_))
      exact ((hQ.1 c1).2.2 c2)
  · replace c1 : ¬ ((0 : Int32) ≤ a ∧ a ≤ ((σ.1 50 0 18) - (1 : Int32))) := mo_bl0.mp c1
    refine Exists.intro (-2 : Int32) (And.intro rfl (And.intro trivial ?_))
    exact (hQ.2 c1)
