def S_X11_whyNoPair18 : mo_S := fun as σ Q => ∃ a : Int32, ∃ b : Int32, ∃ c : Int32, as = [.inr (.inr (0, 0)), .inl a, .inl b, .inl c, .inr (.inr (18, 0))] ∧ ((0 ≤ c ∧ c ≤ (10000 : Int32) → ((¬ (0 ≤ a ∧ a < σ.1 1 0 1) → Q (some (.inl (-2 : Int32))) (σ)) ∧ (0 ≤ a ∧ a < σ.1 1 0 1 → ((0 ≤ b ∧ b < σ.1 1 0 1 → ((¬ a = b → (((σ.1 18 0 4) < (40 : Int32) → Q (some (.inl (0 : Int32))) (σ)) ∧ (¬ (σ.1 18 0 4) < (40 : Int32) → Q (some (.inl (-5 : Int32))) (σ)))) ∧ (a = b → Q (some (.inl (-4 : Int32))) (σ)))) ∧ (¬ (0 ≤ b ∧ b < σ.1 1 0 1) → Q (some (.inl (-2 : Int32))) (σ)))))) ∧ (¬ (0 ≤ c ∧ c ≤ (10000 : Int32)) → Q (some (.inl (-1 : Int32))) (σ)))
theorem m_X11_whyNoPair18 : ∀ (as : List mo_V) (σ : mo_M) (P P' : mo_Q), (∀ x τ, P x τ → P' x τ) → S_X11_whyNoPair18 as σ P → S_X11_whyNoPair18 as σ P' := by
  rintro as σ P P' hm ⟨a, b, c, e, hq⟩
  exact ⟨a, b, c, e, ⟨fun c1 => ⟨fun c2 => hm _ _ ((hq.1 c1).1 c2), fun c2 => ⟨fun c3 => ⟨fun c4 => ⟨fun c5 => hm _ _ (((((hq.1 c1).2 c2).1 c3).1 c4).1 c5), fun c5 => hm _ _ (((((hq.1 c1).2 c2).1 c3).1 c4).2 c5)⟩, fun c4 => hm _ _ ((((hq.1 c1).2 c2).1 c3).2 c4)⟩, fun c3 => hm _ _ (((hq.1 c1).2 c2).2 c3)⟩⟩, fun c1 => hm _ _ (hq.2 c1)⟩⟩
def cs_X11_whyNoPair18 : Nat → mo_C := fun j => match j with
  | 0 => (1, false, 137, 50, S_X11_isDay)
  | 1 => (2, true, 122, 11, S_X11_isPart)
  | _ => (0, false, 0, 50, fun _ _ _ => False)
theorem cs_X11_whyNoPair18_ok (g : mo_E) : ∀ j, mo_cok g t_X11_whyNoPair (cs_X11_whyNoPair18 j) ∧ mo_mon (cs_X11_whyNoPair18 j) := by
  intro j
  unfold cs_X11_whyNoPair18
  split
  · exact ⟨mo_cokS ct_X11_isDay (by decide +kernel), m_X11_isDay⟩
  · exact ⟨mo_cokV ct_X11_isPart (by decide) ⟨_, _, rfl⟩ (by decide +kernel), m_X11_isPart⟩
  · exact ⟨mo_cok0 g _, mo_mon0⟩
set_option maxRecDepth 20000 in
set_option maxHeartbeats 2000000 in
theorem ct_X11_whyNoPair18 : mo_ct yX11_whyNoPair t_X11_whyNoPair S_X11_whyNoPair18 := by
  refine mo_ct_of (by decide) rfl ?_
  rintro g as σ Q ⟨a, b, c, rfl, hQ⟩
  refine ⟨Nat.le_of_ble_eq_true rfl, mo_go ok_X11_whyNoPair (cs_X11_whyNoPair18_ok g) [] 29 ?_⟩
  intro K hK
  refine Exists.intro c (And.intro rfl (And.intro trivial ?_))
  refine And.intro (fun (c1 : ¬ (mo_bl (0 ≤ c ∧ c ≤ (10000 : Int32))) = 0) => ?_) (fun (c1 : (mo_bl (0 ≤ c ∧ c ≤ (10000 : Int32))) = 0) => ?_)
  · replace c1 : 0 ≤ c ∧ c ≤ (10000 : Int32) := mo_blT c1
    refine Exists.intro a (And.intro rfl (And.intro trivial ?_))
    refine And.intro (fun (c2 : (mo_bl (0 ≤ a ∧ a < σ.1 1 0 1)) = 0) => ?_) (fun (c2 : ¬ (mo_bl (0 ≤ a ∧ a < σ.1 1 0 1)) = 0) => ?_)
    · replace c2 : ¬ (0 ≤ a ∧ a < σ.1 1 0 1) := mo_bl0.mp c2
      exact ((hQ.1 c1).1 c2)
    · replace c2 : 0 ≤ a ∧ a < σ.1 1 0 1 := mo_blT c2
      refine Exists.intro b (And.intro rfl (And.intro trivial ?_))
      refine And.intro (fun (c3 : ¬ (mo_bl (0 ≤ b ∧ b < σ.1 1 0 1)) = 0) => ?_) (fun (c3 : (mo_bl (0 ≤ b ∧ b < σ.1 1 0 1)) = 0) => ?_)
      · replace c3 : 0 ≤ b ∧ b < σ.1 1 0 1 := mo_blT c3
        refine And.intro (fun (c4 : ¬ a = b) => ?_) (fun (c4 : a = b) => ?_)
        · refine And.intro (fun (c5 : (σ.1 18 0 4) < (40 : Int32)) => ?_) (fun (c5 : ¬ (σ.1 18 0 4) < (40 : Int32)) => ?_)
          · exact (((((hQ.1 c1).2 c2).1 c3).1 c4).1 c5)
          · exact (((((hQ.1 c1).2 c2).1 c3).1 c4).2 c5)
        · exact ((((hQ.1 c1).2 c2).1 c3).2 c4)
      · replace c3 : ¬ (0 ≤ b ∧ b < σ.1 1 0 1) := mo_bl0.mp c3
        exact (((hQ.1 c1).2 c2).2 c3)
  · replace c1 : ¬ (0 ≤ c ∧ c ≤ (10000 : Int32)) := mo_bl0.mp c1
    exact (hQ.2 c1)
def S_X11_join : mo_S := fun as σ Q => ∃ a : Int32, ∃ b : Int32, ∃ c : Int32, as = [.inr (.inr (0, 0)), .inl a, .inl b, .inl c] ∧ ((0 ≤ c ∧ c ≤ (10000 : Int32) → ((¬ (0 ≤ a ∧ a < σ.1 1 0 1) → Q (some (.inl (-2 : Int32))) (mo_wI σ 0 0 14 (-2 : Int32))) ∧ (0 ≤ a ∧ a < σ.1 1 0 1 → ((0 ≤ b ∧ b < σ.1 1 0 1 → ((¬ a = b → (((σ.1 18 0 4) < (40 : Int32) → (((18 = 18 ∨ 18 = 23) ∧ vp_in (σ.1 18 0 4) 40) ∧ Q (some (.inl (σ.1 18 0 4 + 1 - 1))) (mo_wI (mo_wI (mo_wI (mo_wI (mo_wI σ 19 0 ((σ.1 18 0 4).toNatClampNeg) a) 20 0 ((σ.1 18 0 4).toNatClampNeg) b) 22 0 ((σ.1 18 0 4).toNatClampNeg) c) 18 0 4 (σ.1 18 0 4 + 1)) 0 0 14 0))) ∧ (¬ (σ.1 18 0 4) < (40 : Int32) → Q (some (.inl (-5 : Int32))) (mo_wI σ 0 0 14 (-5 : Int32))))) ∧ (a = b → Q (some (.inl (-4 : Int32))) (mo_wI σ 0 0 14 (-4 : Int32))))) ∧ (¬ (0 ≤ b ∧ b < σ.1 1 0 1) → Q (some (.inl (-2 : Int32))) (mo_wI σ 0 0 14 (-2 : Int32))))))) ∧ (¬ (0 ≤ c ∧ c ≤ (10000 : Int32)) → Q (some (.inl (-1 : Int32))) (mo_wI σ 0 0 14 (-1 : Int32))))
theorem m_X11_join : ∀ (as : List mo_V) (σ : mo_M) (P P' : mo_Q), (∀ x τ, P x τ → P' x τ) → S_X11_join as σ P → S_X11_join as σ P' := by
  rintro as σ P P' hm ⟨a, b, c, e, hq⟩
  exact ⟨a, b, c, e, ⟨fun c1 => ⟨fun c2 => hm _ _ ((hq.1 c1).1 c2), fun c2 => ⟨fun c3 => ⟨fun c4 => ⟨fun c5 => ⟨(((((hq.1 c1).2 c2).1 c3).1 c4).1 c5).1, hm _ _ (((((hq.1 c1).2 c2).1 c3).1 c4).1 c5).2⟩, fun c5 => hm _ _ (((((hq.1 c1).2 c2).1 c3).1 c4).2 c5)⟩, fun c4 => hm _ _ ((((hq.1 c1).2 c2).1 c3).2 c4)⟩, fun c3 => hm _ _ (((hq.1 c1).2 c2).2 c3)⟩⟩, fun c1 => hm _ _ (hq.2 c1)⟩⟩
def cs_X11_join : Nat → mo_C := fun j => match j with
  | 0 => (5, true, 164, 11, S_X11_whyNoPair18)
  | 1 => (2, true, 105, 11, S_X11_refuse)
  | 2 => (4, true, 168, 4, S_X4_add)
  | 3 => (2, true, 115, 11, S_X11_accept)
  | _ => (0, false, 0, 50, fun _ _ _ => False)
theorem cs_X11_join_ok (g : mo_E) : ∀ j, mo_cok g t_X11_join (cs_X11_join j) ∧ mo_mon (cs_X11_join j) := by
  intro j
  unfold cs_X11_join
  split
  · exact ⟨mo_cokV ct_X11_whyNoPair18 (by decide) ⟨_, _, rfl⟩ (by decide +kernel), m_X11_whyNoPair18⟩
  · exact ⟨mo_cokV ct_X11_refuse (by decide) ⟨_, _, rfl⟩ (by decide +kernel), m_X11_refuse⟩
  · exact ⟨mo_cokV ct_X4_add (by decide) ⟨_, _, rfl⟩ (by decide +kernel), m_X4_add⟩
  · exact ⟨mo_cokV ct_X11_accept (by decide) ⟨_, _, rfl⟩ (by decide +kernel), m_X11_accept⟩
  · exact ⟨mo_cok0 g _, mo_mon0⟩
set_option maxRecDepth 20000 in
set_option maxHeartbeats 2000000 in
theorem ct_X11_join : mo_ct yX11_join t_X11_join S_X11_join := by
  refine mo_ct_of (by decide) rfl ?_
  rintro g as σ Q ⟨a, b, c, rfl, hQ⟩
  refine ⟨Nat.le_of_ble_eq_true rfl, mo_go ok_X11_join (cs_X11_join_ok g) [] 24 ?_⟩
  intro K hK
  refine Exists.intro a (Exists.intro b (Exists.intro c (And.intro rfl ?_)))
  refine And.intro (fun (c1 : 0 ≤ c ∧ c ≤ (10000 : Int32)) => ?_) (fun (c1 : ¬ (0 ≤ c ∧ c ≤ (10000 : Int32))) => ?_)
  · refine And.intro (fun (c2 : ¬ (0 ≤ a ∧ a < σ.1 1 0 1)) => ?_) (fun (c2 : 0 ≤ a ∧ a < σ.1 1 0 1) => ?_)
    · refine And.intro (fun (c3 : (-2 : Int32) = 0) => ?_) (fun (c3 : ¬ (-2 : Int32) = 0) => ?_)
      · exact absurd c3 (by decide)
      · refine Exists.intro (-2 : Int32) (And.intro rfl (And.intro trivial ?_))
        exact ((hQ.1 c1).1 c2)
    · refine And.intro (fun (c3 : 0 ≤ b ∧ b < σ.1 1 0 1) => ?_) (fun (c3 : ¬ (0 ≤ b ∧ b < σ.1 1 0 1)) => ?_)
      · refine And.intro (fun (c4 : ¬ a = b) => ?_) (fun (c4 : a = b) => ?_)
        · refine And.intro (fun (c5 : (σ.1 18 0 4) < (40 : Int32)) => ?_) (fun (c5 : ¬ (σ.1 18 0 4) < (40 : Int32)) => ?_)
          · refine And.intro (fun (c6 : (0 : Int32) = 0) => ?_) (fun (c6 : ¬ (0 : Int32) = 0) => ?_)
            · refine Exists.intro 18 (Exists.intro a (Exists.intro b (Exists.intro c (And.intro rfl (And.intro (show (18 = 18 ∨ 18 = 23) ∧ vp_in (σ.1 18 0 4) 40 from (((((hQ.1 c1).2 c2).1 c3).1 c4).1 c5).1) ?_)))))
              refine Exists.intro (σ.1 18 0 4 + 1 - 1) (And.intro rfl (And.intro trivial ?_))
              exact (((((hQ.1 c1).2 c2).1 c3).1 c4).1 c5).2
            · exact absurd c6 (by decide)
          · refine And.intro (fun (c6 : (-5 : Int32) = 0) => ?_) (fun (c6 : ¬ (-5 : Int32) = 0) => ?_)
            · exact absurd c6 (by decide)
            · refine Exists.intro (-5 : Int32) (And.intro rfl (And.intro trivial ?_))
              exact (((((hQ.1 c1).2 c2).1 c3).1 c4).2 c5)
        · refine And.intro (fun (c5 : (-4 : Int32) = 0) => ?_) (fun (c5 : ¬ (-4 : Int32) = 0) => ?_)
          · exact absurd c5 (by decide)
          · refine Exists.intro (-4 : Int32) (And.intro rfl (And.intro trivial ?_))
            exact ((((hQ.1 c1).2 c2).1 c3).2 c4)
      · refine And.intro (fun (c4 : (-2 : Int32) = 0) => ?_) (fun (c4 : ¬ (-2 : Int32) = 0) => ?_)
        · exact absurd c4 (by decide)
        · refine Exists.intro (-2 : Int32) (And.intro rfl (And.intro trivial ?_))
          exact (((hQ.1 c1).2 c2).2 c3)
  · refine And.intro (fun (c2 : (-1 : Int32) = 0) => ?_) (fun (c2 : ¬ (-1 : Int32) = 0) => ?_)
    · exact absurd c2 (by decide)
    · refine Exists.intro (-1 : Int32) (And.intro rfl (And.intro trivial ?_))
      exact (hQ.2 c1)
def S_X11_whyNoPair23 : mo_S := fun as σ Q => ∃ a : Int32, ∃ b : Int32, ∃ c : Int32, as = [.inr (.inr (0, 0)), .inl a, .inl b, .inl c, .inr (.inr (23, 0))] ∧ ((0 ≤ c ∧ c ≤ (10000 : Int32) → ((¬ (0 ≤ a ∧ a < σ.1 1 0 1) → Q (some (.inl (-2 : Int32))) (σ)) ∧ (0 ≤ a ∧ a < σ.1 1 0 1 → ((0 ≤ b ∧ b < σ.1 1 0 1 → ((¬ a = b → (((σ.1 23 0 4) < (40 : Int32) → Q (some (.inl (0 : Int32))) (σ)) ∧ (¬ (σ.1 23 0 4) < (40 : Int32) → Q (some (.inl (-5 : Int32))) (σ)))) ∧ (a = b → Q (some (.inl (-4 : Int32))) (σ)))) ∧ (¬ (0 ≤ b ∧ b < σ.1 1 0 1) → Q (some (.inl (-2 : Int32))) (σ)))))) ∧ (¬ (0 ≤ c ∧ c ≤ (10000 : Int32)) → Q (some (.inl (-1 : Int32))) (σ)))
theorem m_X11_whyNoPair23 : ∀ (as : List mo_V) (σ : mo_M) (P P' : mo_Q), (∀ x τ, P x τ → P' x τ) → S_X11_whyNoPair23 as σ P → S_X11_whyNoPair23 as σ P' := by
  rintro as σ P P' hm ⟨a, b, c, e, hq⟩
  exact ⟨a, b, c, e, ⟨fun c1 => ⟨fun c2 => hm _ _ ((hq.1 c1).1 c2), fun c2 => ⟨fun c3 => ⟨fun c4 => ⟨fun c5 => hm _ _ (((((hq.1 c1).2 c2).1 c3).1 c4).1 c5), fun c5 => hm _ _ (((((hq.1 c1).2 c2).1 c3).1 c4).2 c5)⟩, fun c4 => hm _ _ ((((hq.1 c1).2 c2).1 c3).2 c4)⟩, fun c3 => hm _ _ (((hq.1 c1).2 c2).2 c3)⟩⟩, fun c1 => hm _ _ (hq.2 c1)⟩⟩
def cs_X11_whyNoPair23 : Nat → mo_C := fun j => match j with
  | 0 => (1, false, 137, 50, S_X11_isDay)
  | 1 => (2, true, 122, 11, S_X11_isPart)
  | _ => (0, false, 0, 50, fun _ _ _ => False)
theorem cs_X11_whyNoPair23_ok (g : mo_E) : ∀ j, mo_cok g t_X11_whyNoPair (cs_X11_whyNoPair23 j) ∧ mo_mon (cs_X11_whyNoPair23 j) := by
  intro j
  unfold cs_X11_whyNoPair23
  split
  · exact ⟨mo_cokS ct_X11_isDay (by decide +kernel), m_X11_isDay⟩
  · exact ⟨mo_cokV ct_X11_isPart (by decide) ⟨_, _, rfl⟩ (by decide +kernel), m_X11_isPart⟩
  · exact ⟨mo_cok0 g _, mo_mon0⟩
set_option maxRecDepth 20000 in
set_option maxHeartbeats 2000000 in
theorem ct_X11_whyNoPair23 : mo_ct yX11_whyNoPair t_X11_whyNoPair S_X11_whyNoPair23 := by
  refine mo_ct_of (by decide) rfl ?_
  rintro g as σ Q ⟨a, b, c, rfl, hQ⟩
  refine ⟨Nat.le_of_ble_eq_true rfl, mo_go ok_X11_whyNoPair (cs_X11_whyNoPair23_ok g) [] 29 ?_⟩
  intro K hK
  refine Exists.intro c (And.intro rfl (And.intro trivial ?_))
  refine And.intro (fun (c1 : ¬ (mo_bl (0 ≤ c ∧ c ≤ (10000 : Int32))) = 0) => ?_) (fun (c1 : (mo_bl (0 ≤ c ∧ c ≤ (10000 : Int32))) = 0) => ?_)
  · replace c1 : 0 ≤ c ∧ c ≤ (10000 : Int32) := mo_blT c1
    refine Exists.intro a (And.intro rfl (And.intro trivial ?_))
    refine And.intro (fun (c2 : (mo_bl (0 ≤ a ∧ a < σ.1 1 0 1)) = 0) => ?_) (fun (c2 : ¬ (mo_bl (0 ≤ a ∧ a < σ.1 1 0 1)) = 0) => ?_)
    · replace c2 : ¬ (0 ≤ a ∧ a < σ.1 1 0 1) := mo_bl0.mp c2
      exact ((hQ.1 c1).1 c2)
    · replace c2 : 0 ≤ a ∧ a < σ.1 1 0 1 := mo_blT c2
      refine Exists.intro b (And.intro rfl (And.intro trivial ?_))
      refine And.intro (fun (c3 : ¬ (mo_bl (0 ≤ b ∧ b < σ.1 1 0 1)) = 0) => ?_) (fun (c3 : (mo_bl (0 ≤ b ∧ b < σ.1 1 0 1)) = 0) => ?_)
      · replace c3 : 0 ≤ b ∧ b < σ.1 1 0 1 := mo_blT c3
        refine And.intro (fun (c4 : ¬ a = b) => ?_) (fun (c4 : a = b) => ?_)
        · refine And.intro (fun (c5 : (σ.1 23 0 4) < (40 : Int32)) => ?_) (fun (c5 : ¬ (σ.1 23 0 4) < (40 : Int32)) => ?_)
          · exact (((((hQ.1 c1).2 c2).1 c3).1 c4).1 c5)
          · exact (((((hQ.1 c1).2 c2).1 c3).1 c4).2 c5)
        · exact ((((hQ.1 c1).2 c2).1 c3).2 c4)
      · replace c3 : ¬ (0 ≤ b ∧ b < σ.1 1 0 1) := mo_bl0.mp c3
        exact (((hQ.1 c1).2 c2).2 c3)
  · replace c1 : ¬ (0 ≤ c ∧ c ≤ (10000 : Int32)) := mo_bl0.mp c1
    exact (hQ.2 c1)
def S_X11_unlike : mo_S := fun as σ Q => ∃ a : Int32, ∃ b : Int32, ∃ c : Int32, as = [.inr (.inr (0, 0)), .inl a, .inl b, .inl c] ∧ ((0 ≤ c ∧ c ≤ (10000 : Int32) → ((¬ (0 ≤ a ∧ a < σ.1 1 0 1) → Q (some (.inl (-2 : Int32))) (mo_wI σ 0 0 14 (-2 : Int32))) ∧ (0 ≤ a ∧ a < σ.1 1 0 1 → ((0 ≤ b ∧ b < σ.1 1 0 1 → ((¬ a = b → (((σ.1 23 0 4) < (40 : Int32) → (((23 = 18 ∨ 23 = 23) ∧ vp_in (σ.1 23 0 4) 40) ∧ Q (some (.inl (((σ.1 23 0 4 + 1 - 1) + (1 : Int32))))) (mo_wI (mo_wI (mo_wI (mo_wI (mo_wI σ 24 0 ((σ.1 23 0 4).toNatClampNeg) a) 25 0 ((σ.1 23 0 4).toNatClampNeg) b) 27 0 ((σ.1 23 0 4).toNatClampNeg) c) 23 0 4 (σ.1 23 0 4 + 1)) 0 0 14 0))) ∧ (¬ (σ.1 23 0 4) < (40 : Int32) → Q (some (.inl (-5 : Int32))) (mo_wI σ 0 0 14 (-5 : Int32))))) ∧ (a = b → Q (some (.inl (-4 : Int32))) (mo_wI σ 0 0 14 (-4 : Int32))))) ∧ (¬ (0 ≤ b ∧ b < σ.1 1 0 1) → Q (some (.inl (-2 : Int32))) (mo_wI σ 0 0 14 (-2 : Int32))))))) ∧ (¬ (0 ≤ c ∧ c ≤ (10000 : Int32)) → Q (some (.inl (-1 : Int32))) (mo_wI σ 0 0 14 (-1 : Int32))))
theorem m_X11_unlike : ∀ (as : List mo_V) (σ : mo_M) (P P' : mo_Q), (∀ x τ, P x τ → P' x τ) → S_X11_unlike as σ P → S_X11_unlike as σ P' := by
  rintro as σ P P' hm ⟨a, b, c, e, hq⟩
  exact ⟨a, b, c, e, ⟨fun c1 => ⟨fun c2 => hm _ _ ((hq.1 c1).1 c2), fun c2 => ⟨fun c3 => ⟨fun c4 => ⟨fun c5 => ⟨(((((hq.1 c1).2 c2).1 c3).1 c4).1 c5).1, hm _ _ (((((hq.1 c1).2 c2).1 c3).1 c4).1 c5).2⟩, fun c5 => hm _ _ (((((hq.1 c1).2 c2).1 c3).1 c4).2 c5)⟩, fun c4 => hm _ _ ((((hq.1 c1).2 c2).1 c3).2 c4)⟩, fun c3 => hm _ _ (((hq.1 c1).2 c2).2 c3)⟩⟩, fun c1 => hm _ _ (hq.2 c1)⟩⟩
def cs_X11_unlike : Nat → mo_C := fun j => match j with
  | 0 => (5, true, 164, 11, S_X11_whyNoPair23)
  | 1 => (2, true, 105, 11, S_X11_refuse)
  | 2 => (4, true, 168, 4, S_X4_add)
  | 3 => (2, true, 115, 11, S_X11_accept)
  | _ => (0, false, 0, 50, fun _ _ _ => False)
theorem cs_X11_unlike_ok (g : mo_E) : ∀ j, mo_cok g t_X11_unlike (cs_X11_unlike j) ∧ mo_mon (cs_X11_unlike j) := by
  intro j
  unfold cs_X11_unlike
  split
  · exact ⟨mo_cokV ct_X11_whyNoPair23 (by decide) ⟨_, _, rfl⟩ (by decide +kernel), m_X11_whyNoPair23⟩
  · exact ⟨mo_cokV ct_X11_refuse (by decide) ⟨_, _, rfl⟩ (by decide +kernel), m_X11_refuse⟩
  · exact ⟨mo_cokV ct_X4_add (by decide) ⟨_, _, rfl⟩ (by decide +kernel), m_X4_add⟩
  · exact ⟨mo_cokV ct_X11_accept (by decide) ⟨_, _, rfl⟩ (by decide +kernel), m_X11_accept⟩
  · exact ⟨mo_cok0 g _, mo_mon0⟩
set_option maxRecDepth 20000 in
set_option maxHeartbeats 2000000 in
theorem ct_X11_unlike : mo_ct yX11_unlike t_X11_unlike S_X11_unlike := by
  refine mo_ct_of (by decide) rfl ?_
  rintro g as σ Q ⟨a, b, c, rfl, hQ⟩
  refine ⟨Nat.le_of_ble_eq_true rfl, mo_go ok_X11_unlike (cs_X11_unlike_ok g) [] 26 ?_⟩
  intro K hK
  refine Exists.intro a (Exists.intro b (Exists.intro c (And.intro rfl ?_)))
  refine And.intro (fun (c1 : 0 ≤ c ∧ c ≤ (10000 : Int32)) => ?_) (fun (c1 : ¬ (0 ≤ c ∧ c ≤ (10000 : Int32))) => ?_)
  · refine And.intro (fun (c2 : ¬ (0 ≤ a ∧ a < σ.1 1 0 1)) => ?_) (fun (c2 : 0 ≤ a ∧ a < σ.1 1 0 1) => ?_)
    · refine And.intro (fun (c3 : (-2 : Int32) = 0) => ?_) (fun (c3 : ¬ (-2 : Int32) = 0) => ?_)
      · exact absurd c3 (by decide)
      · refine Exists.intro (-2 : Int32) (And.intro rfl (And.intro trivial ?_))
        exact ((hQ.1 c1).1 c2)
    · refine And.intro (fun (c3 : 0 ≤ b ∧ b < σ.1 1 0 1) => ?_) (fun (c3 : ¬ (0 ≤ b ∧ b < σ.1 1 0 1)) => ?_)
      · refine And.intro (fun (c4 : ¬ a = b) => ?_) (fun (c4 : a = b) => ?_)
        · refine And.intro (fun (c5 : (σ.1 23 0 4) < (40 : Int32)) => ?_) (fun (c5 : ¬ (σ.1 23 0 4) < (40 : Int32)) => ?_)
          · refine And.intro (fun (c6 : (0 : Int32) = 0) => ?_) (fun (c6 : ¬ (0 : Int32) = 0) => ?_)
            · refine Exists.intro 23 (Exists.intro a (Exists.intro b (Exists.intro c (And.intro rfl (And.intro (show (23 = 18 ∨ 23 = 23) ∧ vp_in (σ.1 23 0 4) 40 from (((((hQ.1 c1).2 c2).1 c3).1 c4).1 c5).1) ?_)))))
              refine Exists.intro ((σ.1 23 0 4 + 1 - 1) + (1 : Int32)) (And.intro rfl (And.intro trivial ?_))
              exact (((((hQ.1 c1).2 c2).1 c3).1 c4).1 c5).2
            · exact absurd c6 (by decide)
          · refine And.intro (fun (c6 : (-5 : Int32) = 0) => ?_) (fun (c6 : ¬ (-5 : Int32) = 0) => ?_)
            · exact absurd c6 (by decide)
            · refine Exists.intro (-5 : Int32) (And.intro rfl (And.intro trivial ?_))
              exact (((((hQ.1 c1).2 c2).1 c3).1 c4).2 c5)
        · refine And.intro (fun (c5 : (-4 : Int32) = 0) => ?_) (fun (c5 : ¬ (-4 : Int32) = 0) => ?_)
          · exact absurd c5 (by decide)
          · refine Exists.intro (-4 : Int32) (And.intro rfl (And.intro trivial ?_))
            exact ((((hQ.1 c1).2 c2).1 c3).2 c4)
      · refine And.intro (fun (c4 : (-2 : Int32) = 0) => ?_) (fun (c4 : ¬ (-2 : Int32) = 0) => ?_)
        · exact absurd c4 (by decide)
        · refine Exists.intro (-2 : Int32) (And.intro rfl (And.intro trivial ?_))
          exact (((hQ.1 c1).2 c2).2 c3)
  · refine And.intro (fun (c2 : (-1 : Int32) = 0) => ?_) (fun (c2 : ¬ (-1 : Int32) = 0) => ?_)
    · exact absurd c2 (by decide)
    · refine Exists.intro (-1 : Int32) (And.intro rfl (And.intro trivial ?_))
      exact (hQ.2 c1)
def mo_t1 (σ : mo_M) (a sh : Int32) : mo_M := mo_wI (mo_wI σ 31 0 (σ.1 30 0 1).toNatClampNeg ((a.toUInt32 >>> (sh.toUInt32 &&& Int32.toUInt32 31)).toInt32 &&& (255 : Int32))) 30 0 1 (σ.1 30 0 1 + 1)
def mo_t4 (σ : mo_M) (a : Int32) : mo_M := mo_t1 (mo_t1 (mo_t1 (mo_t1 σ a 24) a 16) a 8) a 0
theorem mo_t1_n (σ : mo_M) (a sh : Int32) {m : Nat} (h : σ.1 30 0 1 = nI m) : (mo_t1 σ a sh).1 30 0 1 = nI (m + 1) := by
  rw [nI_succ, ← h]; rfl
def S_X8_add : mo_S := fun as σ Q => ∃ a : Int32, as = [.inr (.inr (30, 0)), .inl a] ∧ (mo_le (σ.1 30 0 1) 196) ∧ Q (none) (mo_t4 σ a)
theorem m_X8_add : ∀ (as : List mo_V) (σ : mo_M) (P P' : mo_Q), (∀ x τ, P x τ → P' x τ) → S_X8_add as σ P → S_X8_add as σ P' := by
  rintro as σ P P' h ⟨a, e, hp, hq⟩
  exact ⟨a, e, hp, h _ _ hq⟩
set_option maxRecDepth 20000 in
set_option maxHeartbeats 2000000 in
theorem lp_X8_add_m8 (g : mo_E) (σ : mo_M) (Q : mo_Q) (a : Int32) (m : Nat) (hm : σ.1 30 0 1 = nI m) (hle : m + 0 ≤ 200) (hQ : Q none (σ)) : mo_X g t_X8_add Q 3 [some (.inr (.inr (30, 0))), some (.inl a), some (.inl (-8 : Int32))] [] σ := by
  refine mo_go ok_X8_add (mo_no_ok g _) [3] 28 ?_
  intro K hK
  refine And.intro (fun (c1 : (-8 : Int32) < 0) => ?_) (fun (c1 : ¬ (-8 : Int32) < 0) => ?_)
  · exact hQ
  · exact absurd c1 (by decide)
set_option maxRecDepth 20000 in
set_option maxHeartbeats 2000000 in
theorem lp_X8_add_0 (g : mo_E) (σ : mo_M) (Q : mo_Q) (a : Int32) (m : Nat) (hm : σ.1 30 0 1 = nI m) (hle : m + 1 ≤ 200) (hQ : Q none (mo_t1 σ a 0)) : mo_X g t_X8_add Q 3 [some (.inr (.inr (30, 0))), some (.inl a), some (.inl (0 : Int32))] [] σ := by
  refine mo_go ok_X8_add (mo_no_ok g _) [3] 28 ?_
  intro K hK
  refine And.intro (fun (c1 : (0 : Int32) < 0) => ?_) (fun (c1 : ¬ (0 : Int32) < 0) => ?_)
  · exact absurd c1 (by decide)
  · refine And.intro (fun (c2 : (200 : Int32) ≤ (σ.1 30 0 1)) => ?_) (fun (c2 : ¬ (200 : Int32) ≤ (σ.1 30 0 1)) => ?_)
    · exact absurd c2 (by rw [hm, show (200 : Int32) = nI 200 from rfl, nI_leI (by omega) (by omega)]; omega)
    · refine And.intro (show vp_in (σ.1 30 0 1) 200 by rw [hm]; exact mo_inN (by omega) (by decide)) ?_
      exact hK _ _ _ _ (lp_X8_add_m8 g (mo_t1 σ a 0) Q a (m + 1) (mo_t1_n σ a 0 hm) (by omega) hQ)
set_option maxRecDepth 20000 in
set_option maxHeartbeats 2000000 in
theorem lp_X8_add_8 (g : mo_E) (σ : mo_M) (Q : mo_Q) (a : Int32) (m : Nat) (hm : σ.1 30 0 1 = nI m) (hle : m + 2 ≤ 200) (hQ : Q none (mo_t1 (mo_t1 σ a 8) a 0)) : mo_X g t_X8_add Q 3 [some (.inr (.inr (30, 0))), some (.inl a), some (.inl (8 : Int32))] [] σ := by
  refine mo_go ok_X8_add (mo_no_ok g _) [3] 28 ?_
  intro K hK
  refine And.intro (fun (c1 : (8 : Int32) < 0) => ?_) (fun (c1 : ¬ (8 : Int32) < 0) => ?_)
  · exact absurd c1 (by decide)
  · refine And.intro (fun (c2 : (200 : Int32) ≤ (σ.1 30 0 1)) => ?_) (fun (c2 : ¬ (200 : Int32) ≤ (σ.1 30 0 1)) => ?_)
    · exact absurd c2 (by rw [hm, show (200 : Int32) = nI 200 from rfl, nI_leI (by omega) (by omega)]; omega)
    · refine And.intro (show vp_in (σ.1 30 0 1) 200 by rw [hm]; exact mo_inN (by omega) (by decide)) ?_
      exact hK _ _ _ _ (lp_X8_add_0 g (mo_t1 σ a 8) Q a (m + 1) (mo_t1_n σ a 8 hm) (by omega) hQ)
set_option maxRecDepth 20000 in
set_option maxHeartbeats 2000000 in
theorem lp_X8_add_16 (g : mo_E) (σ : mo_M) (Q : mo_Q) (a : Int32) (m : Nat) (hm : σ.1 30 0 1 = nI m) (hle : m + 3 ≤ 200) (hQ : Q none (mo_t1 (mo_t1 (mo_t1 σ a 16) a 8) a 0)) : mo_X g t_X8_add Q 3 [some (.inr (.inr (30, 0))), some (.inl a), some (.inl (16 : Int32))] [] σ := by
  refine mo_go ok_X8_add (mo_no_ok g _) [3] 28 ?_
  intro K hK
  refine And.intro (fun (c1 : (16 : Int32) < 0) => ?_) (fun (c1 : ¬ (16 : Int32) < 0) => ?_)
  · exact absurd c1 (by decide)
  · refine And.intro (fun (c2 : (200 : Int32) ≤ (σ.1 30 0 1)) => ?_) (fun (c2 : ¬ (200 : Int32) ≤ (σ.1 30 0 1)) => ?_)
    · exact absurd c2 (by rw [hm, show (200 : Int32) = nI 200 from rfl, nI_leI (by omega) (by omega)]; omega)
    · refine And.intro (show vp_in (σ.1 30 0 1) 200 by rw [hm]; exact mo_inN (by omega) (by decide)) ?_
      exact hK _ _ _ _ (lp_X8_add_8 g (mo_t1 σ a 16) Q a (m + 1) (mo_t1_n σ a 16 hm) (by omega) hQ)
set_option maxRecDepth 20000 in
set_option maxHeartbeats 2000000 in
theorem lp_X8_add_24 (g : mo_E) (σ : mo_M) (Q : mo_Q) (a : Int32) (m : Nat) (hm : σ.1 30 0 1 = nI m) (hle : m + 4 ≤ 200) (hQ : Q none (mo_t1 (mo_t1 (mo_t1 (mo_t1 σ a 24) a 16) a 8) a 0)) : mo_X g t_X8_add Q 3 [some (.inr (.inr (30, 0))), some (.inl a), some (.inl (24 : Int32))] [] σ := by
  refine mo_go ok_X8_add (mo_no_ok g _) [3] 28 ?_
  intro K hK
  refine And.intro (fun (c1 : (24 : Int32) < 0) => ?_) (fun (c1 : ¬ (24 : Int32) < 0) => ?_)
  · exact absurd c1 (by decide)
  · refine And.intro (fun (c2 : (200 : Int32) ≤ (σ.1 30 0 1)) => ?_) (fun (c2 : ¬ (200 : Int32) ≤ (σ.1 30 0 1)) => ?_)
    · exact absurd c2 (by rw [hm, show (200 : Int32) = nI 200 from rfl, nI_leI (by omega) (by omega)]; omega)
    · refine And.intro (show vp_in (σ.1 30 0 1) 200 by rw [hm]; exact mo_inN (by omega) (by decide)) ?_
      exact hK _ _ _ _ (lp_X8_add_16 g (mo_t1 σ a 24) Q a (m + 1) (mo_t1_n σ a 24 hm) (by omega) hQ)
set_option maxRecDepth 20000 in
set_option maxHeartbeats 2000000 in
theorem ct_X8_add : mo_ct yX8_add t_X8_add S_X8_add := by
  refine mo_ct_of (by decide) rfl ?_
  rintro g as σ Q ⟨a, rfl, hpre, hQ⟩
  refine ⟨Nat.le_of_ble_eq_true rfl, mo_go ok_X8_add (mo_no_ok g _) [3] 28 ?_⟩
  intro K hK
  exact hK _ _ _ _ (lp_X8_add_24 g σ Q a _ hpre.1 (by have := hpre.2; omega) hQ)
def S_X11_feed : mo_S := fun as σ Q => ∃ a : Int32, ∃ b : Int32, ∃ c : Int32, ∃ d : Int32, ∃ f : Int32, as = [.inr (.inr (0, 0)), .inl a, .inl b, .inl c, .inl d, .inl f] ∧ ((((σ.1 30 0 1) + (20 : Int32)) ≤ (200 : Int32) → ((mo_le (σ.1 30 0 1) 196) ∧ ((mo_le ((mo_t4 σ a).1 30 0 1) 196) ∧ ((mo_le ((mo_t4 (mo_t4 σ a) b).1 30 0 1) 196) ∧ ((mo_le ((mo_t4 (mo_t4 (mo_t4 σ a) b) c).1 30 0 1) 196) ∧ ((mo_le ((mo_t4 (mo_t4 (mo_t4 (mo_t4 σ a) b) c) d).1 30 0 1) 196) ∧ Q (some (.inl ((mo_t4 (mo_t4 (mo_t4 (mo_t4 (mo_t4 σ a) b) c) d) f).1 30 0 1))) (mo_t4 (mo_t4 (mo_t4 (mo_t4 (mo_t4 σ a) b) c) d) f))))))) ∧ (¬ ((σ.1 30 0 1) + (20 : Int32)) ≤ (200 : Int32) → Q (some (.inl (-1 : Int32))) (σ)))
theorem m_X11_feed : ∀ (as : List mo_V) (σ : mo_M) (P P' : mo_Q), (∀ x τ, P x τ → P' x τ) → S_X11_feed as σ P → S_X11_feed as σ P' := by
  rintro as σ P P' hm ⟨a, b, c, d, f, e, hq⟩
  exact ⟨a, b, c, d, f, e, ⟨fun c1 => ⟨(hq.1 c1).1, ⟨(hq.1 c1).2.1, ⟨(hq.1 c1).2.2.1, ⟨(hq.1 c1).2.2.2.1, ⟨(hq.1 c1).2.2.2.2.1, hm _ _ (hq.1 c1).2.2.2.2.2⟩⟩⟩⟩⟩, fun c1 => hm _ _ (hq.2 c1)⟩⟩
def cs_X11_feed : Nat → mo_C := fun j => match j with
  | 0 => (2, true, 187, 8, S_X8_add)
  | _ => (0, false, 0, 50, fun _ _ _ => False)
theorem cs_X11_feed_ok (g : mo_E) : ∀ j, mo_cok g t_X11_feed (cs_X11_feed j) ∧ mo_mon (cs_X11_feed j) := by
  intro j
  unfold cs_X11_feed
  split
  · exact ⟨mo_cokV ct_X8_add (by decide) ⟨_, _, rfl⟩ (by decide +kernel), m_X8_add⟩
  · exact ⟨mo_cok0 g _, mo_mon0⟩
set_option maxRecDepth 20000 in
set_option maxHeartbeats 2000000 in
theorem ct_X11_feed : mo_ct yX11_feed t_X11_feed S_X11_feed := by
  refine mo_ct_of (by decide) rfl ?_
  rintro g as σ Q ⟨a, b, c, d, f, rfl, hQ⟩
  refine ⟨Nat.le_of_ble_eq_true rfl, mo_go ok_X11_feed (cs_X11_feed_ok g) [] 34 ?_⟩
  intro K hK
  refine And.intro (fun (c1 : ((σ.1 30 0 1) + (20 : Int32)) ≤ (200 : Int32)) => ?_) (fun (c1 : ¬ ((σ.1 30 0 1) + (20 : Int32)) ≤ (200 : Int32)) => ?_)
  · refine Exists.intro a (And.intro rfl (And.intro (show mo_le (σ.1 30 0 1) 196 from (hQ.1 c1).1) ?_))
    refine Exists.intro b (And.intro rfl (And.intro (show mo_le ((mo_t4 σ a).1 30 0 1) 196 from (hQ.1 c1).2.1) ?_))
    refine Exists.intro c (And.intro rfl (And.intro (show mo_le ((mo_t4 (mo_t4 σ a) b).1 30 0 1) 196 from (hQ.1 c1).2.2.1) ?_))
    refine Exists.intro d (And.intro rfl (And.intro (show mo_le ((mo_t4 (mo_t4 (mo_t4 σ a) b) c).1 30 0 1) 196 from (hQ.1 c1).2.2.2.1) ?_))
    refine Exists.intro f (And.intro rfl (And.intro (show mo_le ((mo_t4 (mo_t4 (mo_t4 (mo_t4 σ a) b) c) d).1 30 0 1) 196 from (hQ.1 c1).2.2.2.2.1) ?_))
    exact (hQ.1 c1).2.2.2.2.2
  · exact (hQ.2 c1)
