def S_X12_pairs : mo_S := fun as σ Q => ∃ a : Int32, ∃ b : Int32, ∃ c : Int32, as = [.inr (.inr (50, 0)), .inl a, .inl b, .inl c] ∧ ((0 ≤ c ∧ c ≤ (10000 : Int32) → ((¬ (0 ≤ a ∧ a ≤ σ.1 50 0 1 - 1) → Q (some (.inl (-2 : Int32))) (σ)) ∧ (0 ≤ a ∧ a ≤ σ.1 50 0 1 - 1 → ((0 ≤ b ∧ b ≤ σ.1 50 0 1 - 1 → ((¬ a = b → Q (some (.inl (0 : Int32))) (σ)) ∧ (a = b → Q (some (.inl (-4 : Int32))) (σ)))) ∧ (¬ (0 ≤ b ∧ b ≤ σ.1 50 0 1 - 1) → Q (some (.inl (-2 : Int32))) (σ)))))) ∧ (¬ (0 ≤ c ∧ c ≤ (10000 : Int32)) → Q (some (.inl (-1 : Int32))) (σ)))
theorem m_X12_pairs : ∀ (as : List mo_V) (σ : mo_M) (P P' : mo_Q), (∀ x τ, P x τ → P' x τ) → S_X12_pairs as σ P → S_X12_pairs as σ P' := by
  rintro as σ P P' hm ⟨a, b, c, e, hq⟩
  exact ⟨a, b, c, e, ⟨fun c1 => ⟨fun c2 => hm _ _ ((hq.1 c1).1 c2), fun c2 => ⟨fun c3 => ⟨fun c4 => hm _ _ ((((hq.1 c1).2 c2).1 c3).1 c4), fun c4 => hm _ _ ((((hq.1 c1).2 c2).1 c3).2 c4)⟩, fun c3 => hm _ _ (((hq.1 c1).2 c2).2 c3)⟩⟩, fun c1 => hm _ _ (hq.2 c1)⟩⟩
def cs_X12_pairs : Nat → mo_C := fun j => match j with
  | 0 => (1, false, 141, 50, S_X12_isDay)
  | 1 => (2, true, 129, 12, S_X12_isPart)
  | _ => (0, false, 0, 50, fun _ _ _ => False)
theorem cs_X12_pairs_ok (g : mo_E) : ∀ j, mo_cok g t_X12_pairs (cs_X12_pairs j) ∧ mo_mon (cs_X12_pairs j) := by
  intro j
  unfold cs_X12_pairs
  split
  · exact ⟨mo_cokS ct_X12_isDay (by decide +kernel), m_X12_isDay⟩
  · exact ⟨mo_cokV ct_X12_isPart (by decide) ⟨_, _, rfl⟩ (by decide +kernel), m_X12_isPart⟩
  · exact ⟨mo_cok0 g _, mo_mon0⟩
set_option maxRecDepth 20000 in
set_option maxHeartbeats 2000000 in
theorem ct_X12_pairs : mo_ct yX12_pairs t_X12_pairs S_X12_pairs := by
  refine mo_ct_of (by decide) rfl ?_
  rintro g as σ Q ⟨a, b, c, rfl, hQ⟩
  refine ⟨Nat.le_of_ble_eq_true rfl, mo_go ok_X12_pairs (cs_X12_pairs_ok g) [] 23 ?_⟩
  intro K hK
  refine Exists.intro c (And.intro rfl (And.intro trivial ?_))
  refine And.intro (fun (c1 : ¬ (mo_bl (0 ≤ c ∧ c ≤ (10000 : Int32))) = 0) => ?_) (fun (c1 : (mo_bl (0 ≤ c ∧ c ≤ (10000 : Int32))) = 0) => ?_)
  · replace c1 : 0 ≤ c ∧ c ≤ (10000 : Int32) := mo_blT c1
    refine Exists.intro a (And.intro rfl (And.intro trivial ?_))
    refine And.intro (fun (c2 : (mo_bl (0 ≤ a ∧ a ≤ σ.1 50 0 1 - 1)) = 0) => ?_) (fun (c2 : ¬ (mo_bl (0 ≤ a ∧ a ≤ σ.1 50 0 1 - 1)) = 0) => ?_)
    · replace c2 : ¬ (0 ≤ a ∧ a ≤ σ.1 50 0 1 - 1) := mo_bl0.mp c2
      exact ((hQ.1 c1).1 c2)
    · replace c2 : 0 ≤ a ∧ a ≤ σ.1 50 0 1 - 1 := mo_blT c2
      refine Exists.intro b (And.intro rfl (And.intro trivial ?_))
      refine And.intro (fun (c3 : ¬ (mo_bl (0 ≤ b ∧ b ≤ σ.1 50 0 1 - 1)) = 0) => ?_) (fun (c3 : (mo_bl (0 ≤ b ∧ b ≤ σ.1 50 0 1 - 1)) = 0) => ?_)
      · replace c3 : 0 ≤ b ∧ b ≤ σ.1 50 0 1 - 1 := mo_blT c3
        refine And.intro (fun (c4 : ¬ a = b) => ?_) (fun (c4 : a = b) => ?_)
        · exact ((((hQ.1 c1).2 c2).1 c3).1 c4)
        · exact ((((hQ.1 c1).2 c2).1 c3).2 c4)
      · replace c3 : ¬ (0 ≤ b ∧ b ≤ σ.1 50 0 1 - 1) := mo_bl0.mp c3
        exact (((hQ.1 c1).2 c2).2 c3)
  · replace c1 : ¬ (0 ≤ c ∧ c ≤ (10000 : Int32)) := mo_bl0.mp c1
    exact (hQ.2 c1)
def S_X12_join : mo_S := fun as σ Q => ∃ a : Int32, ∃ b : Int32, ∃ c : Int32, as = [.inr (.inr (50, 0)), .inl a, .inl b, .inl c] ∧ ((0 ≤ c ∧ c ≤ (10000 : Int32) → ((¬ (0 ≤ a ∧ a ≤ σ.1 50 0 1 - 1) → Q (some (.inl (-2 : Int32))) (mo_wI σ 50 0 0 (if (-2 : Int32) < 0 then (-2 : Int32) else 0))) ∧ (0 ≤ a ∧ a ≤ σ.1 50 0 1 - 1 → ((0 ≤ b ∧ b ≤ σ.1 50 0 1 - 1 → ((¬ a = b → ((¬ (σ.1 50 0 18) = (40 : Int32) → (vp_in (σ.1 50 0 18) 40 ∧ (vp_in (σ.1 50 0 18) 40 ∧ (vp_in (σ.1 50 0 18) 40 ∧ Q (some (.inl ((((σ.1 50 0 18) + (1 : Int32)) - (1 : Int32))))) (mo_wI (mo_wI (mo_wI (mo_wI (mo_wI σ 64 0 ((σ.1 50 0 18).toNatClampNeg) a) 65 0 ((σ.1 50 0 18).toNatClampNeg) b) 66 0 ((σ.1 50 0 18).toNatClampNeg) c) 50 0 18 ((σ.1 50 0 18) + (1 : Int32))) 50 0 0 (if (((σ.1 50 0 18) + (1 : Int32)) - (1 : Int32)) < 0 then (((σ.1 50 0 18) + (1 : Int32)) - (1 : Int32)) else 0)))))) ∧ ((σ.1 50 0 18) = (40 : Int32) → Q (some (.inl (-5 : Int32))) (mo_wI σ 50 0 0 (if (-5 : Int32) < 0 then (-5 : Int32) else 0))))) ∧ (a = b → Q (some (.inl (-4 : Int32))) (mo_wI σ 50 0 0 (if (-4 : Int32) < 0 then (-4 : Int32) else 0))))) ∧ (¬ (0 ≤ b ∧ b ≤ σ.1 50 0 1 - 1) → Q (some (.inl (-2 : Int32))) (mo_wI σ 50 0 0 (if (-2 : Int32) < 0 then (-2 : Int32) else 0))))))) ∧ (¬ (0 ≤ c ∧ c ≤ (10000 : Int32)) → Q (some (.inl (-1 : Int32))) (mo_wI σ 50 0 0 (if (-1 : Int32) < 0 then (-1 : Int32) else 0))))
theorem m_X12_join : ∀ (as : List mo_V) (σ : mo_M) (P P' : mo_Q), (∀ x τ, P x τ → P' x τ) → S_X12_join as σ P → S_X12_join as σ P' := by
  rintro as σ P P' hm ⟨a, b, c, e, hq⟩
  exact ⟨a, b, c, e, ⟨fun c1 => ⟨fun c2 => hm _ _ ((hq.1 c1).1 c2), fun c2 => ⟨fun c3 => ⟨fun c4 => ⟨fun c6 => ⟨(((((hq.1 c1).2 c2).1 c3).1 c4).1 c6).1, ⟨(((((hq.1 c1).2 c2).1 c3).1 c4).1 c6).2.1, ⟨(((((hq.1 c1).2 c2).1 c3).1 c4).1 c6).2.2.1, hm _ _ (((((hq.1 c1).2 c2).1 c3).1 c4).1 c6).2.2.2⟩⟩⟩, fun c6 => hm _ _ (((((hq.1 c1).2 c2).1 c3).1 c4).2 c6)⟩, fun c4 => hm _ _ ((((hq.1 c1).2 c2).1 c3).2 c4)⟩, fun c3 => hm _ _ (((hq.1 c1).2 c2).2 c3)⟩⟩, fun c1 => hm _ _ (hq.2 c1)⟩⟩
def cs_X12_join : Nat → mo_C := fun j => match j with
  | 0 => (4, true, 157, 12, S_X12_pairs)
  | 1 => (2, true, 122, 12, S_X12_ends)
  | _ => (0, false, 0, 50, fun _ _ _ => False)
theorem cs_X12_join_ok (g : mo_E) : ∀ j, mo_cok g t_X12_join (cs_X12_join j) ∧ mo_mon (cs_X12_join j) := by
  intro j
  unfold cs_X12_join
  split
  · exact ⟨mo_cokV ct_X12_pairs (by decide) ⟨_, _, rfl⟩ (by decide +kernel), m_X12_pairs⟩
  · exact ⟨mo_cokV ct_X12_ends (by decide) ⟨_, _, rfl⟩ (by decide +kernel), m_X12_ends⟩
  · exact ⟨mo_cok0 g _, mo_mon0⟩
set_option maxRecDepth 20000 in
set_option maxHeartbeats 2000000 in
theorem ct_X12_join : mo_ct yX12_join t_X12_join S_X12_join := by
  refine mo_ct_of (by decide) rfl ?_
  rintro g as σ Q ⟨a, b, c, rfl, hQ⟩
  refine ⟨Nat.le_of_ble_eq_true rfl, mo_go ok_X12_join (cs_X12_join_ok g) [] 52 ?_⟩
  intro K hK
  refine Exists.intro a (Exists.intro b (Exists.intro c (And.intro rfl ?_)))
  refine And.intro (fun (c1 : 0 ≤ c ∧ c ≤ (10000 : Int32)) => ?_) (fun (c1 : ¬ (0 ≤ c ∧ c ≤ (10000 : Int32))) => ?_)
  · refine And.intro (fun (c2 : ¬ (0 ≤ a ∧ a ≤ σ.1 50 0 1 - 1)) => ?_) (fun (c2 : 0 ≤ a ∧ a ≤ σ.1 50 0 1 - 1) => ?_)
    · refine And.intro (fun (c3 : 0 ≤ (-2 : Int32)) => ?_) (fun (c3 : ¬ 0 ≤ (-2 : Int32)) => ?_)
      · exact absurd c3 (by decide)
      · refine Exists.intro (-2 : Int32) (And.intro rfl (And.intro trivial ?_))
        exact ((hQ.1 c1).1 c2)
    · refine And.intro (fun (c3 : 0 ≤ b ∧ b ≤ σ.1 50 0 1 - 1) => ?_) (fun (c3 : ¬ (0 ≤ b ∧ b ≤ σ.1 50 0 1 - 1)) => ?_)
      · refine And.intro (fun (c4 : ¬ a = b) => ?_) (fun (c4 : a = b) => ?_)
        · refine And.intro (fun (c5 : 0 ≤ (0 : Int32)) => ?_) (fun (c5 : ¬ 0 ≤ (0 : Int32)) => ?_)
          · refine And.intro (fun (c6 : ¬ (σ.1 50 0 18) = (40 : Int32)) => ?_) (fun (c6 : (σ.1 50 0 18) = (40 : Int32)) => ?_)
            · refine And.intro (show vp_in (σ.1 50 0 18) 40 from (((((hQ.1 c1).2 c2).1 c3).1 c4).1 c6).1) ?_
              refine And.intro (show vp_in (σ.1 50 0 18) 40 from (((((hQ.1 c1).2 c2).1 c3).1 c4).1 c6).2.1) ?_
              refine And.intro (show vp_in (σ.1 50 0 18) 40 from (((((hQ.1 c1).2 c2).1 c3).1 c4).1 c6).2.2.1) ?_
              refine Exists.intro (((σ.1 50 0 18) + (1 : Int32)) - (1 : Int32)) (And.intro rfl (And.intro trivial ?_))
              exact (((((hQ.1 c1).2 c2).1 c3).1 c4).1 c6).2.2.2
            · refine Exists.intro (-5 : Int32) (And.intro rfl (And.intro trivial ?_))
              exact (((((hQ.1 c1).2 c2).1 c3).1 c4).2 c6)
          · exact absurd c5 (by decide)
        · refine And.intro (fun (c5 : 0 ≤ (-4 : Int32)) => ?_) (fun (c5 : ¬ 0 ≤ (-4 : Int32)) => ?_)
          · exact absurd c5 (by decide)
          · refine Exists.intro (-4 : Int32) (And.intro rfl (And.intro trivial ?_))
            exact ((((hQ.1 c1).2 c2).1 c3).2 c4)
      · refine And.intro (fun (c4 : 0 ≤ (-2 : Int32)) => ?_) (fun (c4 : ¬ 0 ≤ (-2 : Int32)) => ?_)
        · exact absurd c4 (by decide)
        · refine Exists.intro (-2 : Int32) (And.intro rfl (And.intro trivial ?_))
          exact (((hQ.1 c1).2 c2).2 c3)
  · refine And.intro (fun (c2 : 0 ≤ (-1 : Int32)) => ?_) (fun (c2 : ¬ 0 ≤ (-1 : Int32)) => ?_)
    · exact absurd c2 (by decide)
    · refine Exists.intro (-1 : Int32) (And.intro rfl (And.intro trivial ?_))
      exact (hQ.2 c1)
def S_X12_unlike : mo_S := fun as σ Q => ∃ a : Int32, ∃ b : Int32, ∃ c : Int32, as = [.inr (.inr (50, 0)), .inl a, .inl b, .inl c] ∧ ((0 ≤ c ∧ c ≤ (10000 : Int32) → ((¬ (0 ≤ a ∧ a ≤ σ.1 50 0 1 - 1) → Q (some (.inl (-2 : Int32))) (mo_wI σ 50 0 0 (if (-2 : Int32) < 0 then (-2 : Int32) else 0))) ∧ (0 ≤ a ∧ a ≤ σ.1 50 0 1 - 1 → ((0 ≤ b ∧ b ≤ σ.1 50 0 1 - 1 → ((¬ a = b → ((¬ (σ.1 50 0 19) = (40 : Int32) → (vp_in (σ.1 50 0 19) 40 ∧ (vp_in (σ.1 50 0 19) 40 ∧ (vp_in (σ.1 50 0 19) 40 ∧ Q (some (.inl (((σ.1 50 0 19) + (1 : Int32))))) (mo_wI (mo_wI (mo_wI (mo_wI (mo_wI σ 68 0 ((σ.1 50 0 19).toNatClampNeg) a) 69 0 ((σ.1 50 0 19).toNatClampNeg) b) 70 0 ((σ.1 50 0 19).toNatClampNeg) c) 50 0 19 ((σ.1 50 0 19) + (1 : Int32))) 50 0 0 (if ((σ.1 50 0 19) + (1 : Int32)) < 0 then ((σ.1 50 0 19) + (1 : Int32)) else 0)))))) ∧ ((σ.1 50 0 19) = (40 : Int32) → Q (some (.inl (-5 : Int32))) (mo_wI σ 50 0 0 (if (-5 : Int32) < 0 then (-5 : Int32) else 0))))) ∧ (a = b → Q (some (.inl (-4 : Int32))) (mo_wI σ 50 0 0 (if (-4 : Int32) < 0 then (-4 : Int32) else 0))))) ∧ (¬ (0 ≤ b ∧ b ≤ σ.1 50 0 1 - 1) → Q (some (.inl (-2 : Int32))) (mo_wI σ 50 0 0 (if (-2 : Int32) < 0 then (-2 : Int32) else 0))))))) ∧ (¬ (0 ≤ c ∧ c ≤ (10000 : Int32)) → Q (some (.inl (-1 : Int32))) (mo_wI σ 50 0 0 (if (-1 : Int32) < 0 then (-1 : Int32) else 0))))
theorem m_X12_unlike : ∀ (as : List mo_V) (σ : mo_M) (P P' : mo_Q), (∀ x τ, P x τ → P' x τ) → S_X12_unlike as σ P → S_X12_unlike as σ P' := by
  rintro as σ P P' hm ⟨a, b, c, e, hq⟩
  exact ⟨a, b, c, e, ⟨fun c1 => ⟨fun c2 => hm _ _ ((hq.1 c1).1 c2), fun c2 => ⟨fun c3 => ⟨fun c4 => ⟨fun c6 => ⟨(((((hq.1 c1).2 c2).1 c3).1 c4).1 c6).1, ⟨(((((hq.1 c1).2 c2).1 c3).1 c4).1 c6).2.1, ⟨(((((hq.1 c1).2 c2).1 c3).1 c4).1 c6).2.2.1, hm _ _ (((((hq.1 c1).2 c2).1 c3).1 c4).1 c6).2.2.2⟩⟩⟩, fun c6 => hm _ _ (((((hq.1 c1).2 c2).1 c3).1 c4).2 c6)⟩, fun c4 => hm _ _ ((((hq.1 c1).2 c2).1 c3).2 c4)⟩, fun c3 => hm _ _ (((hq.1 c1).2 c2).2 c3)⟩⟩, fun c1 => hm _ _ (hq.2 c1)⟩⟩
def cs_X12_unlike : Nat → mo_C := fun j => match j with
  | 0 => (4, true, 157, 12, S_X12_pairs)
  | 1 => (2, true, 122, 12, S_X12_ends)
  | _ => (0, false, 0, 50, fun _ _ _ => False)
theorem cs_X12_unlike_ok (g : mo_E) : ∀ j, mo_cok g t_X12_unlike (cs_X12_unlike j) ∧ mo_mon (cs_X12_unlike j) := by
  intro j
  unfold cs_X12_unlike
  split
  · exact ⟨mo_cokV ct_X12_pairs (by decide) ⟨_, _, rfl⟩ (by decide +kernel), m_X12_pairs⟩
  · exact ⟨mo_cokV ct_X12_ends (by decide) ⟨_, _, rfl⟩ (by decide +kernel), m_X12_ends⟩
  · exact ⟨mo_cok0 g _, mo_mon0⟩
set_option maxRecDepth 20000 in
set_option maxHeartbeats 2000000 in
theorem ct_X12_unlike : mo_ct yX12_unlike t_X12_unlike S_X12_unlike := by
  refine mo_ct_of (by decide) rfl ?_
  rintro g as σ Q ⟨a, b, c, rfl, hQ⟩
  refine ⟨Nat.le_of_ble_eq_true rfl, mo_go ok_X12_unlike (cs_X12_unlike_ok g) [] 50 ?_⟩
  intro K hK
  refine Exists.intro a (Exists.intro b (Exists.intro c (And.intro rfl ?_)))
  refine And.intro (fun (c1 : 0 ≤ c ∧ c ≤ (10000 : Int32)) => ?_) (fun (c1 : ¬ (0 ≤ c ∧ c ≤ (10000 : Int32))) => ?_)
  · refine And.intro (fun (c2 : ¬ (0 ≤ a ∧ a ≤ σ.1 50 0 1 - 1)) => ?_) (fun (c2 : 0 ≤ a ∧ a ≤ σ.1 50 0 1 - 1) => ?_)
    · refine And.intro (fun (c3 : 0 ≤ (-2 : Int32)) => ?_) (fun (c3 : ¬ 0 ≤ (-2 : Int32)) => ?_)
      · exact absurd c3 (by decide)
      · refine Exists.intro (-2 : Int32) (And.intro rfl (And.intro trivial ?_))
        exact ((hQ.1 c1).1 c2)
    · refine And.intro (fun (c3 : 0 ≤ b ∧ b ≤ σ.1 50 0 1 - 1) => ?_) (fun (c3 : ¬ (0 ≤ b ∧ b ≤ σ.1 50 0 1 - 1)) => ?_)
      · refine And.intro (fun (c4 : ¬ a = b) => ?_) (fun (c4 : a = b) => ?_)
        · refine And.intro (fun (c5 : 0 ≤ (0 : Int32)) => ?_) (fun (c5 : ¬ 0 ≤ (0 : Int32)) => ?_)
          · refine And.intro (fun (c6 : ¬ (σ.1 50 0 19) = (40 : Int32)) => ?_) (fun (c6 : (σ.1 50 0 19) = (40 : Int32)) => ?_)
            · refine And.intro (show vp_in (σ.1 50 0 19) 40 from (((((hQ.1 c1).2 c2).1 c3).1 c4).1 c6).1) ?_
              refine And.intro (show vp_in (σ.1 50 0 19) 40 from (((((hQ.1 c1).2 c2).1 c3).1 c4).1 c6).2.1) ?_
              refine And.intro (show vp_in (σ.1 50 0 19) 40 from (((((hQ.1 c1).2 c2).1 c3).1 c4).1 c6).2.2.1) ?_
              refine Exists.intro ((σ.1 50 0 19) + (1 : Int32)) (And.intro rfl (And.intro trivial ?_))
              exact (((((hQ.1 c1).2 c2).1 c3).1 c4).1 c6).2.2.2
            · refine Exists.intro (-5 : Int32) (And.intro rfl (And.intro trivial ?_))
              exact (((((hQ.1 c1).2 c2).1 c3).1 c4).2 c6)
          · exact absurd c5 (by decide)
        · refine And.intro (fun (c5 : 0 ≤ (-4 : Int32)) => ?_) (fun (c5 : ¬ 0 ≤ (-4 : Int32)) => ?_)
          · exact absurd c5 (by decide)
          · refine Exists.intro (-4 : Int32) (And.intro rfl (And.intro trivial ?_))
            exact ((((hQ.1 c1).2 c2).1 c3).2 c4)
      · refine And.intro (fun (c4 : 0 ≤ (-2 : Int32)) => ?_) (fun (c4 : ¬ 0 ≤ (-2 : Int32)) => ?_)
        · exact absurd c4 (by decide)
        · refine Exists.intro (-2 : Int32) (And.intro rfl (And.intro trivial ?_))
          exact (((hQ.1 c1).2 c2).2 c3)
  · refine And.intro (fun (c2 : 0 ≤ (-1 : Int32)) => ?_) (fun (c2 : ¬ 0 ≤ (-1 : Int32)) => ?_)
    · exact absurd c2 (by decide)
    · refine Exists.intro (-1 : Int32) (And.intro rfl (And.intro trivial ?_))
      exact (hQ.2 c1)
def S_X12_told : mo_S := fun as σ Q => ∃ a : Int32, as = [.inr (.inr (50, 0)), .inl a] ∧ ((¬ (0 ≤ a ∧ a ≤ σ.1 50 0 36 - 1) → Q (some (.inl (0 : Int32))) (σ)) ∧ (0 ≤ a ∧ a ≤ σ.1 50 0 36 - 1 → (vp_in a 20 ∧ Q (some (.inl (σ.1 78 0 a.toNatClampNeg))) (σ))))
theorem m_X12_told : ∀ (as : List mo_V) (σ : mo_M) (P P' : mo_Q), (∀ x τ, P x τ → P' x τ) → S_X12_told as σ P → S_X12_told as σ P' := by
  rintro as σ P P' hm ⟨a, e, hq⟩
  exact ⟨a, e, ⟨fun c1 => hm _ _ (hq.1 c1), fun c1 => ⟨(hq.2 c1).1, hm _ _ (hq.2 c1).2⟩⟩⟩
def cs_X12_told : Nat → mo_C := fun j => match j with
  | 0 => (2, true, 249, 12, S_X12_isWarning)
  | _ => (0, false, 0, 50, fun _ _ _ => False)
theorem cs_X12_told_ok (g : mo_E) : ∀ j, mo_cok g t_X12_told (cs_X12_told j) ∧ mo_mon (cs_X12_told j) := by
  intro j
  unfold cs_X12_told
  split
  · exact ⟨mo_cokV ct_X12_isWarning (by decide) ⟨_, _, rfl⟩ (by decide +kernel), m_X12_isWarning⟩
  · exact ⟨mo_cok0 g _, mo_mon0⟩
set_option maxRecDepth 20000 in
set_option maxHeartbeats 2000000 in
theorem ct_X12_told : mo_ct yX12_told t_X12_told S_X12_told := by
  refine mo_ct_of (by decide) rfl ?_
  rintro g as σ Q ⟨a, rfl, hQ⟩
  refine ⟨Nat.le_of_ble_eq_true rfl, mo_go ok_X12_told (cs_X12_told_ok g) [] 12 ?_⟩
  intro K hK
  refine Exists.intro a (And.intro rfl (And.intro trivial ?_))
  refine And.intro (fun (c1 : (mo_bl (0 ≤ a ∧ a ≤ σ.1 50 0 36 - 1)) = 0) => ?_) (fun (c1 : ¬ (mo_bl (0 ≤ a ∧ a ≤ σ.1 50 0 36 - 1)) = 0) => ?_)
  · replace c1 : ¬ (0 ≤ a ∧ a ≤ σ.1 50 0 36 - 1) := mo_bl0.mp c1
    exact (hQ.1 c1)
  · replace c1 : 0 ≤ a ∧ a ≤ σ.1 50 0 36 - 1 := mo_blT c1
    refine And.intro (show vp_in a 20 from (hQ.2 c1).1) ?_
    exact (hQ.2 c1).2
def S_X12_faults : mo_S := fun as σ Q => as = [.inr (.inr (50, 0))] ∧ ((¬ (σ.1 50 0 35 = (-1 : Int32)) → Q (none) (σ)) ∧ (σ.1 50 0 35 = (-1 : Int32) → Q (none) (mo_wI σ 50 0 35 (σ.1 50 0 32))))
theorem m_X12_faults : ∀ (as : List mo_V) (σ : mo_M) (P P' : mo_Q), (∀ x τ, P x τ → P' x τ) → S_X12_faults as σ P → S_X12_faults as σ P' := by
  rintro as σ P P' hm ⟨e, hq⟩
  exact ⟨e, ⟨fun c1 => hm _ _ (hq.1 c1), fun c1 => hm _ _ (hq.2 c1)⟩⟩
def cs_X12_faults : Nat → mo_C := fun j => match j with
  | 0 => (1, true, 198, 12, S_X12_good)
  | _ => (0, false, 0, 50, fun _ _ _ => False)
theorem cs_X12_faults_ok (g : mo_E) : ∀ j, mo_cok g t_X12_faults (cs_X12_faults j) ∧ mo_mon (cs_X12_faults j) := by
  intro j
  unfold cs_X12_faults
  split
  · exact ⟨mo_cokV ct_X12_good (by decide) ⟨_, _, rfl⟩ (by decide +kernel), m_X12_good⟩
  · exact ⟨mo_cok0 g _, mo_mon0⟩
set_option maxRecDepth 20000 in
set_option maxHeartbeats 2000000 in
theorem ct_X12_faults : mo_ct yX12_faults t_X12_faults S_X12_faults := by
  refine mo_ct_of (by decide) rfl ?_
  rintro g as σ Q ⟨rfl, hQ⟩
  refine ⟨Nat.le_of_ble_eq_true rfl, mo_go ok_X12_faults (cs_X12_faults_ok g) [] 9 ?_⟩
  intro K hK
  refine And.intro rfl (And.intro trivial ?_)
  refine And.intro (fun (c1 : (mo_bl (σ.1 50 0 35 = (-1 : Int32))) = 0) => ?_) (fun (c1 : ¬ (mo_bl (σ.1 50 0 35 = (-1 : Int32))) = 0) => ?_)
  · replace c1 : ¬ (σ.1 50 0 35 = (-1 : Int32)) := mo_bl0.mp c1
    exact (hQ.1 c1)
  · replace c1 : σ.1 50 0 35 = (-1 : Int32) := mo_blT c1
    exact (hQ.2 c1)
def S_X12_puts : mo_S := fun as σ Q => ∃ a : Int32, ∃ b : Int32, as = [.inr (.inr (50, 0)), .inl a, .inl b] ∧ ((σ.1 50 0 35 = (-1 : Int32) → (vp_in (((30 : Int32) * (σ.1 50 0 36)) + (σ.1 50 0 43)) 600 ∧ (vp_in (((30 : Int32) * (σ.1 50 0 36)) + (σ.1 50 0 43)) 600 ∧ (vp_in (((30 : Int32) * (σ.1 50 0 36)) + (σ.1 50 0 43)) 600 ∧ Q (none) (mo_wI (mo_wI (mo_wI (mo_wI σ 75 0 ((((30 : Int32) * (σ.1 50 0 36)) + (σ.1 50 0 43)).toNatClampNeg) a) 76 0 ((((30 : Int32) * (σ.1 50 0 36)) + (σ.1 50 0 43)).toNatClampNeg) b) 77 0 ((((30 : Int32) * (σ.1 50 0 36)) + (σ.1 50 0 43)).toNatClampNeg) (σ.1 50 0 44)) 50 0 43 ((σ.1 50 0 43) + (1 : Int32))))))) ∧ (¬ (σ.1 50 0 35 = (-1 : Int32)) → Q (none) (σ)))
theorem m_X12_puts : ∀ (as : List mo_V) (σ : mo_M) (P P' : mo_Q), (∀ x τ, P x τ → P' x τ) → S_X12_puts as σ P → S_X12_puts as σ P' := by
  rintro as σ P P' hm ⟨a, b, e, hq⟩
  exact ⟨a, b, e, ⟨fun c1 => ⟨(hq.1 c1).1, ⟨(hq.1 c1).2.1, ⟨(hq.1 c1).2.2.1, hm _ _ (hq.1 c1).2.2.2⟩⟩⟩, fun c1 => hm _ _ (hq.2 c1)⟩⟩
def cs_X12_puts : Nat → mo_C := fun j => match j with
  | 0 => (1, true, 198, 12, S_X12_good)
  | _ => (0, false, 0, 50, fun _ _ _ => False)
theorem cs_X12_puts_ok (g : mo_E) : ∀ j, mo_cok g t_X12_puts (cs_X12_puts j) ∧ mo_mon (cs_X12_puts j) := by
  intro j
  unfold cs_X12_puts
  split
  · exact ⟨mo_cokV ct_X12_good (by decide) ⟨_, _, rfl⟩ (by decide +kernel), m_X12_good⟩
  · exact ⟨mo_cok0 g _, mo_mon0⟩
set_option maxRecDepth 20000 in
set_option maxHeartbeats 2000000 in
theorem ct_X12_puts : mo_ct yX12_puts t_X12_puts S_X12_puts := by
  refine mo_ct_of (by decide) rfl ?_
  rintro g as σ Q ⟨a, b, rfl, hQ⟩
  refine ⟨Nat.le_of_ble_eq_true rfl, mo_go ok_X12_puts (cs_X12_puts_ok g) [] 36 ?_⟩
  intro K hK
  refine And.intro rfl (And.intro trivial ?_)
  refine And.intro (fun (c1 : ¬ (mo_bl (σ.1 50 0 35 = (-1 : Int32))) = 0) => ?_) (fun (c1 : (mo_bl (σ.1 50 0 35 = (-1 : Int32))) = 0) => ?_)
  · replace c1 : σ.1 50 0 35 = (-1 : Int32) := mo_blT c1
    refine And.intro (show vp_in (((30 : Int32) * (σ.1 50 0 36)) + (σ.1 50 0 43)) 600 from (hQ.1 c1).1) ?_
    refine And.intro (show vp_in (((30 : Int32) * (σ.1 50 0 36)) + (σ.1 50 0 43)) 600 from (hQ.1 c1).2.1) ?_
    refine And.intro (show vp_in (((30 : Int32) * (σ.1 50 0 36)) + (σ.1 50 0 43)) 600 from (hQ.1 c1).2.2.1) ?_
    exact (hQ.1 c1).2.2.2
  · replace c1 : ¬ (σ.1 50 0 35 = (-1 : Int32)) := mo_bl0.mp c1
    exact (hQ.2 c1)
def S_X7_kindAt : mo_S := fun as σ Q => ∃ a : Int32, as = [.inr (.inr (32, 0)), .inl a] ∧ ((a < (σ.1 30 0 1) → (vp_in a 200 ∧ (((σ.1 31 0 a.toNatClampNeg) < (97 : Int32) → (((σ.1 31 0 a.toNatClampNeg) < (48 : Int32) → Q (some (.inl (3 : Int32))) (σ)) ∧ (¬ (σ.1 31 0 a.toNatClampNeg) < (48 : Int32) → (((57 : Int32) < (σ.1 31 0 a.toNatClampNeg) → Q (some (.inl (3 : Int32))) (σ)) ∧ (¬ (57 : Int32) < (σ.1 31 0 a.toNatClampNeg) → Q (some (.inl (2 : Int32))) (σ)))))) ∧ (¬ (σ.1 31 0 a.toNatClampNeg) < (97 : Int32) → (((122 : Int32) < (σ.1 31 0 a.toNatClampNeg) → (((σ.1 31 0 a.toNatClampNeg) < (48 : Int32) → Q (some (.inl (3 : Int32))) (σ)) ∧ (¬ (σ.1 31 0 a.toNatClampNeg) < (48 : Int32) → (((57 : Int32) < (σ.1 31 0 a.toNatClampNeg) → Q (some (.inl (3 : Int32))) (σ)) ∧ (¬ (57 : Int32) < (σ.1 31 0 a.toNatClampNeg) → Q (some (.inl (2 : Int32))) (σ)))))) ∧ (¬ (122 : Int32) < (σ.1 31 0 a.toNatClampNeg) → Q (some (.inl (1 : Int32))) (σ))))))) ∧ (¬ a < (σ.1 30 0 1) → Q (some (.inl (0 : Int32))) (σ)))
theorem m_X7_kindAt : ∀ (as : List mo_V) (σ : mo_M) (P P' : mo_Q), (∀ x τ, P x τ → P' x τ) → S_X7_kindAt as σ P → S_X7_kindAt as σ P' := by
  rintro as σ P P' hm ⟨a, e, hq⟩
  exact ⟨a, e, ⟨fun c1 => ⟨(hq.1 c1).1, ⟨fun c2 => ⟨fun c3 => hm _ _ (((hq.1 c1).2.1 c2).1 c3), fun c3 => ⟨fun c4 => hm _ _ ((((hq.1 c1).2.1 c2).2 c3).1 c4), fun c4 => hm _ _ ((((hq.1 c1).2.1 c2).2 c3).2 c4)⟩⟩, fun c2 => ⟨fun c3 => ⟨fun c4 => hm _ _ ((((hq.1 c1).2.2 c2).1 c3).1 c4), fun c4 => ⟨fun c5 => hm _ _ (((((hq.1 c1).2.2 c2).1 c3).2 c4).1 c5), fun c5 => hm _ _ (((((hq.1 c1).2.2 c2).1 c3).2 c4).2 c5)⟩⟩, fun c3 => hm _ _ (((hq.1 c1).2.2 c2).2 c3)⟩⟩⟩, fun c1 => hm _ _ (hq.2 c1)⟩⟩
set_option maxRecDepth 20000 in
set_option maxHeartbeats 2000000 in
theorem ct_X7_kindAt : mo_ct yX7_kindAt t_X7_kindAt S_X7_kindAt := by
  refine mo_ct_of (by decide) rfl ?_
  rintro g as σ Q ⟨a, rfl, hQ⟩
  refine ⟨Nat.le_of_ble_eq_true rfl, mo_go ok_X7_kindAt (mo_no_ok g _) [] 32 ?_⟩
  intro K hK
  refine And.intro (fun (c1 : a < (σ.1 30 0 1)) => ?_) (fun (c1 : ¬ a < (σ.1 30 0 1)) => ?_)
  · refine And.intro (show vp_in a 200 from (hQ.1 c1).1) ?_
    refine And.intro (fun (c2 : (σ.1 31 0 a.toNatClampNeg) < (97 : Int32)) => ?_) (fun (c2 : ¬ (σ.1 31 0 a.toNatClampNeg) < (97 : Int32)) => ?_)
    · refine And.intro (fun (c3 : (σ.1 31 0 a.toNatClampNeg) < (48 : Int32)) => ?_) (fun (c3 : ¬ (σ.1 31 0 a.toNatClampNeg) < (48 : Int32)) => ?_)
      · exact (((hQ.1 c1).2.1 c2).1 c3)
      · refine And.intro (fun (c4 : (57 : Int32) < (σ.1 31 0 a.toNatClampNeg)) => ?_) (fun (c4 : ¬ (57 : Int32) < (σ.1 31 0 a.toNatClampNeg)) => ?_)
        · exact ((((hQ.1 c1).2.1 c2).2 c3).1 c4)
        · exact ((((hQ.1 c1).2.1 c2).2 c3).2 c4)
    · refine And.intro (fun (c3 : (122 : Int32) < (σ.1 31 0 a.toNatClampNeg)) => ?_) (fun (c3 : ¬ (122 : Int32) < (σ.1 31 0 a.toNatClampNeg)) => ?_)
      · refine And.intro (fun (c4 : (σ.1 31 0 a.toNatClampNeg) < (48 : Int32)) => ?_) (fun (c4 : ¬ (σ.1 31 0 a.toNatClampNeg) < (48 : Int32)) => ?_)
        · exact ((((hQ.1 c1).2.2 c2).1 c3).1 c4)
        · refine And.intro (fun (c5 : (57 : Int32) < (σ.1 31 0 a.toNatClampNeg)) => ?_) (fun (c5 : ¬ (57 : Int32) < (σ.1 31 0 a.toNatClampNeg)) => ?_)
          · exact (((((hQ.1 c1).2.2 c2).1 c3).2 c4).1 c5)
          · exact (((((hQ.1 c1).2.2 c2).1 c3).2 c4).2 c5)
      · exact (((hQ.1 c1).2.2 c2).2 c3)
  · exact (hQ.2 c1)
def S_X9_openTerm : mo_S := fun as σ Q => ∃ w : Nat, as = [.inr (.inr (39, w))] ∧ (w < 20 ∧ (((30 : Int32) ≤ (σ.1 39 w 2) → Q (none) (σ)) ∧ (¬ (30 : Int32) ≤ (σ.1 39 w 2) → (w < 20 ∧ (w < 20 ∧ (w < 20 ∧ (vp_in (σ.1 39 w 2) 30 ∧ (w < 20 ∧ (w < 20 ∧ (w < 20 ∧ (vp_in (σ.1 39 w 2) 30 ∧ (w < 20 ∧ (w < 20 ∧ Q (none) (mo_wI (mo_wI (mo_wI σ 40 w ((σ.1 39 w 2).toNatClampNeg) (0 : Int32)) 41 w ((σ.1 39 w 2).toNatClampNeg) (999999999 : Int32)) 39 w 2 ((σ.1 39 w 2) + (1 : Int32))))))))))))))))
theorem m_X9_openTerm : ∀ (as : List mo_V) (σ : mo_M) (P P' : mo_Q), (∀ x τ, P x τ → P' x τ) → S_X9_openTerm as σ P → S_X9_openTerm as σ P' := by
  rintro as σ P P' hm ⟨w, e, hq⟩
  exact ⟨w, e, ⟨hq.1, ⟨fun c1 => hm _ _ (hq.2.1 c1), fun c1 => ⟨(hq.2.2 c1).1, ⟨(hq.2.2 c1).2.1, ⟨(hq.2.2 c1).2.2.1, ⟨(hq.2.2 c1).2.2.2.1, ⟨(hq.2.2 c1).2.2.2.2.1, ⟨(hq.2.2 c1).2.2.2.2.2.1, ⟨(hq.2.2 c1).2.2.2.2.2.2.1, ⟨(hq.2.2 c1).2.2.2.2.2.2.2.1, ⟨(hq.2.2 c1).2.2.2.2.2.2.2.2.1, ⟨(hq.2.2 c1).2.2.2.2.2.2.2.2.2.1, hm _ _ (hq.2.2 c1).2.2.2.2.2.2.2.2.2.2⟩⟩⟩⟩⟩⟩⟩⟩⟩⟩⟩⟩⟩
set_option maxRecDepth 20000 in
set_option maxHeartbeats 2000000 in
theorem ct_X9_openTerm : mo_ct yX9_openTerm t_X9_openTerm S_X9_openTerm := by
  refine mo_ct_of (by decide) rfl ?_
  rintro g as σ Q ⟨w, rfl, hQ⟩
  refine ⟨Nat.le_of_ble_eq_true rfl, mo_go ok_X9_openTerm (mo_no_ok g _) [] 24 ?_⟩
  intro K hK
  refine And.intro (show w < 20 from hQ.1) ?_
  refine And.intro (fun (c1 : (30 : Int32) ≤ (σ.1 39 w 2)) => ?_) (fun (c1 : ¬ (30 : Int32) ≤ (σ.1 39 w 2)) => ?_)
  · exact (hQ.2.1 c1)
  · refine And.intro (show w < 20 from (hQ.2.2 c1).1) ?_
    refine And.intro (show w < 20 from (hQ.2.2 c1).2.1) ?_
    refine And.intro (show w < 20 from (hQ.2.2 c1).2.2.1) ?_
    refine And.intro (show vp_in (σ.1 39 w 2) 30 from (hQ.2.2 c1).2.2.2.1) ?_
    refine And.intro (show w < 20 from (hQ.2.2 c1).2.2.2.2.1) ?_
    refine And.intro (show w < 20 from (hQ.2.2 c1).2.2.2.2.2.1) ?_
    refine And.intro (show w < 20 from (hQ.2.2 c1).2.2.2.2.2.2.1) ?_
    refine And.intro (show vp_in (σ.1 39 w 2) 30 from (hQ.2.2 c1).2.2.2.2.2.2.2.1) ?_
    refine And.intro (show w < 20 from (hQ.2.2 c1).2.2.2.2.2.2.2.2.1) ?_
    refine And.intro (show w < 20 from (hQ.2.2 c1).2.2.2.2.2.2.2.2.2.1) ?_
    exact (hQ.2.2 c1).2.2.2.2.2.2.2.2.2.2
def S_X9_begin : mo_S := fun as σ Q => ∃ w : Nat, ∃ a : Int32, as = [.inr (.inr (39, w)), .inl a] ∧ (w < 20 ∧ (w < 20 ∧ ((w < 20) ∧ ((w < 20) ∧ (((30 : Int32) ≤ ((mo_wI (mo_wI σ 39 w 3 a) 39 w 2 (0 : Int32)).1 39 w 2) → Q (none) (mo_wI (mo_wI σ 39 w 3 a) 39 w 2 (0 : Int32))) ∧ (¬ (30 : Int32) ≤ ((mo_wI (mo_wI σ 39 w 3 a) 39 w 2 (0 : Int32)).1 39 w 2) → ((w < 20) ∧ ((w < 20) ∧ ((w < 20) ∧ ((vp_in ((mo_wI (mo_wI σ 39 w 3 a) 39 w 2 (0 : Int32)).1 39 w 2) 30) ∧ ((w < 20) ∧ ((w < 20) ∧ ((w < 20) ∧ ((vp_in ((mo_wI (mo_wI σ 39 w 3 a) 39 w 2 (0 : Int32)).1 39 w 2) 30) ∧ ((w < 20) ∧ ((w < 20) ∧ Q (none) (mo_wI (mo_wI (mo_wI (mo_wI (mo_wI σ 39 w 3 a) 39 w 2 (0 : Int32)) 40 w (((mo_wI (mo_wI σ 39 w 3 a) 39 w 2 (0 : Int32)).1 39 w 2).toNatClampNeg) (0 : Int32)) 41 w (((mo_wI (mo_wI σ 39 w 3 a) 39 w 2 (0 : Int32)).1 39 w 2).toNatClampNeg) (999999999 : Int32)) 39 w 2 (((mo_wI (mo_wI σ 39 w 3 a) 39 w 2 (0 : Int32)).1 39 w 2) + (1 : Int32)))))))))))))))))))
theorem m_X9_begin : ∀ (as : List mo_V) (σ : mo_M) (P P' : mo_Q), (∀ x τ, P x τ → P' x τ) → S_X9_begin as σ P → S_X9_begin as σ P' := by
  rintro as σ P P' hm ⟨w, a, e, hq⟩
  exact ⟨w, a, e, ⟨hq.1, ⟨hq.2.1, ⟨hq.2.2.1, ⟨hq.2.2.2.1, ⟨fun c1 => hm _ _ (hq.2.2.2.2.1 c1), fun c1 => ⟨(hq.2.2.2.2.2 c1).1, ⟨(hq.2.2.2.2.2 c1).2.1, ⟨(hq.2.2.2.2.2 c1).2.2.1, ⟨(hq.2.2.2.2.2 c1).2.2.2.1, ⟨(hq.2.2.2.2.2 c1).2.2.2.2.1, ⟨(hq.2.2.2.2.2 c1).2.2.2.2.2.1, ⟨(hq.2.2.2.2.2 c1).2.2.2.2.2.2.1, ⟨(hq.2.2.2.2.2 c1).2.2.2.2.2.2.2.1, ⟨(hq.2.2.2.2.2 c1).2.2.2.2.2.2.2.2.1, ⟨(hq.2.2.2.2.2 c1).2.2.2.2.2.2.2.2.2.1, hm _ _ (hq.2.2.2.2.2 c1).2.2.2.2.2.2.2.2.2.2⟩⟩⟩⟩⟩⟩⟩⟩⟩⟩⟩⟩⟩⟩⟩⟩
def cs_X9_begin : Nat → mo_C := fun j => match j with
  | 0 => (1, true, 28, 9, S_X9_openTerm)
  | _ => (0, false, 0, 50, fun _ _ _ => False)
theorem cs_X9_begin_ok (g : mo_E) : ∀ j, mo_cok g t_X9_begin (cs_X9_begin j) ∧ mo_mon (cs_X9_begin j) := by
  intro j
  unfold cs_X9_begin
  split
  · exact ⟨mo_cokV ct_X9_openTerm (by decide) ⟨_, _, rfl⟩ (by decide +kernel), m_X9_openTerm⟩
  · exact ⟨mo_cok0 g _, mo_mon0⟩
set_option maxRecDepth 20000 in
set_option maxHeartbeats 2000000 in
theorem ct_X9_begin : mo_ct yX9_begin t_X9_begin S_X9_begin := by
  refine mo_ct_of (by decide) rfl ?_
  rintro g as σ Q ⟨w, a, rfl, hQ⟩
  refine ⟨Nat.le_of_ble_eq_true rfl, mo_go ok_X9_begin (cs_X9_begin_ok g) [] 10 ?_⟩
  intro K hK
  refine And.intro (show w < 20 from hQ.1) ?_
  refine And.intro (show w < 20 from hQ.2.1) ?_
  refine And.intro (show w < 20 from hQ.2.2.1) ?_
  refine Exists.intro w (And.intro rfl ?_)
  refine And.intro (show w < 20 from hQ.2.2.2.1) ?_
  refine And.intro (fun (c1 : (30 : Int32) ≤ ((mo_wI (mo_wI σ 39 w 3 a) 39 w 2 (0 : Int32)).1 39 w 2)) => ?_) (fun (c1 : ¬ (30 : Int32) ≤ ((mo_wI (mo_wI σ 39 w 3 a) 39 w 2 (0 : Int32)).1 39 w 2)) => ?_)
  · exact (hQ.2.2.2.2.1 c1)
  · refine And.intro (show w < 20 from (hQ.2.2.2.2.2 c1).1) ?_
    refine And.intro (show w < 20 from (hQ.2.2.2.2.2 c1).2.1) ?_
    refine And.intro (show w < 20 from (hQ.2.2.2.2.2 c1).2.2.1) ?_
    refine And.intro (show vp_in ((mo_wI (mo_wI σ 39 w 3 a) 39 w 2 (0 : Int32)).1 39 w 2) 30 from (hQ.2.2.2.2.2 c1).2.2.2.1) ?_
    refine And.intro (show w < 20 from (hQ.2.2.2.2.2 c1).2.2.2.2.1) ?_
    refine And.intro (show w < 20 from (hQ.2.2.2.2.2 c1).2.2.2.2.2.1) ?_
    refine And.intro (show w < 20 from (hQ.2.2.2.2.2 c1).2.2.2.2.2.2.1) ?_
    refine And.intro (show vp_in ((mo_wI (mo_wI σ 39 w 3 a) 39 w 2 (0 : Int32)).1 39 w 2) 30 from (hQ.2.2.2.2.2 c1).2.2.2.2.2.2.2.1) ?_
    refine And.intro (show w < 20 from (hQ.2.2.2.2.2 c1).2.2.2.2.2.2.2.2.1) ?_
    refine And.intro (show w < 20 from (hQ.2.2.2.2.2 c1).2.2.2.2.2.2.2.2.2.1) ?_
    exact (hQ.2.2.2.2.2 c1).2.2.2.2.2.2.2.2.2.2
