def cs_X12_warning : Nat → mo_C := fun j => match j with
  | 0 => (2, true, 122, 12, S_X12_ends)
  | 1 => (1, true, 205, 12, SN_X12_next)
  | 2 => (2, true, 225, 12, S_X12_isWord)
  | 3 => (1, true, 202, 12, S_X12_faults)
  | 4 => (1, true, 198, 12, S_X12_good)
  | 5 => (2, true, 217, 12, S_X12_number)
  | 6 => (1, true, 239, 12, S_X12_test)
  | _ => (0, false, 0, 50, fun _ _ _ => False)
theorem cs_X12_warning_ok (g : mo_E) : ∀ j, mo_cok g t_X12_warning (cs_X12_warning j) ∧ mo_mon (cs_X12_warning j) := by
  intro j
  unfold cs_X12_warning
  split
  · exact ⟨mo_cokV ct_X12_ends (by decide) ⟨_, _, rfl⟩ (by decide +kernel), m_X12_ends⟩
  · exact ⟨mo_cokV ctN_X12_next (by decide) ⟨_, _, rfl⟩ (by decide +kernel), mN_X12_next⟩
  · exact ⟨mo_cokV ct_X12_isWord (by decide) ⟨_, _, rfl⟩ (by decide +kernel), m_X12_isWord⟩
  · exact ⟨mo_cokV ct_X12_faults (by decide) ⟨_, _, rfl⟩ (by decide +kernel), m_X12_faults⟩
  · exact ⟨mo_cokV ct_X12_good (by decide) ⟨_, _, rfl⟩ (by decide +kernel), m_X12_good⟩
  · exact ⟨mo_cokV ct_X12_number (by decide) ⟨_, _, rfl⟩ (by decide +kernel), m_X12_number⟩
  · exact ⟨mo_cokV ct_X12_test (by decide) ⟨_, _, rfl⟩ (by decide +kernel), m_X12_test⟩
  · exact ⟨mo_cok0 g _, mo_mon0⟩

def BT_X12_warning (p : Int32) (KK : Int32 → mo_M → Prop) (σ : mo_M) (Q : mo_Q) : Prop := ((¬ (σ.1 50 0 35 = (-1 : Int32)) → (((mo_wI σ 50 0 34 (σ.1 50 0 35)).1 50 0 35 = (-1 : Int32) → (vp_in (σ.1 50 0 36) 20 ∧ (vp_in (σ.1 50 0 36) 20 ∧ (vp_in (σ.1 50 0 36) 20 ∧ Q (some (.inl ((((σ.1 50 0 36) + (1 : Int32)) - (1 : Int32))))) (mo_wI (mo_wI (mo_wI (mo_wI (mo_wI (mo_wI σ 50 0 34 (σ.1 50 0 35)) 73 0 ((σ.1 50 0 36).toNatClampNeg) p) 74 0 ((σ.1 50 0 36).toNatClampNeg) (σ.1 50 0 43)) 78 0 ((σ.1 50 0 36).toNatClampNeg) (0 : Int32)) 50 0 36 ((σ.1 50 0 36) + (1 : Int32))) 50 0 0 (if (((σ.1 50 0 36) + (1 : Int32)) - (1 : Int32)) < 0 then (((σ.1 50 0 36) + (1 : Int32)) - (1 : Int32)) else 0)))))) ∧ (¬ ((mo_wI σ 50 0 34 (σ.1 50 0 35)).1 50 0 35 = (-1 : Int32)) → Q (some (.inl (-6 : Int32))) (mo_wI (mo_wI σ 50 0 34 (σ.1 50 0 35)) 50 0 0 (if (-6 : Int32) < 0 then (-6 : Int32) else 0))))) ∧ (σ.1 50 0 35 = (-1 : Int32) → ((mo_mS σ ∧ tk_wok (4545 : Int64)) ∧ ((mo_mwd σ (4545 : Int64) → ((mo_mS σ ∧ tk_wok (591 : Int64)) ∧ ((¬ (mo_mwd σ (591 : Int64)) → ((mo_le (σ.1 50 0 31) 200 ∧ mo_le (σ.1 50 0 33) (σ.1 50 0 31).toNatClampNeg) ∧ (∀ ρ1 : Nat → Int32, (mo_mto σ ρ1 (mo_tS (σ.1 72 0) (mo_mz σ) (σ.1 50 0 33).toNatClampNeg)) → ((mo_mS (mo_rowI σ 50 0 ρ1) ∧ (mo_rowI σ 50 0 ρ1).1 50 0 35 = (-1 : Int32) ∧ mo_le ((mo_rowI σ 50 0 ρ1).1 50 0 43) 30 ∧ vp_in ((mo_rowI σ 50 0 ρ1).1 50 0 36) 20) ∧ (((mo_mtst (mo_rowI σ 50 0 ρ1)).1 ∧ ¬ (mo_rowI σ 50 0 ρ1).1 50 0 43 = (30 : Int32) → (∀ ρ2 : Nat → Int32, (mo_mtp (mo_rowI σ 50 0 ρ1) ρ2 (mo_mtst (mo_rowI σ 50 0 ρ1)).2.1) → KK (p) (mo_rowI (mo_tw (mo_rowI σ 50 0 ρ1) (nI (mo_mtst (mo_rowI σ 50 0 ρ1)).2.2.1) (nI (mo_mtst (mo_rowI σ 50 0 ρ1)).2.2.2)) 50 0 ρ2))) ∧ (¬ ((mo_mtst (mo_rowI σ 50 0 ρ1)).1 ∧ ¬ (mo_rowI σ 50 0 ρ1).1 50 0 43 = (30 : Int32)) → (∀ ρ3 : Nat → Int32, (mo_mfl (mo_rowI σ 50 0 ρ1) ρ3 (mo_mpos (mo_rowI σ 50 0 ρ1))) → KK (p) (mo_rowI (mo_rowI σ 50 0 ρ1) 50 0 ρ3)))))))) ∧ (mo_mwd σ (591 : Int64) → ((mo_le ((mo_wI σ 50 0 44 ((σ.1 50 0 44) + (1 : Int32))).1 50 0 31) 200 ∧ mo_le ((mo_wI σ 50 0 44 ((σ.1 50 0 44) + (1 : Int32))).1 50 0 33) ((mo_wI σ 50 0 44 ((σ.1 50 0 44) + (1 : Int32))).1 50 0 31).toNatClampNeg) ∧ (∀ ρ4 : Nat → Int32, (mo_mto (mo_wI σ 50 0 44 ((σ.1 50 0 44) + (1 : Int32))) ρ4 (mo_tS (σ.1 72 0) (mo_mz (mo_wI σ 50 0 44 ((σ.1 50 0 44) + (1 : Int32)))) ((mo_wI σ 50 0 44 ((σ.1 50 0 44) + (1 : Int32))).1 50 0 33).toNatClampNeg)) → ((mo_mS (mo_rowI (mo_wI σ 50 0 44 ((σ.1 50 0 44) + (1 : Int32))) 50 0 ρ4) ∧ (mo_rowI (mo_wI σ 50 0 44 ((σ.1 50 0 44) + (1 : Int32))) 50 0 ρ4).1 50 0 35 = (-1 : Int32) ∧ mo_le ((mo_rowI (mo_wI σ 50 0 44 ((σ.1 50 0 44) + (1 : Int32))) 50 0 ρ4).1 50 0 43) 30 ∧ vp_in ((mo_rowI (mo_wI σ 50 0 44 ((σ.1 50 0 44) + (1 : Int32))) 50 0 ρ4).1 50 0 36) 20) ∧ (((mo_mtst (mo_rowI (mo_wI σ 50 0 44 ((σ.1 50 0 44) + (1 : Int32))) 50 0 ρ4)).1 ∧ ¬ (mo_rowI (mo_wI σ 50 0 44 ((σ.1 50 0 44) + (1 : Int32))) 50 0 ρ4).1 50 0 43 = (30 : Int32) → (∀ ρ5 : Nat → Int32, (mo_mtp (mo_rowI (mo_wI σ 50 0 44 ((σ.1 50 0 44) + (1 : Int32))) 50 0 ρ4) ρ5 (mo_mtst (mo_rowI (mo_wI σ 50 0 44 ((σ.1 50 0 44) + (1 : Int32))) 50 0 ρ4)).2.1) → KK (p) (mo_rowI (mo_tw (mo_rowI (mo_wI σ 50 0 44 ((σ.1 50 0 44) + (1 : Int32))) 50 0 ρ4) (nI (mo_mtst (mo_rowI (mo_wI σ 50 0 44 ((σ.1 50 0 44) + (1 : Int32))) 50 0 ρ4)).2.2.1) (nI (mo_mtst (mo_rowI (mo_wI σ 50 0 44 ((σ.1 50 0 44) + (1 : Int32))) 50 0 ρ4)).2.2.2)) 50 0 ρ5))) ∧ (¬ ((mo_mtst (mo_rowI (mo_wI σ 50 0 44 ((σ.1 50 0 44) + (1 : Int32))) 50 0 ρ4)).1 ∧ ¬ (mo_rowI (mo_wI σ 50 0 44 ((σ.1 50 0 44) + (1 : Int32))) 50 0 ρ4).1 50 0 43 = (30 : Int32)) → (∀ ρ6 : Nat → Int32, (mo_mfl (mo_rowI (mo_wI σ 50 0 44 ((σ.1 50 0 44) + (1 : Int32))) 50 0 ρ4) ρ6 (mo_mpos (mo_rowI (mo_wI σ 50 0 44 ((σ.1 50 0 44) + (1 : Int32))) 50 0 ρ4))) → KK (p) (mo_rowI (mo_rowI (mo_wI σ 50 0 44 ((σ.1 50 0 44) + (1 : Int32))) 50 0 ρ4) 50 0 ρ6))))))))))) ∧ (¬ (mo_mwd σ (4545 : Int64)) → ((mo_mS σ ∧ tk_wok (591 : Int64)) ∧ ((¬ (mo_mwd σ (591 : Int64)) → (((σ.1 50 0 31) ≤ (σ.1 50 0 32) → (((mo_wI σ 50 0 34 (σ.1 50 0 35)).1 50 0 35 = (-1 : Int32) → (vp_in (σ.1 50 0 36) 20 ∧ (vp_in (σ.1 50 0 36) 20 ∧ (vp_in (σ.1 50 0 36) 20 ∧ Q (some (.inl ((((σ.1 50 0 36) + (1 : Int32)) - (1 : Int32))))) (mo_wI (mo_wI (mo_wI (mo_wI (mo_wI (mo_wI σ 50 0 34 (σ.1 50 0 35)) 73 0 ((σ.1 50 0 36).toNatClampNeg) p) 74 0 ((σ.1 50 0 36).toNatClampNeg) (σ.1 50 0 43)) 78 0 ((σ.1 50 0 36).toNatClampNeg) (0 : Int32)) 50 0 36 ((σ.1 50 0 36) + (1 : Int32))) 50 0 0 (if (((σ.1 50 0 36) + (1 : Int32)) - (1 : Int32)) < 0 then (((σ.1 50 0 36) + (1 : Int32)) - (1 : Int32)) else 0)))))) ∧ (¬ ((mo_wI σ 50 0 34 (σ.1 50 0 35)).1 50 0 35 = (-1 : Int32)) → Q (some (.inl (-6 : Int32))) (mo_wI (mo_wI σ 50 0 34 (σ.1 50 0 35)) 50 0 0 (if (-6 : Int32) < 0 then (-6 : Int32) else 0))))) ∧ (¬ (σ.1 50 0 31) ≤ (σ.1 50 0 32) → ((¬ (σ.1 50 0 35 = (-1 : Int32)) → (((mo_wI σ 50 0 34 (σ.1 50 0 35)).1 50 0 35 = (-1 : Int32) → (vp_in (σ.1 50 0 36) 20 ∧ (vp_in (σ.1 50 0 36) 20 ∧ (vp_in (σ.1 50 0 36) 20 ∧ Q (some (.inl ((((σ.1 50 0 36) + (1 : Int32)) - (1 : Int32))))) (mo_wI (mo_wI (mo_wI (mo_wI (mo_wI (mo_wI σ 50 0 34 (σ.1 50 0 35)) 73 0 ((σ.1 50 0 36).toNatClampNeg) p) 74 0 ((σ.1 50 0 36).toNatClampNeg) (σ.1 50 0 43)) 78 0 ((σ.1 50 0 36).toNatClampNeg) (0 : Int32)) 50 0 36 ((σ.1 50 0 36) + (1 : Int32))) 50 0 0 (if (((σ.1 50 0 36) + (1 : Int32)) - (1 : Int32)) < 0 then (((σ.1 50 0 36) + (1 : Int32)) - (1 : Int32)) else 0)))))) ∧ (¬ ((mo_wI σ 50 0 34 (σ.1 50 0 35)).1 50 0 35 = (-1 : Int32)) → Q (some (.inl (-6 : Int32))) (mo_wI (mo_wI σ 50 0 34 (σ.1 50 0 35)) 50 0 0 (if (-6 : Int32) < 0 then (-6 : Int32) else 0))))) ∧ (σ.1 50 0 35 = (-1 : Int32) → (((mo_wI (mo_wI σ 50 0 35 (σ.1 50 0 32)) 50 0 34 (σ.1 50 0 32)).1 50 0 35 = (-1 : Int32) → (vp_in (σ.1 50 0 36) 20 ∧ (vp_in (σ.1 50 0 36) 20 ∧ (vp_in (σ.1 50 0 36) 20 ∧ Q (some (.inl ((((σ.1 50 0 36) + (1 : Int32)) - (1 : Int32))))) (mo_wI (mo_wI (mo_wI (mo_wI (mo_wI (mo_wI (mo_wI σ 50 0 35 (σ.1 50 0 32)) 50 0 34 (σ.1 50 0 32)) 73 0 ((σ.1 50 0 36).toNatClampNeg) p) 74 0 ((σ.1 50 0 36).toNatClampNeg) (σ.1 50 0 43)) 78 0 ((σ.1 50 0 36).toNatClampNeg) (0 : Int32)) 50 0 36 ((σ.1 50 0 36) + (1 : Int32))) 50 0 0 (if (((σ.1 50 0 36) + (1 : Int32)) - (1 : Int32)) < 0 then (((σ.1 50 0 36) + (1 : Int32)) - (1 : Int32)) else 0)))))) ∧ (¬ ((mo_wI (mo_wI σ 50 0 35 (σ.1 50 0 32)) 50 0 34 (σ.1 50 0 32)).1 50 0 35 = (-1 : Int32)) → Q (some (.inl (-6 : Int32))) (mo_wI (mo_wI (mo_wI σ 50 0 35 (σ.1 50 0 32)) 50 0 34 (σ.1 50 0 32)) 50 0 0 (if (-6 : Int32) < 0 then (-6 : Int32) else 0))))))))) ∧ (mo_mwd σ (591 : Int64) → ((mo_mS σ ∧ tk_wok (591 : Int64)) ∧ ((mo_le ((mo_wI σ 50 0 44 ((σ.1 50 0 44) + (1 : Int32))).1 50 0 31) 200 ∧ mo_le ((mo_wI σ 50 0 44 ((σ.1 50 0 44) + (1 : Int32))).1 50 0 33) ((mo_wI σ 50 0 44 ((σ.1 50 0 44) + (1 : Int32))).1 50 0 31).toNatClampNeg) ∧ (∀ ρ7 : Nat → Int32, (mo_mto (mo_wI σ 50 0 44 ((σ.1 50 0 44) + (1 : Int32))) ρ7 (mo_tS (σ.1 72 0) (mo_mz (mo_wI σ 50 0 44 ((σ.1 50 0 44) + (1 : Int32)))) ((mo_wI σ 50 0 44 ((σ.1 50 0 44) + (1 : Int32))).1 50 0 33).toNatClampNeg)) → ((mo_mS (mo_rowI (mo_wI σ 50 0 44 ((σ.1 50 0 44) + (1 : Int32))) 50 0 ρ7) ∧ (mo_rowI (mo_wI σ 50 0 44 ((σ.1 50 0 44) + (1 : Int32))) 50 0 ρ7).1 50 0 35 = (-1 : Int32) ∧ mo_le ((mo_rowI (mo_wI σ 50 0 44 ((σ.1 50 0 44) + (1 : Int32))) 50 0 ρ7).1 50 0 43) 30 ∧ vp_in ((mo_rowI (mo_wI σ 50 0 44 ((σ.1 50 0 44) + (1 : Int32))) 50 0 ρ7).1 50 0 36) 20) ∧ (((mo_mtst (mo_rowI (mo_wI σ 50 0 44 ((σ.1 50 0 44) + (1 : Int32))) 50 0 ρ7)).1 ∧ ¬ (mo_rowI (mo_wI σ 50 0 44 ((σ.1 50 0 44) + (1 : Int32))) 50 0 ρ7).1 50 0 43 = (30 : Int32) → (∀ ρ8 : Nat → Int32, (mo_mtp (mo_rowI (mo_wI σ 50 0 44 ((σ.1 50 0 44) + (1 : Int32))) 50 0 ρ7) ρ8 (mo_mtst (mo_rowI (mo_wI σ 50 0 44 ((σ.1 50 0 44) + (1 : Int32))) 50 0 ρ7)).2.1) → KK (p) (mo_rowI (mo_tw (mo_rowI (mo_wI σ 50 0 44 ((σ.1 50 0 44) + (1 : Int32))) 50 0 ρ7) (nI (mo_mtst (mo_rowI (mo_wI σ 50 0 44 ((σ.1 50 0 44) + (1 : Int32))) 50 0 ρ7)).2.2.1) (nI (mo_mtst (mo_rowI (mo_wI σ 50 0 44 ((σ.1 50 0 44) + (1 : Int32))) 50 0 ρ7)).2.2.2)) 50 0 ρ8))) ∧ (¬ ((mo_mtst (mo_rowI (mo_wI σ 50 0 44 ((σ.1 50 0 44) + (1 : Int32))) 50 0 ρ7)).1 ∧ ¬ (mo_rowI (mo_wI σ 50 0 44 ((σ.1 50 0 44) + (1 : Int32))) 50 0 ρ7).1 50 0 43 = (30 : Int32)) → (∀ ρ9 : Nat → Int32, (mo_mfl (mo_rowI (mo_wI σ 50 0 44 ((σ.1 50 0 44) + (1 : Int32))) 50 0 ρ7) ρ9 (mo_mpos (mo_rowI (mo_wI σ 50 0 44 ((σ.1 50 0 44) + (1 : Int32))) 50 0 ρ7))) → KK (p) (mo_rowI (mo_rowI (mo_wI σ 50 0 44 ((σ.1 50 0 44) + (1 : Int32))) 50 0 ρ7) 50 0 ρ9))))))))))))))))
set_option maxRecDepth 20000 in
set_option maxHeartbeats 4000000 in
theorem bt_X12_warning (g : mo_E) (p : Int32) (KK : Int32 → mo_M → Prop) (σ : mo_M) (Q : mo_Q) (hB : BT_X12_warning p KK σ Q) (hKK : ∀ j τ, KK j τ → mo_X g t_X12_warning Q 127 [some (.inr (.inr (50, 0))), some (.inl j)] [] τ) : mo_X g t_X12_warning Q 127 [some (.inr (.inr (50, 0))), some (.inl p)] [] σ := by
  refine mo_go ok_X12_warning (cs_X12_warning_ok g) [127] 145 ?_
  intro K hK
  refine And.intro rfl (And.intro trivial ?_)
  refine And.intro (fun (c1 : (mo_bl (σ.1 50 0 35 = (-1 : Int32))) = 0) => ?_) (fun (c1 : ¬ (mo_bl (σ.1 50 0 35 = (-1 : Int32))) = 0) => ?_)
  · replace c1 : ¬ (σ.1 50 0 35 = (-1 : Int32)) := mo_bl0.mp c1
    refine And.intro rfl (And.intro trivial ?_)
    refine And.intro (fun (c2 : (mo_bl (σ.1 50 0 35 = (-1 : Int32))) = 0) => ?_) (fun (c2 : ¬ (mo_bl (σ.1 50 0 35 = (-1 : Int32))) = 0) => ?_)
    · refine And.intro rfl (And.intro trivial ?_)
      refine And.intro (fun (c3 : ¬ (mo_bl ((mo_wI σ 50 0 34 (σ.1 50 0 35)).1 50 0 35 = (-1 : Int32))) = 0) => ?_) (fun (c3 : (mo_bl ((mo_wI σ 50 0 34 (σ.1 50 0 35)).1 50 0 35 = (-1 : Int32))) = 0) => ?_)
      · replace c3 : (mo_wI σ 50 0 34 (σ.1 50 0 35)).1 50 0 35 = (-1 : Int32) := mo_blT c3
        refine And.intro (show vp_in (σ.1 50 0 36) 20 from ((hB.1 c1).1 c3).1) ?_
        refine And.intro (show vp_in (σ.1 50 0 36) 20 from ((hB.1 c1).1 c3).2.1) ?_
        refine And.intro (show vp_in (σ.1 50 0 36) 20 from ((hB.1 c1).1 c3).2.2.1) ?_
        refine Exists.intro (((σ.1 50 0 36) + (1 : Int32)) - (1 : Int32)) (And.intro rfl (And.intro trivial ?_))
        exact ((hB.1 c1).1 c3).2.2.2
      · replace c3 : ¬ ((mo_wI σ 50 0 34 (σ.1 50 0 35)).1 50 0 35 = (-1 : Int32)) := mo_bl0.mp c3
        refine Exists.intro (-6 : Int32) (And.intro rfl (And.intro trivial ?_))
        exact ((hB.1 c1).2 c3)
    · exact absurd (mo_blT c2) c1
  · replace c1 : σ.1 50 0 35 = (-1 : Int32) := mo_blT c1
    refine Exists.intro (4545 : Int64) (And.intro rfl (And.intro (show mo_mS σ ∧ tk_wok (4545 : Int64) from (hB.2 c1).1) ?_))
    refine And.intro (fun (c2 : ¬ (mo_bl (mo_mwd σ (4545 : Int64))) = 0) => ?_) (fun (c2 : (mo_bl (mo_mwd σ (4545 : Int64))) = 0) => ?_)
    · replace c2 : mo_mwd σ (4545 : Int64) := mo_blT c2
      refine Exists.intro (591 : Int64) (And.intro rfl (And.intro (show mo_mS σ ∧ tk_wok (591 : Int64) from ((hB.2 c1).2.1 c2).1) ?_))
      refine And.intro (fun (c3 : (mo_bl (mo_mwd σ (591 : Int64))) = 0) => ?_) (fun (c3 : ¬ (mo_bl (mo_mwd σ (591 : Int64))) = 0) => ?_)
      · replace c3 : ¬ (mo_mwd σ (591 : Int64)) := mo_bl0.mp c3
        refine And.intro rfl ?_
        refine And.intro (show mo_le (σ.1 50 0 31) 200 ∧ mo_le (σ.1 50 0 33) (σ.1 50 0 31).toNatClampNeg from (((hB.2 c1).2.1 c2).2.1 c3).1) ?_
        intro ρ1 hr1
        refine And.intro rfl ?_
        refine And.intro (show mo_mS (mo_rowI σ 50 0 ρ1) ∧ (mo_rowI σ 50 0 ρ1).1 50 0 35 = (-1 : Int32) ∧ mo_le ((mo_rowI σ 50 0 ρ1).1 50 0 43) 30 ∧ vp_in ((mo_rowI σ 50 0 ρ1).1 50 0 36) 20 from ((((hB.2 c1).2.1 c2).2.1 c3).2 ρ1 hr1).1) ?_
        refine And.intro (fun (c4 : (mo_mtst (mo_rowI σ 50 0 ρ1)).1 ∧ ¬ (mo_rowI σ 50 0 ρ1).1 50 0 43 = (30 : Int32)) => ?_) (fun (c4 : ¬ ((mo_mtst (mo_rowI σ 50 0 ρ1)).1 ∧ ¬ (mo_rowI σ 50 0 ρ1).1 50 0 43 = (30 : Int32))) => ?_)
        · intro ρ2 hr2
          exact hK _ _ _ _ (hKK _ _ ((((((hB.2 c1).2.1 c2).2.1 c3).2 ρ1 hr1).2.1 c4) ρ2 hr2))
        · intro ρ3 hr3
          exact hK _ _ _ _ (hKK _ _ ((((((hB.2 c1).2.1 c2).2.1 c3).2 ρ1 hr1).2.2 c4) ρ3 hr3))
      · replace c3 : mo_mwd σ (591 : Int64) := mo_blT c3
        refine And.intro rfl ?_
        refine And.intro (show mo_le ((mo_wI σ 50 0 44 ((σ.1 50 0 44) + (1 : Int32))).1 50 0 31) 200 ∧ mo_le ((mo_wI σ 50 0 44 ((σ.1 50 0 44) + (1 : Int32))).1 50 0 33) ((mo_wI σ 50 0 44 ((σ.1 50 0 44) + (1 : Int32))).1 50 0 31).toNatClampNeg from (((hB.2 c1).2.1 c2).2.2 c3).1) ?_
        intro ρ4 hr4
        refine And.intro rfl ?_
        refine And.intro (show mo_mS (mo_rowI (mo_wI σ 50 0 44 ((σ.1 50 0 44) + (1 : Int32))) 50 0 ρ4) ∧ (mo_rowI (mo_wI σ 50 0 44 ((σ.1 50 0 44) + (1 : Int32))) 50 0 ρ4).1 50 0 35 = (-1 : Int32) ∧ mo_le ((mo_rowI (mo_wI σ 50 0 44 ((σ.1 50 0 44) + (1 : Int32))) 50 0 ρ4).1 50 0 43) 30 ∧ vp_in ((mo_rowI (mo_wI σ 50 0 44 ((σ.1 50 0 44) + (1 : Int32))) 50 0 ρ4).1 50 0 36) 20 from ((((hB.2 c1).2.1 c2).2.2 c3).2 ρ4 hr4).1) ?_
        refine And.intro (fun (c4 : (mo_mtst (mo_rowI (mo_wI σ 50 0 44 ((σ.1 50 0 44) + (1 : Int32))) 50 0 ρ4)).1 ∧ ¬ (mo_rowI (mo_wI σ 50 0 44 ((σ.1 50 0 44) + (1 : Int32))) 50 0 ρ4).1 50 0 43 = (30 : Int32)) => ?_) (fun (c4 : ¬ ((mo_mtst (mo_rowI (mo_wI σ 50 0 44 ((σ.1 50 0 44) + (1 : Int32))) 50 0 ρ4)).1 ∧ ¬ (mo_rowI (mo_wI σ 50 0 44 ((σ.1 50 0 44) + (1 : Int32))) 50 0 ρ4).1 50 0 43 = (30 : Int32))) => ?_)
        · intro ρ5 hr5
          exact hK _ _ _ _ (hKK _ _ ((((((hB.2 c1).2.1 c2).2.2 c3).2 ρ4 hr4).2.1 c4) ρ5 hr5))
        · intro ρ6 hr6
          exact hK _ _ _ _ (hKK _ _ ((((((hB.2 c1).2.1 c2).2.2 c3).2 ρ4 hr4).2.2 c4) ρ6 hr6))
    · replace c2 : ¬ (mo_mwd σ (4545 : Int64)) := mo_bl0.mp c2
      refine Exists.intro (591 : Int64) (And.intro rfl (And.intro (show mo_mS σ ∧ tk_wok (591 : Int64) from ((hB.2 c1).2.2 c2).1) ?_))
      refine And.intro (fun (c3 : (mo_bl (mo_mwd σ (591 : Int64))) = 0) => ?_) (fun (c3 : ¬ (mo_bl (mo_mwd σ (591 : Int64))) = 0) => ?_)
      · replace c3 : ¬ (mo_mwd σ (591 : Int64)) := mo_bl0.mp c3
        refine And.intro rfl (And.intro trivial ?_)
        refine And.intro (fun (c4 : (mo_bl (σ.1 50 0 35 = (-1 : Int32))) = 0) => ?_) (fun (c4 : ¬ (mo_bl (σ.1 50 0 35 = (-1 : Int32))) = 0) => ?_)
        · exact absurd c1 (mo_bl0.mp c4)
        · refine And.intro (fun (c5 : (σ.1 50 0 31) ≤ (σ.1 50 0 32)) => ?_) (fun (c5 : ¬ (σ.1 50 0 31) ≤ (σ.1 50 0 32)) => ?_)
          · refine And.intro rfl (And.intro trivial ?_)
            refine And.intro (fun (c6 : ¬ (mo_bl ((mo_wI σ 50 0 34 (σ.1 50 0 35)).1 50 0 35 = (-1 : Int32))) = 0) => ?_) (fun (c6 : (mo_bl ((mo_wI σ 50 0 34 (σ.1 50 0 35)).1 50 0 35 = (-1 : Int32))) = 0) => ?_)
            · replace c6 : (mo_wI σ 50 0 34 (σ.1 50 0 35)).1 50 0 35 = (-1 : Int32) := mo_blT c6
              refine And.intro (show vp_in (σ.1 50 0 36) 20 from (((((hB.2 c1).2.2 c2).2.1 c3).1 c5).1 c6).1) ?_
              refine And.intro (show vp_in (σ.1 50 0 36) 20 from (((((hB.2 c1).2.2 c2).2.1 c3).1 c5).1 c6).2.1) ?_
              refine And.intro (show vp_in (σ.1 50 0 36) 20 from (((((hB.2 c1).2.2 c2).2.1 c3).1 c5).1 c6).2.2.1) ?_
              refine Exists.intro (((σ.1 50 0 36) + (1 : Int32)) - (1 : Int32)) (And.intro rfl (And.intro trivial ?_))
              exact (((((hB.2 c1).2.2 c2).2.1 c3).1 c5).1 c6).2.2.2
            · replace c6 : ¬ ((mo_wI σ 50 0 34 (σ.1 50 0 35)).1 50 0 35 = (-1 : Int32)) := mo_bl0.mp c6
              refine Exists.intro (-6 : Int32) (And.intro rfl (And.intro trivial ?_))
              exact (((((hB.2 c1).2.2 c2).2.1 c3).1 c5).2 c6)
          · refine And.intro rfl ?_
            refine And.intro (fun (c6 : ¬ (σ.1 50 0 35 = (-1 : Int32))) => ?_) (fun (c6 : σ.1 50 0 35 = (-1 : Int32)) => ?_)
            · refine And.intro rfl (And.intro trivial ?_)
              refine And.intro (fun (c7 : ¬ (mo_bl ((mo_wI σ 50 0 34 (σ.1 50 0 35)).1 50 0 35 = (-1 : Int32))) = 0) => ?_) (fun (c7 : (mo_bl ((mo_wI σ 50 0 34 (σ.1 50 0 35)).1 50 0 35 = (-1 : Int32))) = 0) => ?_)
              · replace c7 : (mo_wI σ 50 0 34 (σ.1 50 0 35)).1 50 0 35 = (-1 : Int32) := mo_blT c7
                refine And.intro (show vp_in (σ.1 50 0 36) 20 from ((((((hB.2 c1).2.2 c2).2.1 c3).2 c5).1 c6).1 c7).1) ?_
                refine And.intro (show vp_in (σ.1 50 0 36) 20 from ((((((hB.2 c1).2.2 c2).2.1 c3).2 c5).1 c6).1 c7).2.1) ?_
                refine And.intro (show vp_in (σ.1 50 0 36) 20 from ((((((hB.2 c1).2.2 c2).2.1 c3).2 c5).1 c6).1 c7).2.2.1) ?_
                refine Exists.intro (((σ.1 50 0 36) + (1 : Int32)) - (1 : Int32)) (And.intro rfl (And.intro trivial ?_))
                exact ((((((hB.2 c1).2.2 c2).2.1 c3).2 c5).1 c6).1 c7).2.2.2
              · replace c7 : ¬ ((mo_wI σ 50 0 34 (σ.1 50 0 35)).1 50 0 35 = (-1 : Int32)) := mo_bl0.mp c7
                refine Exists.intro (-6 : Int32) (And.intro rfl (And.intro trivial ?_))
                exact ((((((hB.2 c1).2.2 c2).2.1 c3).2 c5).1 c6).2 c7)
            · refine And.intro rfl (And.intro trivial ?_)
              refine And.intro (fun (c7 : ¬ (mo_bl ((mo_wI (mo_wI σ 50 0 35 (σ.1 50 0 32)) 50 0 34 (σ.1 50 0 32)).1 50 0 35 = (-1 : Int32))) = 0) => ?_) (fun (c7 : (mo_bl ((mo_wI (mo_wI σ 50 0 35 (σ.1 50 0 32)) 50 0 34 (σ.1 50 0 32)).1 50 0 35 = (-1 : Int32))) = 0) => ?_)
              · replace c7 : (mo_wI (mo_wI σ 50 0 35 (σ.1 50 0 32)) 50 0 34 (σ.1 50 0 32)).1 50 0 35 = (-1 : Int32) := mo_blT c7
                refine And.intro (show vp_in (σ.1 50 0 36) 20 from ((((((hB.2 c1).2.2 c2).2.1 c3).2 c5).2 c6).1 c7).1) ?_
                refine And.intro (show vp_in (σ.1 50 0 36) 20 from ((((((hB.2 c1).2.2 c2).2.1 c3).2 c5).2 c6).1 c7).2.1) ?_
                refine And.intro (show vp_in (σ.1 50 0 36) 20 from ((((((hB.2 c1).2.2 c2).2.1 c3).2 c5).2 c6).1 c7).2.2.1) ?_
                refine Exists.intro (((σ.1 50 0 36) + (1 : Int32)) - (1 : Int32)) (And.intro rfl (And.intro trivial ?_))
                exact ((((((hB.2 c1).2.2 c2).2.1 c3).2 c5).2 c6).1 c7).2.2.2
              · replace c7 : ¬ ((mo_wI (mo_wI σ 50 0 35 (σ.1 50 0 32)) 50 0 34 (σ.1 50 0 32)).1 50 0 35 = (-1 : Int32)) := mo_bl0.mp c7
                refine Exists.intro (-6 : Int32) (And.intro rfl (And.intro trivial ?_))
                exact ((((((hB.2 c1).2.2 c2).2.1 c3).2 c5).2 c6).2 c7)
      · replace c3 : mo_mwd σ (591 : Int64) := mo_blT c3
        refine Exists.intro (591 : Int64) (And.intro rfl (And.intro (show mo_mS σ ∧ tk_wok (591 : Int64) from (((hB.2 c1).2.2 c2).2.2 c3).1) ?_))
        refine And.intro (fun (c4 : (mo_bl (mo_mwd σ (591 : Int64))) = 0) => ?_) (fun (c4 : ¬ (mo_bl (mo_mwd σ (591 : Int64))) = 0) => ?_)
        · exact absurd c3 (mo_bl0.mp c4)
        · refine And.intro rfl ?_
          refine And.intro (show mo_le ((mo_wI σ 50 0 44 ((σ.1 50 0 44) + (1 : Int32))).1 50 0 31) 200 ∧ mo_le ((mo_wI σ 50 0 44 ((σ.1 50 0 44) + (1 : Int32))).1 50 0 33) ((mo_wI σ 50 0 44 ((σ.1 50 0 44) + (1 : Int32))).1 50 0 31).toNatClampNeg from (((hB.2 c1).2.2 c2).2.2 c3).2.1) ?_
          intro ρ7 hr7
          refine And.intro rfl ?_
          refine And.intro (show mo_mS (mo_rowI (mo_wI σ 50 0 44 ((σ.1 50 0 44) + (1 : Int32))) 50 0 ρ7) ∧ (mo_rowI (mo_wI σ 50 0 44 ((σ.1 50 0 44) + (1 : Int32))) 50 0 ρ7).1 50 0 35 = (-1 : Int32) ∧ mo_le ((mo_rowI (mo_wI σ 50 0 44 ((σ.1 50 0 44) + (1 : Int32))) 50 0 ρ7).1 50 0 43) 30 ∧ vp_in ((mo_rowI (mo_wI σ 50 0 44 ((σ.1 50 0 44) + (1 : Int32))) 50 0 ρ7).1 50 0 36) 20 from ((((hB.2 c1).2.2 c2).2.2 c3).2.2 ρ7 hr7).1) ?_
          refine And.intro (fun (c5 : (mo_mtst (mo_rowI (mo_wI σ 50 0 44 ((σ.1 50 0 44) + (1 : Int32))) 50 0 ρ7)).1 ∧ ¬ (mo_rowI (mo_wI σ 50 0 44 ((σ.1 50 0 44) + (1 : Int32))) 50 0 ρ7).1 50 0 43 = (30 : Int32)) => ?_) (fun (c5 : ¬ ((mo_mtst (mo_rowI (mo_wI σ 50 0 44 ((σ.1 50 0 44) + (1 : Int32))) 50 0 ρ7)).1 ∧ ¬ (mo_rowI (mo_wI σ 50 0 44 ((σ.1 50 0 44) + (1 : Int32))) 50 0 ρ7).1 50 0 43 = (30 : Int32))) => ?_)
          · intro ρ8 hr8
            exact hK _ _ _ _ (hKK _ _ ((((((hB.2 c1).2.2 c2).2.2 c3).2.2 ρ7 hr7).2.1 c5) ρ8 hr8))
          · intro ρ9 hr9
            exact hK _ _ _ _ (hKK _ _ ((((((hB.2 c1).2.2 c2).2.2 c3).2.2 ρ7 hr7).2.2 c5) ρ9 hr9))
theorem bm_X12_warning (p : Int32) (KK : Int32 → mo_M → Prop) (σ : mo_M) (P P' : mo_Q) (hm : ∀ x τ, P x τ → P' x τ) (hq : BT_X12_warning p KK σ P) : BT_X12_warning p KK σ P' := ⟨fun c1 => ⟨fun c3 => ⟨((hq.1 c1).1 c3).1, ⟨((hq.1 c1).1 c3).2.1, ⟨((hq.1 c1).1 c3).2.2.1, hm _ _ ((hq.1 c1).1 c3).2.2.2⟩⟩⟩, fun c3 => hm _ _ ((hq.1 c1).2 c3)⟩, fun c1 => ⟨(hq.2 c1).1, ⟨fun c2 => ⟨((hq.2 c1).2.1 c2).1, ⟨fun c3 => ⟨(((hq.2 c1).2.1 c2).2.1 c3).1, fun ρ1 hr1 => ⟨((((hq.2 c1).2.1 c2).2.1 c3).2 ρ1 hr1).1, ⟨fun c4 => fun ρ2 hr2 => ((((((hq.2 c1).2.1 c2).2.1 c3).2 ρ1 hr1).2.1 c4) ρ2 hr2), fun c4 => fun ρ3 hr3 => ((((((hq.2 c1).2.1 c2).2.1 c3).2 ρ1 hr1).2.2 c4) ρ3 hr3)⟩⟩⟩, fun c3 => ⟨(((hq.2 c1).2.1 c2).2.2 c3).1, fun ρ4 hr4 => ⟨((((hq.2 c1).2.1 c2).2.2 c3).2 ρ4 hr4).1, ⟨fun c4 => fun ρ5 hr5 => ((((((hq.2 c1).2.1 c2).2.2 c3).2 ρ4 hr4).2.1 c4) ρ5 hr5), fun c4 => fun ρ6 hr6 => ((((((hq.2 c1).2.1 c2).2.2 c3).2 ρ4 hr4).2.2 c4) ρ6 hr6)⟩⟩⟩⟩⟩, fun c2 => ⟨((hq.2 c1).2.2 c2).1, ⟨fun c3 => ⟨fun c5 => ⟨fun c6 => ⟨(((((hq.2 c1).2.2 c2).2.1 c3).1 c5).1 c6).1, ⟨(((((hq.2 c1).2.2 c2).2.1 c3).1 c5).1 c6).2.1, ⟨(((((hq.2 c1).2.2 c2).2.1 c3).1 c5).1 c6).2.2.1, hm _ _ (((((hq.2 c1).2.2 c2).2.1 c3).1 c5).1 c6).2.2.2⟩⟩⟩, fun c6 => hm _ _ (((((hq.2 c1).2.2 c2).2.1 c3).1 c5).2 c6)⟩, fun c5 => ⟨fun c6 => ⟨fun c7 => ⟨((((((hq.2 c1).2.2 c2).2.1 c3).2 c5).1 c6).1 c7).1, ⟨((((((hq.2 c1).2.2 c2).2.1 c3).2 c5).1 c6).1 c7).2.1, ⟨((((((hq.2 c1).2.2 c2).2.1 c3).2 c5).1 c6).1 c7).2.2.1, hm _ _ ((((((hq.2 c1).2.2 c2).2.1 c3).2 c5).1 c6).1 c7).2.2.2⟩⟩⟩, fun c7 => hm _ _ ((((((hq.2 c1).2.2 c2).2.1 c3).2 c5).1 c6).2 c7)⟩, fun c6 => ⟨fun c7 => ⟨((((((hq.2 c1).2.2 c2).2.1 c3).2 c5).2 c6).1 c7).1, ⟨((((((hq.2 c1).2.2 c2).2.1 c3).2 c5).2 c6).1 c7).2.1, ⟨((((((hq.2 c1).2.2 c2).2.1 c3).2 c5).2 c6).1 c7).2.2.1, hm _ _ ((((((hq.2 c1).2.2 c2).2.1 c3).2 c5).2 c6).1 c7).2.2.2⟩⟩⟩, fun c7 => hm _ _ ((((((hq.2 c1).2.2 c2).2.1 c3).2 c5).2 c6).2 c7)⟩⟩⟩, fun c3 => ⟨(((hq.2 c1).2.2 c2).2.2 c3).1, ⟨(((hq.2 c1).2.2 c2).2.2 c3).2.1, fun ρ7 hr7 => ⟨((((hq.2 c1).2.2 c2).2.2 c3).2.2 ρ7 hr7).1, ⟨fun c5 => fun ρ8 hr8 => ((((((hq.2 c1).2.2 c2).2.2 c3).2.2 ρ7 hr7).2.1 c5) ρ8 hr8), fun c5 => fun ρ9 hr9 => ((((((hq.2 c1).2.2 c2).2.2 c3).2.2 ρ7 hr7).2.2 c5) ρ9 hr9)⟩⟩⟩⟩⟩⟩⟩⟩⟩
