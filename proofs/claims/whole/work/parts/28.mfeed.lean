set_option maxRecDepth 20000 in
set_option maxHeartbeats 2000000 in
theorem lp_X12_feed (g : mo_E) (σ : mo_M) (Q : mo_Q) (a b c d1 f : Int32) (t0 n : Nat) (hn : (20 : Int32) = nI n) (hle : n ≤ 20) (ht : σ.1 50 0 30 = nI t0) (ht2 : t0 + 20 ≤ 200) (hQ : Q (some (.inl (σ.1 50 0 30 + (20 : Int32)))) (mo_wI (mo_rowI σ 72 0 (mo_fo (fun k r => upd r (σ.1 50 0 30 + nI k).toNatClampNeg (vp_nar .byte ((σ.1 79 0 (nI k / (4 : Int32)).toNatClampNeg) >>> (((24 : Int32) - ((8 : Int32) * (nI k - nI k / (4 : Int32) * (4 : Int32)))) &&& 31)).toInt8.toInt32)) (σ.1 72 0) n)) 50 0 30 (σ.1 50 0 30 + (20 : Int32)))) : ∀ (d k : Nat), n < k + d → k ≤ n → (True) → mo_X g t_X12_feed Q 55 [some (.inr (.inr (50, 0))), some (.inl a), some (.inl b), some (.inl c), some (.inl d1), some (.inl f), some (.inl (nI k))] [] (mo_rowI σ 72 0 (mo_fo (fun k r => upd r (σ.1 50 0 30 + nI k).toNatClampNeg (vp_nar .byte ((σ.1 79 0 (nI k / (4 : Int32)).toNatClampNeg) >>> (((24 : Int32) - ((8 : Int32) * (nI k - nI k / (4 : Int32) * (4 : Int32)))) &&& 31)).toInt8.toInt32)) (σ.1 72 0) k)) := by
  intro d
  induction d with
  | zero => intro k h1 h2; omega
  | succ d ih =>
    intro k h1 h2 hinv
    have hkc : (nI k).toNatClampNeg = k := mo_cl (by omega)
    refine mo_go ok_X12_feed (mo_no_ok g _) [55] 72 ?_
    intro K hK
    refine And.intro (fun (c1 : (20 : Int32) ≤ (nI k)) => ?_) (fun (c1 : ¬ (20 : Int32) ≤ (nI k)) => ?_)
    · have hk : n ≤ k := mo_cge hn (by omega) (by omega) c1
      (have e : k = n := (by omega); subst e; exact hQ)
    · have hk : k < n := mo_clt hn (by omega) (by omega) c1
      refine And.intro (by decide) ?_
      refine And.intro (show vp_in ((nI k) / (4 : Int32)) 5 by rw [show (4 : Int32) = nI 4 from rfl, pk_div (by omega) (by omega) (by omega)]; exact mo_inN (by omega) (by decide)) ?_
      refine And.intro (by decide) ?_
      refine And.intro (show vp_in ((σ.1 50 0 30) + (nI k)) 200 by rw [ht, nI_add]; exact mo_inN (by omega) (by decide)) ?_
      (have hih := ih (k + 1) (by omega) (by omega) trivial; rw [nI_succ] at hih; refine hK _ _ _ _ (show mo_X g t_X12_feed Q 55 [some (.inr (.inr (50, 0))), some (.inl a), some (.inl b), some (.inl c), some (.inl d1), some (.inl f), some (.inl ((nI k) + (1 : Int32)))] [] (mo_wI (mo_rowI σ 72 0 (mo_fo (fun k r => upd r (σ.1 50 0 30 + nI k).toNatClampNeg (vp_nar .byte ((σ.1 79 0 (nI k / (4 : Int32)).toNatClampNeg) >>> (((24 : Int32) - ((8 : Int32) * (nI k - nI k / (4 : Int32) * (4 : Int32)))) &&& 31)).toInt8.toInt32)) (σ.1 72 0) k)) 72 0 (((σ.1 50 0 30) + (nI k)).toNatClampNeg) (vp_nar .byte (((σ.1 79 0 (((nI k) / (4 : Int32)).toNatClampNeg)) >>> (((24 : Int32) - ((8 : Int32) * ((nI k) - (nI k) / (4 : Int32) * (4 : Int32)))) &&& 31)).toInt8.toInt32))) from ?_); rw [mo_rowI_w]; exact hih)
def S_X12_feed : mo_S := fun as σ Q => ∃ a : Int32, ∃ b : Int32, ∃ c : Int32, ∃ d : Int32, ∃ f : Int32, as = [.inr (.inr (50, 0)), .inl a, .inl b, .inl c, .inl d, .inl f] ∧ (mo_le (σ.1 50 0 30) 200) ∧ Q (some (.inl (mo_ite ((200 : Int32) < σ.1 50 0 30 + (20 : Int32)) (-1 : Int32) (σ.1 50 0 30 + (20 : Int32))))) (mo_ite ((200 : Int32) < σ.1 50 0 30 + (20 : Int32)) σ (mo_wI (mo_rowI (mo_wI (mo_wI (mo_wI (mo_wI (mo_wI σ 79 0 0 a) 79 0 1 b) 79 0 2 c) 79 0 3 d) 79 0 4 f) 72 0 (mo_fo (fun k r => upd r ((mo_wI (mo_wI (mo_wI (mo_wI (mo_wI σ 79 0 0 a) 79 0 1 b) 79 0 2 c) 79 0 3 d) 79 0 4 f).1 50 0 30 + nI k).toNatClampNeg (vp_nar .byte (((mo_wI (mo_wI (mo_wI (mo_wI (mo_wI σ 79 0 0 a) 79 0 1 b) 79 0 2 c) 79 0 3 d) 79 0 4 f).1 79 0 (nI k / (4 : Int32)).toNatClampNeg) >>> (((24 : Int32) - ((8 : Int32) * (nI k - nI k / (4 : Int32) * (4 : Int32)))) &&& 31)).toInt8.toInt32)) (σ.1 72 0) 20)) 50 0 30 (σ.1 50 0 30 + (20 : Int32))))
theorem m_X12_feed : ∀ (as : List mo_V) (σ : mo_M) (P P' : mo_Q), (∀ x τ, P x τ → P' x τ) → S_X12_feed as σ P → S_X12_feed as σ P' := by
  rintro as σ P P' h ⟨a, b, c, d, f, e, hp, hq⟩
  exact ⟨a, b, c, d, f, e, hp, h _ _ hq⟩
set_option maxRecDepth 20000 in
set_option maxHeartbeats 2000000 in
theorem ct_X12_feed : mo_ct yX12_feed t_X12_feed S_X12_feed := by
  refine mo_ct_of (by decide) rfl ?_
  rintro g as σ Q ⟨a, b, c, d, f, rfl, hpre, hQ⟩
  refine ⟨Nat.le_of_ble_eq_true rfl, mo_go ok_X12_feed (mo_no_ok g _) [55] 72 ?_⟩
  intro K hK
  refine And.intro (fun (c1 : ((σ.1 50 0 30) + (20 : Int32)) ≤ (200 : Int32)) => ?_) (fun (c1 : ¬ ((σ.1 50 0 30) + (20 : Int32)) ≤ (200 : Int32)) => ?_)
  · refine And.intro (show vp_in (0 : Int32) 5 by exact vp_in_nI (n := 0) (by decide) (by decide)) ?_
    refine And.intro (show vp_in (1 : Int32) 5 by exact vp_in_nI (n := 1) (by decide) (by decide)) ?_
    refine And.intro (show vp_in (2 : Int32) 5 by exact vp_in_nI (n := 2) (by decide) (by decide)) ?_
    refine And.intro (show vp_in (3 : Int32) 5 by exact vp_in_nI (n := 3) (by decide) (by decide)) ?_
    refine And.intro (show vp_in (4 : Int32) 5 by exact vp_in_nI (n := 4) (by decide) (by decide)) ?_
    (have hc : ¬ (200 : Int32) < σ.1 50 0 30 + (20 : Int32) := (by have q := c1; simp only [← Int32.not_lt] at q ⊢; grind); rw [mo_ite_f hc, mo_ite_f hc] at hQ; have hl : (σ.1 50 0 30).toNatClampNeg + 20 ≤ 200 := (by have q := hc; rw [hpre.1, show (20 : Int32) = nI 20 from rfl, show (200 : Int32) = nI 200 from rfl, nI_add, nI_ltI (by omega) (by have := hpre.2; omega)] at q; omega); exact hK _ _ _ _ (lp_X12_feed g (mo_wI (mo_wI (mo_wI (mo_wI (mo_wI σ 79 0 0 a) 79 0 1 b) 79 0 2 c) 79 0 3 d) 79 0 4 f) Q a b c d f (σ.1 50 0 30).toNatClampNeg 20 rfl (by omega) hpre.1 hl hQ 21 0 (by omega) (by omega) trivial |> fun h0 => by rw [show mo_rowI (mo_wI (mo_wI (mo_wI (mo_wI (mo_wI σ 79 0 0 a) 79 0 1 b) 79 0 2 c) 79 0 3 d) 79 0 4 f) 72 0 (mo_fo (fun k r => upd r ((mo_wI (mo_wI (mo_wI (mo_wI (mo_wI σ 79 0 0 a) 79 0 1 b) 79 0 2 c) 79 0 3 d) 79 0 4 f).1 50 0 30 + nI k).toNatClampNeg (vp_nar .byte (((mo_wI (mo_wI (mo_wI (mo_wI (mo_wI σ 79 0 0 a) 79 0 1 b) 79 0 2 c) 79 0 3 d) 79 0 4 f).1 79 0 (nI k / (4 : Int32)).toNatClampNeg) >>> (((24 : Int32) - ((8 : Int32) * (nI k - nI k / (4 : Int32) * (4 : Int32)))) &&& 31)).toInt8.toInt32)) ((mo_wI (mo_wI (mo_wI (mo_wI (mo_wI σ 79 0 0 a) 79 0 1 b) 79 0 2 c) 79 0 3 d) 79 0 4 f).1 72 0) 0) = mo_wI (mo_wI (mo_wI (mo_wI (mo_wI σ 79 0 0 a) 79 0 1 b) 79 0 2 c) 79 0 3 d) 79 0 4 f from mo_rowI_id (mo_wI (mo_wI (mo_wI (mo_wI (mo_wI σ 79 0 0 a) 79 0 1 b) 79 0 2 c) 79 0 3 d) 79 0 4 f) 72 0] at h0; exact h0))
  · exact mo_q hQ (by rw [mo_ite_t (by have q := c1; simp only [← Int32.not_lt] at q ⊢; grind)]; rfl) (by rw [mo_ite_t (by have q := c1; simp only [← Int32.not_lt] at q ⊢; grind)])
