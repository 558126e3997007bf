theorem iv_le {x : Int32} {n N : Nat} (h : x = nI n) (hn : n ≤ N) (hN : N < 1000) : mo_le x N := by
  unfold mo_le; rw [iv_cl h (by omega)]; exact ⟨h, hn⟩
theorem iv_pre {σ : mo_M} {P J U : Nat} (hP : P ≤ 30) (hJ : iv_J σ P J) (hU : iv_U σ P U) : (mo_le (σ.1 18 0 4) 40 ∧ mo_le (σ.1 23 0 4) 40 ∧ ∀ k, k < (σ.1 18 0 4).toNatClampNeg → vp_in (σ.1 19 0 k) 30 ∧ vp_in (σ.1 20 0 k) 30) ∧ mo_gP σ := by
  obtain ⟨j1, j2, j3, j4, j5⟩ := hJ
  obtain ⟨u1, u2, u3, u4, u5⟩ := hU
  refine ⟨⟨iv_le j1 j3 (by omega), iv_le u1 u3 (by omega), fun k hk => ?_⟩, iv_le j2 j3 (by omega), ⟨iv_le u2 u3 (by omega), fun u hu => ?_⟩, fun k hk => ?_⟩
  · rw [iv_cl j1 (by omega)] at hk
    obtain ⟨x1, x2, x3, x4, x5⟩ := j4 k hk
    exact ⟨mo_inw x4 hP, mo_inw x5 hP⟩
  · rw [iv_cl u2 (by omega)] at hu
    obtain ⟨x1, x2, x3, x4, x5, x6⟩ := u4 u hu
    rw [x1, x2]; exact ⟨mo_inw x4 hP, mo_inw x5 hP⟩
  · rw [iv_cl j2 (by omega)] at hk
    obtain ⟨x1, x2, x3, x4, x5⟩ := j4 k hk
    rw [x1, x2]; exact ⟨mo_inw x4 hP, mo_inw x5 hP⟩
/-- a make's group, by its lowest part -/
theorem gz_low {m l : Nat → Int32} (h : gz_R m l) {a : Nat} (ha : a < 30) : mo_fsI (fun k => mo_bt (m a).toInt64 (nI k)) 64 = l a := by
  obtain ⟨h1, h2, h3⟩ := h.1 a ha
  rw [mo_fsI_at (k := (l a).toNatClampNeg) (by omega) ((h.2 a ha _ (by omega)).mpr ⟨by omega, h3.symm⟩) (fun j hj q => ?_)]
  · exact h1.symm
  · have q2 := ((h.2 a ha j (by omega)).mp q).2
    have := (h.1 j (by omega)).2.1
    rw [← q2] at this
    omega
theorem iv_quarrels (a : Int32) : iv_op S_X11_quarrels S_X12_quarrels [.inr (.inr (0, 0)), .inl a] [.inr (.inr (50, 0)), .inl a] := by
  intro σ h
  obtain ⟨P, M, L, H, J, U, T, W, h1, h2, h3, h4, h5, h6, h7, h8, h9⟩ := id h
  have hp := iv_pre h1.2.2.1 h5 h6
  have hm := gz_main (d := a) h1.2.2.1 h5 h6 J (Nat.le_refl _)
  have e1 := iv_cl h5.1 (by have := h5.2.2.1; omega)
  have e2 := iv_cl h5.2.1 (by have := h5.2.2.1; omega)
  refine ⟨a, rfl, fun q => ⟨a, rfl, fun z => absurd z q, fun _ => ⟨rfl, h⟩⟩, fun q => ⟨hp.1, a, rfl, fun _ => ⟨hp.2, ?_, ?_⟩, fun z => absurd q z⟩⟩
  · show some (Sum.inl (mo_set1 σ a (σ.1 18 0 4).toNatClampNeg).2 : mo_V) = some (.inl (mo_gat σ a (σ.1 50 0 18).toNatClampNeg).2)
    rw [e1, e2, hm.2.2]
  · exact ⟨P, M, L, H, J, U, T, W, h1, h2, h3, h4, h5, h6, h7, h8, h9⟩
theorem iv_group (a b : Int32) : iv_op S_X11_group S_X12_group [.inr (.inr (0, 0)), .inl a, .inl b] [.inr (.inr (50, 0)), .inl a, .inl b] := by
  intro σ h
  obtain ⟨P, M, L, H, J, U, T, W, h1, h2, h3, h4, h5, h6, h7, h8, h9⟩ := id h
  have hP := h1.2.2.1
  have hp := iv_pre hP h5 h6
  have hm := gz_main (d := b) hP h5 h6 J (Nat.le_refl _)
  have e1 := iv_cl h5.1 (by have := h5.2.2.1; omega)
  have e2 := iv_cl h5.2.1 (by have := h5.2.2.1; omega)
  have g := iv_g (a := a) h1.1 h1.2.1 (by omega)
  refine ⟨a, b, rfl, fun q => ⟨a, b, rfl, fun _ => ⟨rfl, h⟩, fun z => absurd (g.mpr z) q⟩, fun q => ⟨fun q1 => ?_, fun q1 => ⟨a, b, rfl, fun z => absurd (g.mp q) z, fun _ => ⟨fun z => absurd z q1, fun _ => ⟨rfl, h⟩⟩⟩⟩⟩
  have hv := iv_in h1.1 (by omega) q
  have hv2 := (mo_inI hv).2
  have hi := mo_inw hv hP
  refine ⟨hp.1, hi, a, b, rfl, fun z => absurd (g.mp q) z, fun _ => ⟨fun _ => ⟨hp.2, hi, ?_, ?_⟩, fun z => absurd q1 z⟩⟩
  · show some (Sum.inl (mo_fsI (fun k => mo_bt ((mo_set1 σ b (σ.1 18 0 4).toNatClampNeg).1 a.toNatClampNeg).toInt64 (nI k)) 64) : mo_V) = some (.inl ((mo_gat σ b (σ.1 50 0 18).toNatClampNeg).1 a.toNatClampNeg))
    rw [e1, e2, gz_low hm.1 (by omega)]
  · exact ⟨P, M, L, H, J, U, T, W, h1, h2, h3, h4, h5, h6, h7, h8, h9⟩
