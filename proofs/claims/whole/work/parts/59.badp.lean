theorem bad_fold {σ : mo_M} {mv : Int32} {w j : Nat} (hj : j < 64) : ∀ n, n ≤ 60 → (mo_bt (mo_bad σ mv w n) (nI j) ↔ j < n ∧ mo_bt mv.toInt64 (σ.1 4 0 j) ∧ ∃ k, k < (σ.1 39 w 2).toNatClampNeg ∧ σ.1 40 w k ≤ σ.1 5 0 j ∧ σ.1 5 0 j ≤ σ.1 41 w k) := by
  intro n
  induction n with
  | zero => intro _; exact ⟨fun q => absurd q (bt_0 hj), fun q => absurd q.1 (by omega)⟩
  | succ n ih =>
    intro hn
    have ih := ih (by omega)
    have hs : mo_bad σ mv w (n + 1) = mo_ite (mo_bt mv.toInt64 (σ.1 4 0 n) ∧ ∃ k, k < (σ.1 39 w 2).toNatClampNeg ∧ σ.1 40 w k ≤ σ.1 5 0 n ∧ σ.1 5 0 n ≤ σ.1 41 w k) (mo_bad σ mv w n ||| (1 : Int64) <<< ((nI n).toInt64 &&& 63)) (mo_bad σ mv w n) := rfl
    rw [hs]
    by_cases c : mo_bt mv.toInt64 (σ.1 4 0 n) ∧ ∃ k, k < (σ.1 39 w 2).toNatClampNeg ∧ σ.1 40 w k ≤ σ.1 5 0 n ∧ σ.1 5 0 n ≤ σ.1 41 w k
    · rw [mo_ite_t c, bt_or _ _ hj, ih, bt_bit (by omega) hj]
      constructor
      · rintro (⟨h1, h2⟩ | rfl)
        · exact ⟨by omega, h2⟩
        · exact ⟨by omega, c⟩
      · rintro ⟨h1, h2⟩
        by_cases e : n = j
        · exact Or.inr e
        · exact Or.inl ⟨by omega, h2⟩
    · rw [mo_ite_f c, ih]
      constructor
      · rintro ⟨h1, h2⟩; exact ⟨by omega, h2⟩
      · rintro ⟨h1, h2⟩
        refine ⟨?_, h2⟩
        by_cases e : n = j
        · subst e; exact absurd h2 c
        · omega
/-- the bad makes of a warning, on both sides -/
theorem bad_bit {σ : mo_M} {P M J U W w m : Nat} {a d : Int32} (hP : P ≤ 30) (hM : iv_M σ P M) (hJ : iv_J σ P J) (hU : iv_U σ P U) (hW : iv_W σ P W) (ha : a = nI w) (hw : w < W) (hm : m < 64) : mo_bt (mo_badS σ a d) (nI m) ↔ m < M ∧ mo_isB (mo_gM σ d) a (nI m) := by
  obtain ⟨m1, m2, m3, m4⟩ := hM
  obtain ⟨w1, w2, w3, w4, w5⟩ := hW
  obtain ⟨x1, x2, x3, x4, x5, x6⟩ := w4 w hw
  have hg := (gz_main (d := d) hP hJ hU J (Nat.le_refl _)).1
  have eJ1 := iv_cl hJ.1 (by have := hJ.2.2.1; omega)
  have eJ2 := iv_cl hJ.2.1 (by have := hJ.2.2.1; omega)
  have ea : a.toNatClampNeg = w := iv_cl ha (by omega)
  have y2 := mo_inI x2
  unfold mo_badS
  rw [ea, eJ1, iv_cl m1 (by omega), bad_fold hm M m3]
  refine and_congr_right (fun hmM => ?_)
  obtain ⟨z1, z2, z3, z4, z5⟩ := m4 m hmM
  have y3 := mo_inI z3
  have hcl : (nI m).toNatClampNeg = m := mo_cl (by omega)
  have hbit : mo_bt ((mo_set1 σ d J).1 (σ.1 39 w 3).toNatClampNeg).toInt64 (σ.1 4 0 m) ↔ (mo_gat σ d J).1 (σ.1 39 w 3).toNatClampNeg = (mo_gat σ d J).1 (σ.1 4 0 m).toNatClampNeg := by
    have q := hg.2 (σ.1 39 w 3).toNatClampNeg (by omega) (σ.1 4 0 m).toNatClampNeg (by omega)
    rw [← y3.1] at q
    rw [q]
    exact ⟨fun y => y.2, fun y => ⟨by omega, y⟩⟩
  have hI : mo_isB (mo_gM σ d) a (nI m) = ((mo_gat σ d J).1 (σ.1 4 0 m).toNatClampNeg = (mo_gat σ d J).1 (σ.1 39 w 3).toNatClampNeg ∧ ((mo_isv σ (nI w) (σ.1 5 0 m) (σ.1 74 0 w).toNatClampNeg).1 ∨ (mo_isv σ (nI w) (σ.1 5 0 m) (σ.1 74 0 w).toNatClampNeg).2)) := by
    rw [← z2, ← z1, ← x1, ← ha, ← eJ2]
    have e1 : a.toNatClampNeg = w := ea
    unfold mo_isB
    rw [hcl, e1]
    have e2 : mo_isb (mo_gM σ d) a (nI m) = mo_isv σ a (σ.1 53 0 m) := by
      unfold mo_isb mo_isv
      rw [hcl]
      rfl
    rw [e2]
    rfl
  rw [hI, hbit, x6 _ z4 z5]
  exact and_congr_left' ⟨Eq.symm, Eq.symm⟩
theorem iv_bpre {σ : mo_M} {P M J U W w : Nat} {a : Int32} (hP : P ≤ 30) (hM : iv_M σ P M) (hJ : iv_J σ P J) (hU : iv_U σ P U) (hW : iv_W σ P W) (ha : a = nI w) (hw : w < W) : ((mo_le (σ.1 18 0 4) 40 ∧ mo_le (σ.1 23 0 4) 40 ∧ ∀ k, k < (σ.1 18 0 4).toNatClampNeg → vp_in (σ.1 19 0 k) 30 ∧ vp_in (σ.1 20 0 k) 30) ∧ vp_in a 20 ∧ vp_in (σ.1 39 a.toNatClampNeg 3) 30 ∧ mo_le (σ.1 3 0 2) 60 ∧ mo_le (σ.1 39 a.toNatClampNeg 2) 30) ∧ vp_in (σ.1 73 0 a.toNatClampNeg) 30 ∧ mo_le (σ.1 74 0 a.toNatClampNeg) 30 := by
  obtain ⟨w1, w2, w3, w4, w5⟩ := hW
  obtain ⟨x1, x2, x3, x4, x5, x6⟩ := w4 w hw
  have ea : a.toNatClampNeg = w := iv_cl ha (by omega)
  rw [ea, x1]
  exact ⟨⟨(iv_pre hP hJ hU).1, by rw [ha]; exact mo_inN (by omega) (by decide), mo_inw x2 hP, iv_le hM.1 hM.2.2.1 (by omega), x4⟩, mo_inw x2 hP, x5⟩
theorem iv_bad (a b c : Int32) : iv_op S_X11_bad S_X12_bad [.inr (.inr (0, 0)), .inl a, .inl b, .inl c] [.inr (.inr (50, 0)), .inl a, .inl b, .inl c] := by
  intro σ h
  obtain ⟨P, M, L, H, J, U, T, W, h1, h2, h3, h4, h5, h6, h7, h8, h9⟩ := id h
  have hP := h1.2.2.1
  have hM := h2.2.2.1
  have hW := h8.2.2.1
  have ga := iv_g (a := a) h8.1 h8.2.1 (by omega)
  have gb := iv_g (a := b) h2.1 h2.2.1 (by omega)
  refine ⟨a, b, c, rfl, fun q => ⟨a, b, c, rfl, fun _ => ⟨rfl, h⟩, fun z => absurd (ga.mpr z) q⟩, fun q => ⟨fun q1 => ⟨a, b, c, rfl, fun z => absurd (ga.mp q) z, fun _ => ⟨fun _ => ⟨rfl, h⟩, fun z => absurd (gb.mpr z) q1⟩⟩, fun q1 => ⟨fun q2 => ?_, fun q2 => ⟨a, b, c, rfl, fun z => absurd (ga.mp q) z, fun _ => ⟨fun z => absurd (gb.mp q1) z, fun _ => ⟨fun z => absurd z q2, fun _ => ⟨rfl, h⟩⟩⟩⟩⟩⟩⟩
  have va := mo_inI (iv_in h8.1 (by omega) q)
  have vb := mo_inI (iv_in h2.1 (by omega) q1)
  have hp := iv_bpre hP h2 h5 h6 h8 va.1 va.2
  have hb := bad_bit (d := c) hP h2 h5 h6 h8 va.1 va.2 (m := b.toNatClampNeg) (by omega)
  rw [← vb.1] at hb
  obtain ⟨x1, x2, x3, x4, x5⟩ := h2.2.2.2 b.toNatClampNeg vb.2
  have hpm : vp_in a 20 ∧ vp_in b 60 ∧ vp_in (σ.1 52 0 b.toNatClampNeg) 30 ∧ vp_in (σ.1 73 0 a.toNatClampNeg) 30 ∧ mo_le (σ.1 74 0 a.toNatClampNeg) 30 := ⟨hp.1.2.1, mo_inw (iv_in h2.1 (by omega) q1) hM, by rw [x1]; exact mo_inw x3 hP, hp.2⟩
  have hI : iv (mo_gM (mo_rowI σ 29 0 (mo_grp σ c)) c) := ⟨P, M, L, H, J, U, T, W, h1, h2, h3, h4, h5, h6, h7, h8, h9⟩
  have eB : mo_isB (mo_gM (mo_rowI σ 29 0 (mo_grp σ c)) c) a b = mo_isB (mo_gM σ c) a b := rfl
  refine ⟨hp.1, fun z => ⟨a, b, c, rfl, fun y => absurd (ga.mp q) y, fun _ => ⟨fun y => absurd (gb.mp q1) y, fun _ => ⟨fun _ => ⟨(iv_pre hP h5 h6).2, hpm, fun _ => ⟨rfl, hI⟩, fun y => absurd (hb.mpr ⟨vb.2, by rw [← eB]; exact y⟩) z⟩, fun y => absurd q2 y⟩⟩⟩, fun z => ⟨a, b, c, rfl, fun y => absurd (ga.mp q) y, fun _ => ⟨fun y => absurd (gb.mp q1) y, fun _ => ⟨fun _ => ⟨(iv_pre hP h5 h6).2, hpm, fun y => absurd (by rw [eB]; exact (hb.mp z).2) y, fun _ => ⟨rfl, hI⟩⟩, fun y => absurd q2 y⟩⟩⟩⟩
