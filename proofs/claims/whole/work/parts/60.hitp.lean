def hz_B (σ : mo_M) (M : Nat) (a d : Int32) (m : Nat) : Prop := m < M ∧ mo_isB (mo_gM σ d) a (nI m)
/-- the layers of a warning -/
theorem hz_spr {σ : mo_M} {P M L J U W w : Nat} {a d z : Int32} (hP : P ≤ 30) (hM : iv_M σ P M) (hL : iv_L σ M L) (hJ : iv_J σ P J) (hU : iv_U σ P U) (hW : iv_W σ P W) (ha : a = nI w) (hw : w < W) : (mo_hit σ a d z).2.2.2 ≤ 60 ∧ (∀ j, j < 64 → (mo_bt (mo_hit σ a d z).1 (nI j) ↔ ∃ e, e < 60 ∧ sd (mo_lnk σ d z) (hz_B σ M a d) j e)) ∧ (∀ k, k < (mo_hit σ a d z).2.2.2 → ∀ j, j < 64 → (mo_bt ((mo_hit σ a d z).2.2.1 k) (nI j) ↔ sd (mo_lnk σ d z) (hz_B σ M a d) j k)) ∧ ∀ m e, m < 64 → e < 60 → sd (mo_lnk σ d z) (hz_B σ M a d) m e → e < (mo_hit σ a d z).2.2.2 := by
  have hM6 := hM.2.2.1
  exact spr_end (σ := mo_rowL σ 34 0 (mo_layR σ d z)) (fun x hx y hy => lay_bit hL hM6 hx hy) (fun x y q => by have := iv_lnk hL q; omega) (fun m hm => bad_bit hP hM hJ hU hW ha hw hm) (fun m q => by have := q.1; omega)
/-- the rows of the reference say the same -/
theorem hz_row {σ : mo_M} {M L : Nat} {a d z : Int32} {r : Nat → Int32} (hL : iv_L σ M L) (hs : mo_sh (mo_lnk σ d z) (fun m => mo_isB (mo_gM σ d) a (nI m)) r M) {m : Nat} (hm : m < M) : (r m = -1 ∧ ∀ e, ¬ sd (mo_lnk σ d z) (hz_B σ M a d) m e) ∨ ∃ e, e < 60 ∧ r m = nI e ∧ sd (mo_lnk σ d z) (hz_B σ M a d) m e := by
  have hs2 := mo_sh_c (B' := hz_B σ M a d) (fun x y q => (iv_lnk hL q).2) (fun x hx => ⟨fun q => ⟨hx, q⟩, fun q => q.2⟩) hs
  rcases hs2 m hm with ⟨q1, q2⟩ | ⟨e, q1, q2, q3, q4⟩
  · exact Or.inl ⟨q1, fun e q => q2 e q.1⟩
  · exact Or.inr ⟨e, q1, q2, q3, q4⟩
theorem hz_hit {σ : mo_M} {P M L J U W w : Nat} {a d z : Int32} {r : Nat → Int32} (hP : P ≤ 30) (hM : iv_M σ P M) (hL : iv_L σ M L) (hJ : iv_J σ P J) (hU : iv_U σ P U) (hW : iv_W σ P W) (ha : a = nI w) (hw : w < W) (hs : mo_sh (mo_lnk σ d z) (fun m => mo_isB (mo_gM σ d) a (nI m)) r M) {m : Nat} (hm : m < M) : mo_bt (mo_hit σ a d z).1 (nI m) ↔ ¬ r m = -1 := by
  have hM6 := hM.2.2.1
  rw [(hz_spr hP hM hL hJ hU hW ha hw).2.1 m (by omega)]
  rcases hz_row hL hs hm with ⟨q1, q2⟩ | ⟨e, q1, q2, q3⟩
  · exact ⟨fun ⟨e, _, q⟩ => absurd q (q2 e), fun q => absurd q1 q⟩
  · exact ⟨fun _ => by rw [q2]; exact mo_nIm (by omega), fun _ => ⟨e, q1, q3⟩⟩
noncomputable def hz_T (σ : mo_M) (a c z : Int32) : mo_M := mo_wI (mo_rowL (mo_rowI (mo_rowL σ 34 0 (mo_layR σ c z)) 29 0 (mo_grp σ c)) 35 0 (mo_hit σ a c z).2.2.1) 33 0 2 (nI (mo_hit σ a c z).2.2.2)
theorem hz_iv {σ : mo_M} {P M L H J U T W : Nat} (a c z : Int32) (h : iv_A σ P M L H J U T W) : iv_A (hz_T σ a c z) P M L H J U T W := by
  obtain ⟨h1, h2, h3, h4, h5, h6, h7, h8, h9⟩ := h
  exact ⟨h1, h2, h3, h4, h5, h6, h7, h8, h9⟩
theorem hz_ivM {σ : mo_M} {P M L H J U T W : Nat} (c : Int32) (r q : Nat → Int32) (h : iv_A σ P M L H J U T W) : iv_A (mo_hM σ c r q) P M L H J U T W := by
  obtain ⟨h1, h2, h3, h4, h5, h6, h7, h8, h9⟩ := h
  exact ⟨h1, h2, h3, h4, h5, h6, h7, h8, h9⟩
theorem hz_hP {σ : mo_M} {P M L H J U T W w : Nat} {a : Int32} (h : iv_A σ P M L H J U T W) (ha : a = nI w) (hw : w < W) : mo_hP σ a := by
  obtain ⟨h1, h2, h3, h4, h5, h6, h7, h8, h9⟩ := h
  have hP := h1.2.2.1
  have hM := h2.2.2.1
  have hb := iv_bpre hP h2 h5 h6 h8 ha hw
  have eM := iv_cl h2.2.1 (by omega)
  unfold mo_hP
  rw [eM]
  refine ⟨(iv_pre hP h5 h6).2, (iv_lpre hM h3).2, iv_le h2.2.1 hM (by omega), hb.1.2.1, fun m hm => ?_, hb.2⟩
  obtain ⟨x1, x2, x3, x4⟩ := h2.2.2.2 m hm
  rw [x1]; exact mo_inw x3 hP
/-- both rows at once -/
theorem hz_both {σ : mo_M} {P M L H J U T W w : Nat} {a c : Int32} {r q : Nat → Int32} (h : iv_A σ P M L H J U T W) (ha : a = nI w) (hw : w < W) (hC : mo_hC σ a c r q) : (∀ m, m < M → (mo_bt (mo_hit σ a c 0).1 (nI m) ↔ ¬ r m = -1)) ∧ ∀ m, m < M → (mo_bt (mo_hit σ a c 1).1 (nI m) ↔ ¬ q m = -1) := by
  obtain ⟨h1, h2, h3, h4, h5, h6, h7, h8, h9⟩ := h
  have eM := iv_cl h2.2.1 (by have := h2.2.2.1; omega)
  unfold mo_hC at hC
  rw [eM] at hC
  exact ⟨fun m hm => hz_hit h1.2.2.1 h2 h3 h5 h6 h8 ha hw hC.1 hm, fun m hm => hz_hit h1.2.2.1 h2 h3 h5 h6 h8 ha hw hC.2 hm⟩
theorem hz_tail {σ : mo_M} {P M L H J U T W w : Nat} {a b c x : Int32} (h : iv_A σ P M L H J U T W) (ha : a = nI w) (hw : w < W) (hb : vp_in b M) (q : 0 ≤ a ∧ a ≤ σ.1 50 0 36 - 1) (q1 : 0 ≤ b ∧ b ≤ σ.1 50 0 2 - 1) (q2 : 0 ≤ c ∧ c ≤ (10000 : Int32)) (hx : ∀ r y, mo_hC σ a c r y → x = mo_hof (mo_hM σ c r y) b) : S_X12_hit [.inr (.inr (50, 0)), .inl a, .inl b, .inl c] σ (fun r' υ => some (.inl x) = r' ∧ iv υ) := by
  have hM := h.2.1.2.2.1
  exact ⟨a, b, c, rfl, fun z => absurd q z, fun _ => ⟨fun z => absurd q1 z, fun _ => ⟨fun _ => ⟨hz_hP h ha hw, fun r y hC => ⟨mo_inw hb hM, by rw [hx r y hC], ⟨P, M, L, H, J, U, T, W, hz_ivM c r y h⟩⟩⟩, fun z => absurd q2 z⟩⟩⟩
theorem iv_hit (a b c : Int32) : iv_op S_X11_hit S_X12_hit [.inr (.inr (0, 0)), .inl a, .inl b, .inl c] [.inr (.inr (50, 0)), .inl a, .inl b, .inl c] := by
  intro σ h
  obtain ⟨P, M, L, H, J, U, T, W, hA⟩ := id h
  obtain ⟨h1, h2, h3, h4, h5, h6, h7, h8, h9⟩ := id hA
  have hP := h1.2.2.1
  have hM := h2.2.2.1
  have hW := h8.2.2.1
  have ga := iv_g (a := a) h8.1 h8.2.1 (by omega)
  have gb := iv_g (a := b) h2.1 h2.2.1 (by omega)
  refine ⟨a, b, c, rfl, fun q => ⟨a, b, c, rfl, fun _ => ⟨rfl, h⟩, fun z => absurd (ga.mpr z) q⟩, fun q => ⟨fun q1 => ⟨a, b, c, rfl, fun z => absurd (ga.mp q) z, fun _ => ⟨fun _ => ⟨rfl, h⟩, fun z => absurd (gb.mpr z) q1⟩⟩, fun q1 => ⟨fun q2 => ?_, fun q2 => ⟨a, b, c, rfl, fun z => absurd (ga.mp q) z, fun _ => ⟨fun z => absurd (gb.mp q1) z, fun _ => ⟨fun z => absurd z q2, fun _ => ⟨rfl, h⟩⟩⟩⟩⟩⟩⟩
  have va := mo_inI (iv_in h8.1 (by omega) q)
  have hvb := iv_in h2.1 (by omega) q1
  have vb := mo_inI hvb
  have hp := iv_bpre hP h2 h5 h6 h8 va.1 va.2
  have hl := iv_lpre hM h3
  have hA1 := hz_iv a c 0 hA
  have key : ∀ r y, mo_hC σ a c r y → (mo_bt (mo_hit σ a c 0).1 b ↔ ¬ r b.toNatClampNeg = -1) ∧ (mo_bt (mo_hit (hz_T σ a c 0) a c 1).1 b ↔ ¬ y b.toNatClampNeg = -1) := by
    intro r y hC
    have z1 := (hz_both hA va.1 va.2 hC).1 _ vb.2
    have z2 := (hz_both (σ := hz_T σ a c 0) (c := c) (r := r) (q := y) hA1 va.1 va.2 hC).2 _ vb.2
    rw [← vb.1] at z1 z2
    exact ⟨z1, z2⟩
  refine ⟨⟨hl.1, hp.1⟩, fun z => ⟨⟨hl.1, hp.1⟩, fun y => ?_, fun y => ?_⟩, fun z => ?_⟩
  · refine hz_tail (σ := hz_T (hz_T σ a c 0) a c 1) (hz_iv a c 1 hA1) va.1 va.2 hvb (ga.mp q) (gb.mp q1) q2 (fun r x hC => ?_)
    have k := key r x hC
    show (0 : Int32) = if ¬ r b.toNatClampNeg = -1 then 2 else if ¬ x b.toNatClampNeg = -1 then 1 else 0
    rw [if_neg (fun e => z (k.1.mpr e)), if_neg (fun e => y (k.2.mpr e))]
  · refine hz_tail (σ := hz_T (hz_T σ a c 0) a c 1) (hz_iv a c 1 hA1) va.1 va.2 hvb (ga.mp q) (gb.mp q1) q2 (fun r x hC => ?_)
    have k := key r x hC
    show (1 : Int32) = if ¬ r b.toNatClampNeg = -1 then 2 else if ¬ x b.toNatClampNeg = -1 then 1 else 0
    rw [if_neg (fun e => z (k.1.mpr e)), if_pos (k.2.mp y)]
  · refine hz_tail (σ := hz_T σ a c 0) hA1 va.1 va.2 hvb (ga.mp q) (gb.mp q1) q2 (fun r x hC => ?_)
    have k := key r x hC
    show (2 : Int32) = if ¬ r b.toNatClampNeg = -1 then 2 else if ¬ x b.toNatClampNeg = -1 then 1 else 0
    rw [if_pos (k.1.mp z)]
