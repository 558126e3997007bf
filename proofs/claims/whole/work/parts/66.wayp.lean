/-! way on both sides -/
theorem wy_0 {f : Int32} (h : (-1 : Int32) ≤ f) (h2 : ¬ f = (-1 : Int32)) : (0 : Int32) ≤ f := by
  rw [Int32.le_iff_toInt_le] at h ⊢
  rw [mo_ieq] at h2
  rw [mo_n1] at h h2
  rw [Int32.toInt_zero]
  omega
theorem lnk_T (σ : mo_M) (a c z d z' : Int32) : mo_lnk (hz_T σ a c z) d z' = mo_lnk σ d z' := rfl
theorem wy_sh {σ : mo_M} {P M L H J U T W : Nat} {a c : Int32} {r y : Nat → Int32} (h : iv_A σ P M L H J U T W) (hC : mo_hC σ a c r y) : mo_sh (mo_lnk σ c 0) (fun m => mo_isB (mo_gM σ c) a (nI m)) r M ∧ mo_sh (mo_lnk σ c 1) (fun m => mo_isB (mo_gM σ c) a (nI m)) y M := by
  unfold mo_hC at hC
  rw [iv_cl h.2.1.2.1 (by have := h.2.1.2.2.1; omega)] at hC
  exact hC
theorem wy_case {σ : mo_M} {P M L J U W w : Nat} {a b c z : Int32} {r : Nat → Int32} (hP : P ≤ 30) (hM : iv_M σ P M) (hL : iv_L σ M L) (hJ : iv_J σ P J) (hU : iv_U σ P U) (hW : iv_W σ P W) (ha : a = nI w) (hw : w < W) (hs : mo_sh (mo_lnk σ c z) (fun m => mo_isB (mo_gM σ c) a (nI m)) r M) (hb : vp_in b M) (hit : mo_bt (mo_hit σ a c z).1 b) : ∃ e, e < 60 ∧ r b.toNatClampNeg = nI e ∧ mo_fsI (fun k => mo_bt ((hz_T σ a c z).2 35 0 k) b) ((hz_T σ a c z).1 33 0 2).toNatClampNeg = nI e ∧ ∀ k, k ≤ e → (mo_w10 (hz_T σ a c z) b k).1 = mo_pth (mo_lnk (hz_T σ a c z) c z) r b k := by
  rw [lnk_T]
  have hM6 := hM.2.2.1
  have vb := mo_inI hb
  have hsp := hz_spr (d := c) (z := z) hP hM hL hJ hU hW ha hw
  have hh := (hz_hit hP hM hL hJ hU hW ha hw hs vb.2).mp (by rw [← vb.1]; exact hit)
  rcases hz_row hL hs vb.2 with ⟨q1, -⟩ | ⟨e, q1, q2, q3⟩
  · exact absurd q1 hh
  · have hdep : ((hz_T σ a c z).1 33 0 2).toNatClampNeg = (mo_hit σ a c z).2.2.2 := by
      show (nI (mo_hit σ a c z).2.2.2).toNatClampNeg = _
      exact mo_cl (by have := hsp.1; omega)
    have hle := hsp.2.2.2 _ e (show b.toNatClampNeg < 64 by omega) q1 q3
    have hd : mo_fsI (fun k => mo_bt ((hz_T σ a c z).2 35 0 k) b) ((hz_T σ a c z).1 33 0 2).toNatClampNeg = nI e := by
      rw [hdep]
      have hbt : ∀ k, k < (mo_hit σ a c z).2.2.2 → (mo_bt ((mo_hit σ a c z).2.2.1 k) b ↔ sd (mo_lnk σ c z) (hz_B σ M a c) b.toNatClampNeg k) := fun k hk => by
        have := hsp.2.2.1 k hk b.toNatClampNeg (by omega)
        rw [← vb.1] at this
        exact this
      exact mo_fsI_at (P := fun k => mo_bt ((mo_hit σ a c z).2.2.1 k) b) hle ((hbt e hle).mpr q3) (fun j hj x => by
        have := sd_one ((hbt j (by omega)).mp x) q3
        omega)
    refine ⟨e, q1, q2, hd, ?_⟩
    have key : ∀ k, k ≤ e → ∃ x, x < M ∧ mo_w10 (hz_T σ a c z) b k = (nI x, nI (e - k)) ∧ mo_pth (mo_lnk σ c z) r b k = nI x ∧ sd (mo_lnk σ c z) (hz_B σ M a c) x (e - k) := by
      intro k
      induction k with
      | zero =>
        intro _
        refine ⟨b.toNatClampNeg, vb.2, ?_, vb.1, q3⟩
        show (b, mo_fsI (fun k => mo_bt ((hz_T σ a c z).2 35 0 k) b) ((hz_T σ a c z).1 33 0 2).toNatClampNeg) = _
        rw [hd, ← vb.1]
        rfl
      | succ k ih =>
        intro hk
        obtain ⟨x, hx, i1, i2, i3⟩ := ih (by omega)
        have hs1 : mo_w10 (hz_T σ a c z) b (k + 1) = (mo_ite ((mo_w10 (hz_T σ a c z) b k).1 = (-1 : Int32) ∨ (mo_w10 (hz_T σ a c z) b k).2 + (-1 : Int32) < 0) (-1 : Int32) (mo_fsI (fun j => mo_bt ((hz_T σ a c z).2 34 0 (mo_w10 (hz_T σ a c z) b k).1.toNatClampNeg &&& (hz_T σ a c z).2 35 0 ((mo_w10 (hz_T σ a c z) b k).2 + (-1 : Int32)).toNatClampNeg) (nI j)) 64), (mo_w10 (hz_T σ a c z) b k).2 + (-1 : Int32)) := rfl
        have hs2 : mo_pth (mo_lnk σ c z) r b (k + 1) = mo_nxt (mo_lnk σ c z) r (mo_pth (mo_lnk σ c z) r b k).toNatClampNeg := rfl
        have em : nI (e - k) + (-1 : Int32) = nI (e - (k + 1)) := by
          have e1 : e - k = (e - (k + 1)) + 1 := by omega
          have e2 : nI (e - k) + (-1 : Int32) = nI (e - k) - 1 := by rw [Int32.sub_eq_add_neg]
          rw [e2, e1, nI_pred]
        rw [hs1, hs2, i1, i2]
        dsimp only
        rw [em, mo_cl (show x < 1000000 by omega), mo_cl (show e - (k + 1) < 1000000 by omega), mo_ite_f (fun y => y.elim (mo_nIm (by omega)) (nI_pos (by omega)))]
        have hrx : r x = nI (e - k) := by
          rcases hz_row hL hs hx with ⟨-, y2⟩ | ⟨e', y1, y2, y3⟩
          · exact absurd i3 (y2 _)
          · rw [y2, sd_one y3 i3]
        have hrx1 : r x - 1 = nI (e - (k + 1)) := by
          rw [hrx, show e - k = (e - (k + 1)) + 1 from by omega, nI_pred]
        have hcc : ∀ j, j < 64 → (mo_bt ((hz_T σ a c z).2 34 0 x &&& (hz_T σ a c z).2 35 0 (e - (k + 1))) (nI j) ↔ mo_lnk σ c z x j ∧ r j = r x - 1) := by
          intro j hj
          rw [bt_and _ _ hj]
          have l1 : mo_bt ((hz_T σ a c z).2 34 0 x) (nI j) ↔ mo_lnk σ c z x j := lay_bit hL hM6 (by omega) hj
          have l2 : mo_bt ((hz_T σ a c z).2 35 0 (e - (k + 1))) (nI j) ↔ sd (mo_lnk σ c z) (hz_B σ M a c) j (e - (k + 1)) := hsp.2.2.1 _ (by omega) j hj
          rw [l1, l2, hrx1]
          refine and_congr_right (fun y => ?_)
          have hjM := (iv_lnk hL y).2
          rcases hz_row hL hs hjM with ⟨y1, y2⟩ | ⟨e', y1, y2, y3⟩
          · rw [y1]
            exact ⟨fun v => absurd v (y2 _), fun v => absurd v.symm (mo_nIm (by omega))⟩
          · rw [y2, nI_eq (by omega) (by omega)]
            exact ⟨fun v => sd_one y3 v, fun v => by rw [← v]; exact y3⟩
        have hfs : mo_fsI (fun j => mo_bt ((hz_T σ a c z).2 34 0 x &&& (hz_T σ a c z).2 35 0 (e - (k + 1))) (nI j)) 64 = mo_nxt (mo_lnk σ c z) r x := by
          unfold mo_nxt
          exact mo_fsI_c hcc
        have hex : ∃ j, j < 64 ∧ mo_lnk σ c z x j ∧ r j = r x - 1 := by
          rw [show e - k = (e - (k + 1)) + 1 from by omega] at i3
          obtain ⟨⟨j, y1, y2⟩, -⟩ := sd_next.mp i3
          have hjM := (iv_lnk hL y1).2
          have hj : j < 64 := by omega
          refine ⟨j, hj, y1, ?_⟩
          rcases hz_row hL hs hjM with ⟨-, z2⟩ | ⟨e', z1, z2, z3⟩
          · exact absurd y2 (z2 _)
          · rw [hrx1, z2, sd_one z3 y2]
        rcases mo_fsI_r (fun j => mo_lnk σ c z x j ∧ r j = r x - 1) 64 with y | ⟨j, y1, y2, y3, y4⟩
        · obtain ⟨j, y1, y2, y3⟩ := hex
          obtain ⟨j2, z1, z2⟩ := pk_least (fun j => mo_lnk σ c z x j ∧ r j = r x - 1) ⟨j, y2, y3⟩
          have hj2 : j2 < 64 := by have := (iv_lnk hL z1.1).2; omega
          rw [mo_fsI_at hj2 z1 z2] at y
          exact absurd y (mo_nIm (by omega))
        · have hjM := (iv_lnk hL y3.1).2
          refine ⟨j, hjM, ?_, y2, ?_⟩
          · rw [hfs]
            exact congrArg (fun v => (v, nI (e - (k + 1)))) y2
          · exact (hsp.2.2.1 _ (by omega) j (by omega)).mp (((bt_and _ _ (by omega)).mp ((hcc j y1).mpr y3)).2)
    intro k hk
    obtain ⟨x, -, i1, i2, -⟩ := key k hk
    rw [i1, i2]
theorem wy_pre {σ : mo_M} {M L : Nat} {a b c f z : Int32} {p : Nat → Prop} {n : Nat} (hM : M ≤ 60) (hL : iv_L σ M L) (hb : vp_in b 60) (hd : (mo_hit σ a c z).2.2.2 ≤ 60) (hn : n = (nI (mo_hit σ a c z).2.2.2).toNatClampNeg) (hf : (0 : Int32) ≤ f) (hf2 : ¬ (mo_fsI p n + (1 : Int32)) ≤ f) : vp_in b 60 ∧ mo_le ((hz_T σ a c z).1 33 0 2) 60 ∧ mo_le f 100 ∧ (∀ u_, u_ < 60 → ∀ j_, 60 ≤ j_ → j_ < 64 → ¬ mo_bt ((hz_T σ a c z).2 34 0 u_) (nI j_)) := by
  refine ⟨hb, iv_le (x := (hz_T σ a c z).1 33 0 2) (n := (mo_hit σ a c z).2.2.2) rfl hd (by omega), ?_, fun u hu j h1 h2 q => ?_⟩
  · obtain ⟨j, hj, rfl⟩ := nI_of (Int32.not_lt.mpr hf)
    rw [mo_cl (by omega)] at hn
    rcases mo_fsI_r p n with x | ⟨k, x1, x2, -, -⟩
    · rw [x, show (-1 : Int32) + 1 = 0 from by decide] at hf2
      exact absurd hf hf2
    · rw [x2, nI_1, nI_leI (by omega) hj] at hf2
      exact iv_le rfl (by omega) (by omega)
  · have l1 : mo_bt ((hz_T σ a c z).2 34 0 u) (nI j) ↔ mo_lnk σ c z u j := lay_bit hL hM hu h2
    have := (iv_lnk hL (l1.mp q)).2
    omega
theorem wy_hof (σ : mo_M) (x : Int32) (h0 : ¬ mo_hof σ x = 0) (h2 : ¬ mo_hof σ x = 2) : mo_hof σ x = 1 := by
  unfold mo_hof at h0 h2 ⊢
  split at h0
  · next c => rw [if_pos c] at h2; exact absurd rfl h2
  · next c =>
    split at h0
    · next c2 => rw [if_neg c, if_pos c2]
    · exact absurd rfl h0
theorem wy_tail {σ : mo_M} {P M L H J U T W w : Nat} {a b c f x : Int32} (h : iv_A σ P M L H J U T W) (ha : a = nI w) (hw : w < W) (hb : vp_in b M) (q : 0 ≤ a ∧ a ≤ σ.1 50 0 36 - 1) (q1 : 0 ≤ b ∧ b ≤ σ.1 50 0 2 - 1) (q2 : 0 ≤ c ∧ c ≤ (10000 : Int32)) (q3 : (-1 : Int32) ≤ f) (hx : ∀ r y, mo_hC σ a c r y → (f = (-1 : Int32) → (mo_hof (mo_hM σ c r y) b = 0 → x = 0) ∧ (¬ mo_hof (mo_hM σ c r y) b = 0 → (mo_hof (mo_hM σ c r y) b = 2 → x = (1 : Int32) + r b.toNatClampNeg) ∧ (¬ mo_hof (mo_hM σ c r y) b = 2 → x = (1 : Int32) + y b.toNatClampNeg))) ∧ (¬ f = (-1 : Int32) → (mo_hof (mo_hM σ c r y) b = 0 → x = -1) ∧ (¬ mo_hof (mo_hM σ c r y) b = 0 → (mo_hof (mo_hM σ c r y) b = 2 → (f ≤ r b.toNatClampNeg → x = mo_pth (mo_lnk σ c 0) r b f.toNatClampNeg) ∧ (¬ f ≤ r b.toNatClampNeg → x = -1)) ∧ (¬ mo_hof (mo_hM σ c r y) b = 2 → (f ≤ y b.toNatClampNeg → x = mo_pth (mo_lnk σ c 1) y b f.toNatClampNeg) ∧ (¬ f ≤ y b.toNatClampNeg → x = -1))))) : S_X12_way [.inr (.inr (50, 0)), .inl a, .inl b, .inl c, .inl f] σ (fun r' υ => some (.inl x) = r' ∧ iv υ) := by
  obtain ⟨h1, h2, h3, h4, h5, h6, h7, h8, h9⟩ := id h
  have hM := h2.2.2.1
  have hb60 := mo_inw hb hM
  have eM := iv_cl h2.2.1 (by omega)
  have hlp := (iv_lpre hM h3).2
  refine ⟨a, b, c, f, rfl, fun z => absurd q z, fun _ => ⟨fun z => absurd q1 z, fun _ => ⟨fun z => absurd q2 z, fun _ => ⟨fun _ => ⟨hz_hP h ha hw, fun r y hC => ?_⟩, fun z => absurd q3 z⟩⟩⟩⟩
  obtain ⟨x1, x2⟩ := hx r y hC
  have hiv : iv (mo_hM σ c r y) := ⟨P, M, L, H, J, U, T, W, hz_ivM c r y h⟩
  have hC1 := hC
  unfold mo_hC at hC1
  rw [eM] at hC1
  have pre : ∀ (z v : Int32) (R : Nat → Int32), mo_sh (mo_lnk σ c z) (fun m => mo_isB (mo_gM σ c) a (nI m)) R M → mo_hof (mo_hM σ c r y) b = v → 0 ≤ f → ∃ B : Nat → Prop, mo_le ((mo_hM σ c r y).1 50 0 6) 200 ∧ (∀ u, u < ((mo_hM σ c r y).1 50 0 6).toNatClampNeg → vp_in ((mo_hM σ c r y).1 54 0 u) ((mo_hM σ c r y).1 50 0 2).toNatClampNeg ∧ vp_in ((mo_hM σ c r y).1 55 0 u) ((mo_hM σ c r y).1 50 0 2).toNatClampNeg) ∧ mo_sh (mo_lnk (mo_hM σ c r y) c z) B R ((mo_hM σ c r y).1 50 0 2).toNatClampNeg ∧ vp_in b ((mo_hM σ c r y).1 50 0 2).toNatClampNeg ∧ ((mo_hM σ c r y).1 50 0 2).toNatClampNeg ≤ 60 ∧ mo_hof (mo_hM σ c r y) b = v ∧ 0 ≤ f := by
    intro z v R hR hv hf
    have eM2 : ((mo_hM σ c r y).1 50 0 2).toNatClampNeg = M := eM
    rw [eM2]
    exact ⟨fun m => mo_isB (mo_gM σ c) a (nI m), hlp.1, hlp.2, hR, hb, hM, hv, hf⟩
  refine ⟨hb60, fun nf => ⟨fun n0 => ⟨fun n2 => ⟨hb60, fun le => ⟨?_, ?_, hiv⟩, fun nle => ⟨?_, hiv⟩⟩, fun e2 => ⟨hb60, fun le => ⟨?_, ?_, hiv⟩, fun nle => ⟨?_, hiv⟩⟩⟩, fun e0 => ⟨?_, hiv⟩⟩, fun ef => ⟨fun n0 => ⟨fun n2 => ⟨hb60, ?_, hiv⟩, fun e2 => ⟨hb60, ?_, hiv⟩⟩, fun e0 => ⟨?_, hiv⟩⟩⟩
  · exact pre 1 1 y hC1.2 (wy_hof _ _ n0 n2) (wy_0 q3 nf)
  · rw [((x2 nf).2 n0).2 n2 |>.1 le]; rfl
  · rw [((x2 nf).2 n0).2 n2 |>.2 nle]
  · exact pre 0 2 r hC1.1 e2 (wy_0 q3 nf)
  · rw [((x2 nf).2 n0).1 e2 |>.1 le]; rfl
  · rw [((x2 nf).2 n0).1 e2 |>.2 nle]
  · rw [(x2 nf).1 e0]
  · rw [((x1 ef).2 n0).2 n2]; rfl
  · rw [((x1 ef).2 n0).1 e2]; rfl
  · rw [(x1 ef).1 e0]
theorem wy_le {e : Nat} {f : Int32} (he : e < 60) (hf : (0 : Int32) ≤ f) : (nI e + (1 : Int32)) ≤ f ↔ ¬ f ≤ nI e := by
  obtain ⟨j, hj, rfl⟩ := nI_of (Int32.not_lt.mpr hf)
  rw [nI_1, nI_leI (by omega) hj, nI_leI hj (by omega)]
  omega
theorem wy_1 (e : Nat) : (1 : Int32) + nI e = nI e + 1 := by rw [show (1 : Int32) = nI 1 from rfl, nI_add, nI_add, Nat.add_comm]
theorem wy_no {σ : mo_M} {P M L H J U T W w : Nat} {a b c f : Int32} (h : iv_A σ P M L H J U T W) (ha : a = nI w) (hw : w < W) (hb : vp_in b M) (q : 0 ≤ a ∧ a ≤ σ.1 50 0 36 - 1) (q1 : 0 ≤ b ∧ b ≤ σ.1 50 0 2 - 1) (q2 : 0 ≤ c ∧ c ≤ (10000 : Int32)) (q3 : (-1 : Int32) ≤ f) (ho : ∀ r y, mo_hC σ a c r y → mo_hof (mo_hM σ c r y) b = 0) : (¬ f = (-1 : Int32) → S_X12_way [.inr (.inr (50, 0)), .inl a, .inl b, .inl c, .inl f] σ (fun r' υ => some (.inl (-1 : Int32)) = r' ∧ iv υ)) ∧ (f = (-1 : Int32) → S_X12_way [.inr (.inr (50, 0)), .inl a, .inl b, .inl c, .inl f] σ (fun r' υ => some (.inl (0 : Int32)) = r' ∧ iv υ)) :=
  ⟨fun nf => wy_tail h ha hw hb q q1 q2 q3 (fun r y hC => ⟨fun ef => absurd ef nf, fun _ => ⟨fun _ => rfl, fun n0 => absurd (ho r y hC) n0⟩⟩), fun ef => wy_tail h ha hw hb q q1 q2 q3 (fun r y hC => ⟨fun _ => ⟨fun _ => rfl, fun n0 => absurd (ho r y hC) n0⟩, fun nf => absurd ef nf⟩)⟩
def wy_got (σ : mo_M) (a b c x0 : Int32) (wk : Nat → Int32) : Prop := ∀ r y, mo_hC σ a c r y → ¬ mo_hof (mo_hM σ c r y) b = 0 ∧ ((mo_hof (mo_hM σ c r y) b = 2 ∧ ∃ e, e < 60 ∧ r b.toNatClampNeg = nI e ∧ x0 = nI e ∧ ∀ k, k ≤ e → wk k = mo_pth (mo_lnk σ c 0) r b k) ∨ (¬ mo_hof (mo_hM σ c r y) b = 2 ∧ ∃ e, e < 60 ∧ y b.toNatClampNeg = nI e ∧ x0 = nI e ∧ ∀ k, k ≤ e → wk k = mo_pth (mo_lnk σ c 1) y b k))
theorem wy_fk {e : Nat} {f : Int32} {wk p : Nat → Int32} (he : e < 60) (hf : (0 : Int32) ≤ f) (hfe : f ≤ nI e) (h : ∀ k, k ≤ e → wk k = p k) : wk f.toNatClampNeg = p f.toNatClampNeg := by
  obtain ⟨j, hj, rfl⟩ := nI_of (Int32.not_lt.mpr hf)
  rw [nI_leI hj (by omega)] at hfe
  rw [mo_cl (show j < 1000000 by omega)]
  exact h j hfe
theorem wy_yes {σ : mo_M} {P M L H J U T W w : Nat} {a b c f x0 : Int32} {wk : Nat → Int32} (h : iv_A σ P M L H J U T W) (ha : a = nI w) (hw : w < W) (hb : vp_in b M) (q : 0 ≤ a ∧ a ≤ σ.1 50 0 36 - 1) (q1 : 0 ≤ b ∧ b ≤ σ.1 50 0 2 - 1) (q2 : 0 ≤ c ∧ c ≤ (10000 : Int32)) (q3 : (-1 : Int32) ≤ f) (hg : wy_got σ a b c x0 wk) : (¬ f = (-1 : Int32) → (x0 + (1 : Int32) ≤ f → S_X12_way [.inr (.inr (50, 0)), .inl a, .inl b, .inl c, .inl f] σ (fun r' υ => some (.inl (-1 : Int32)) = r' ∧ iv υ)) ∧ (¬ x0 + (1 : Int32) ≤ f → S_X12_way [.inr (.inr (50, 0)), .inl a, .inl b, .inl c, .inl f] σ (fun r' υ => some (.inl (wk f.toNatClampNeg)) = r' ∧ iv υ))) ∧ (f = (-1 : Int32) → S_X12_way [.inr (.inr (50, 0)), .inl a, .inl b, .inl c, .inl f] σ (fun r' υ => some (.inl (x0 + (1 : Int32))) = r' ∧ iv υ)) := by
  refine ⟨fun nf => ⟨fun le => ?_, fun nle => ?_⟩, fun ef => ?_⟩
  · refine wy_tail h ha hw hb q q1 q2 q3 (fun r y hC => ⟨fun ef => absurd ef nf, fun _ => ?_⟩)
    obtain ⟨v0, ⟨v2, e, he, y1, y2, y3⟩ | ⟨v2, e, he, y1, y2, y3⟩⟩ := hg r y hC
    · rw [y2, wy_le he (wy_0 q3 nf)] at le
      refine ⟨fun e0 => absurd e0 v0, fun _ => ⟨fun _ => ⟨fun w => ?_, fun _ => rfl⟩, fun n2 => absurd v2 n2⟩⟩
      rw [y1] at w; exact absurd w le
    · rw [y2, wy_le he (wy_0 q3 nf)] at le
      refine ⟨fun e0 => absurd e0 v0, fun _ => ⟨fun e2 => absurd e2 v2, fun _ => ⟨fun w => ?_, fun _ => rfl⟩⟩⟩
      rw [y1] at w; exact absurd w le
  · refine wy_tail h ha hw hb q q1 q2 q3 (fun r y hC => ⟨fun ef => absurd ef nf, fun _ => ?_⟩)
    obtain ⟨v0, ⟨v2, e, he, y1, y2, y3⟩ | ⟨v2, e, he, y1, y2, y3⟩⟩ := hg r y hC
    · rw [y2, wy_le he (wy_0 q3 nf)] at nle
      have fe := Classical.not_not.mp nle
      refine ⟨fun e0 => absurd e0 v0, fun _ => ⟨fun _ => ⟨fun _ => wy_fk he (wy_0 q3 nf) fe y3, fun w => ?_⟩, fun n2 => absurd v2 n2⟩⟩
      rw [y1] at w; exact absurd fe w
    · rw [y2, wy_le he (wy_0 q3 nf)] at nle
      have fe := Classical.not_not.mp nle
      refine ⟨fun e0 => absurd e0 v0, fun _ => ⟨fun e2 => absurd e2 v2, fun _ => ⟨fun _ => wy_fk he (wy_0 q3 nf) fe y3, fun w => ?_⟩⟩⟩
      rw [y1] at w; exact absurd fe w
  · refine wy_tail h ha hw hb q q1 q2 q3 (fun r y hC => ⟨fun _ => ?_, fun nf => absurd ef nf⟩)
    obtain ⟨v0, ⟨v2, e, he, y1, y2, y3⟩ | ⟨v2, e, he, y1, y2, y3⟩⟩ := hg r y hC
    · refine ⟨fun e0 => absurd e0 v0, fun _ => ⟨fun _ => ?_, fun n2 => absurd v2 n2⟩⟩
      rw [y1, y2, wy_1]
    · refine ⟨fun e0 => absurd e0 v0, fun _ => ⟨fun e2 => absurd e2 v2, fun _ => ?_⟩⟩
      rw [y1, y2, wy_1]
theorem wy_bt {σ : mo_M} {P M L H J U T W w : Nat} {a b c : Int32} {r y : Nat → Int32} (h : iv_A σ P M L H J U T W) (ha : a = nI w) (hw : w < W) (hb : vp_in b M) (hC : mo_hC σ a c r y) : (mo_bt (mo_hit σ a c 0).1 b ↔ ¬ r b.toNatClampNeg = -1) ∧ (mo_bt (mo_hit σ a c 1).1 b ↔ ¬ y b.toNatClampNeg = -1) := by
  have vb := mo_inI hb
  have z := hz_both h ha hw hC
  have z1 := z.1 _ vb.2
  have z2 := z.2 _ vb.2
  rw [← vb.1] at z1 z2
  exact ⟨z1, z2⟩
noncomputable def wy_x (σ : mo_M) (b : Int32) : Int32 := mo_fsI (fun k => mo_bt (σ.2 35 0 k) b) (σ.1 33 0 2).toNatClampNeg
noncomputable def wy_w (σ : mo_M) (b : Int32) (k : Nat) : Int32 := (mo_w10 σ b k).1
/-- sure: the first net -/
theorem wy_g0 {σ : mo_M} {P M L H J U T W w : Nat} {a b c : Int32} (h : iv_A σ P M L H J U T W) (ha : a = nI w) (hw : w < W) (hb : vp_in b M) (hit : mo_bt (mo_hit σ a c 0).1 b) : wy_got (hz_T σ a c 0) a b c (wy_x (hz_T σ a c 0) b) (wy_w (hz_T σ a c 0) b) := by
  intro r y hC
  have hC0 := hz_hCT hC
  have hA1 := hz_iv a c 0 h
  have v := hz_hof hA1 hC hb
  have v2 := v.2.mpr ((wy_bt h ha hw hb hC0).1.mp hit)
  obtain ⟨h1, h2, h3, h4, h5, h6, h7, h8, h9⟩ := id h
  exact ⟨fun x => absurd (x.symm.trans v2) (by decide), Or.inl ⟨v2, wy_case h1.2.2.1 h2 h3 h5 h6 h8 ha hw (wy_sh h hC0).1 hb hit⟩⟩
/-- perhaps: the second net, behind the first -/
theorem wy_g1 {σ : mo_M} {P M L H J U T W w : Nat} {a b c : Int32} (h : iv_A σ P M L H J U T W) (ha : a = nI w) (hw : w < W) (hb : vp_in b M) (hno : ∀ r y, mo_hC σ a c r y → r b.toNatClampNeg = -1) (hit : mo_bt (mo_hit σ a c 1).1 b) : wy_got (hz_T σ a c 1) a b c (wy_x (hz_T σ a c 1) b) (wy_w (hz_T σ a c 1) b) := by
  intro r y hC
  have hC0 := hz_hCT hC
  have hA1 := hz_iv a c 1 h
  have v := hz_hof hA1 hC hb
  obtain ⟨h1, h2, h3, h4, h5, h6, h7, h8, h9⟩ := id h
  exact ⟨v.1.mpr ((wy_bt h ha hw hb hC0).2.mp hit), Or.inr ⟨fun x => v.2.mp x (hno r y hC0), wy_case h1.2.2.1 h2 h3 h5 h6 h8 ha hw (wy_sh h hC0).2 hb hit⟩⟩
theorem wy_g2 {σ : mo_M} {P M L H J U T W w : Nat} {a b c : Int32} (h : iv_A σ P M L H J U T W) (ha : a = nI w) (hw : w < W) (hb : vp_in b M) (hit : ¬ mo_bt (mo_hit σ a c 1).1 b) : ∀ r y, mo_hC (hz_T σ a c 1) a c r y → mo_hof (mo_hM (hz_T σ a c 1) c r y) b = 0 := by
  intro r y hC
  have hA1 := hz_iv a c 1 h
  apply Classical.byContradiction
  intro v
  exact hit ((wy_bt h ha hw hb (hz_hCT hC)).2.mpr ((hz_hof hA1 hC hb).1.mp v))
theorem iv_way (a b c f : Int32) : iv_op S_X11_way S_X12_way [.inr (.inr (0, 0)), .inl a, .inl b, .inl c, .inl f] [.inr (.inr (50, 0)), .inl a, .inl b, .inl c, .inl f] := by
  intro σ h
  obtain ⟨P, M, L, H, J, U, T, W, hA⟩ := id h
  obtain ⟨h1, h2, h3, h4, h5, h6, h7, h8, h9⟩ := id hA
  have hP := h1.2.2.1
  have hM := h2.2.2.1
  have hW := h8.2.2.1
  have ga := iv_g (a := a) h8.1 h8.2.1 (by omega)
  have gb := iv_g (a := b) h2.1 h2.2.1 (by omega)
  refine ⟨a, b, c, f, rfl, fun q => ⟨a, b, c, f, rfl, fun _ => ⟨rfl, h⟩, fun z => absurd (ga.mpr z) q⟩, fun q => ⟨fun q1 => ⟨a, b, c, f, rfl, fun z => absurd (ga.mp q) z, fun _ => ⟨fun _ => ⟨rfl, h⟩, fun z => absurd (gb.mpr z) q1⟩⟩, fun q1 => ⟨fun q2 => ⟨a, b, c, f, rfl, fun z => absurd (ga.mp q) z, fun _ => ⟨fun z => absurd (gb.mp q1) z, fun _ => ⟨fun _ => ⟨rfl, h⟩, fun z => absurd z q2⟩⟩⟩, fun q2 => ⟨fun q3 => ?_, fun q3 => ⟨a, b, c, f, rfl, fun z => absurd (ga.mp q) z, fun _ => ⟨fun z => absurd (gb.mp q1) z, fun _ => ⟨fun z => absurd q2 z, fun _ => ⟨fun z => absurd z q3, fun _ => ⟨rfl, h⟩⟩⟩⟩⟩⟩⟩⟩⟩
  have va := mo_inI (iv_in h8.1 (by omega) q)
  have hb := iv_in h2.1 (by omega) q1
  have hb60 := mo_inw hb hM
  have hp := iv_bpre hP h2 h5 h6 h8 va.1 va.2
  have hl := iv_lpre hM h3
  have hpre := And.intro hl.1 hp.1
  have hA1 := hz_iv a c 0 hA
  have hA2 := hz_iv a c 1 hA1
  have k2 := hA1.2.1
  have k3 := hA1.2.2.1
  have k5 := hA1.2.2.2.2.1
  have k6 := hA1.2.2.2.2.2.1
  have k8 := hA1.2.2.2.2.2.2.2.1
  have d1 := (hz_spr (d := c) (z := 0) hP h2 h3 h5 h6 h8 va.1 va.2).1
  have d2 := (hz_spr (d := c) (z := 1) hP k2 k3 k5 k6 k8 va.1 va.2).1
  have le1 : mo_le ((hz_T σ a c 0).1 33 0 2) 60 := iv_le (n := (mo_hit σ a c 0).2.2.2) rfl d1 (by omega)
  have le2 : mo_le ((hz_T (hz_T σ a c 0) a c 1).1 33 0 2) 60 := iv_le (n := (mo_hit (hz_T σ a c 0) a c 1).2.2.2) rfl d2 (by omega)
  have qa := ga.mp q
  have qb := gb.mp q1
  have qa1 : 0 ≤ a ∧ a ≤ (hz_T σ a c 0).1 50 0 36 - 1 := qa
  have qb1 : 0 ≤ b ∧ b ≤ (hz_T σ a c 0).1 50 0 2 - 1 := qb
  have qa2 : 0 ≤ a ∧ a ≤ (hz_T (hz_T σ a c 0) a c 1).1 50 0 36 - 1 := qa
  have qb2 : 0 ≤ b ∧ b ≤ (hz_T (hz_T σ a c 0) a c 1).1 50 0 2 - 1 := qb
  refine ⟨hpre, fun z0 => ⟨hpre, fun z1 => ?_, fun z1 => ?_⟩, fun z0 => ?_⟩
  · have g := wy_no hA2 va.1 va.2 hb qa2 qb2 q2 q3 (wy_g2 hA1 va.1 va.2 hb z1)
    exact ⟨fun nf => ⟨fun _ => g.1 nf, fun v => absurd (wy_0 q3 nf) v⟩, g.2⟩
  · have hno : ∀ r y, mo_hC (hz_T σ a c 0) a c r y → r b.toNatClampNeg = -1 := fun r y hC => Classical.byContradiction fun v => z0 ((wy_bt hA va.1 va.2 hb (hz_hCT hC)).1.mpr v)
    have g := wy_yes hA2 va.1 va.2 hb qa2 qb2 q2 q3 (wy_g1 hA1 va.1 va.2 hb hno z1)
    exact ⟨le2, fun nf => ⟨(g.1 nf).1, fun nle => ⟨wy_pre (σ := hz_T σ a c 0) hM k3 hb60 d2 rfl (wy_0 q3 nf) nle, (g.1 nf).2 nle⟩⟩, g.2⟩
  · have g := wy_yes hA1 va.1 va.2 hb qa1 qb1 q2 q3 (wy_g0 hA va.1 va.2 hb z0)
    exact ⟨le1, fun nf => ⟨(g.1 nf).1, fun nle => ⟨wy_pre hM h3 hb60 d1 rfl (wy_0 q3 nf) nle, (g.1 nf).2 nle⟩⟩, g.2⟩
