/-- the sites of a set of makes, as bits -/
noncomputable def hs_s (σ : mo_M) (s : Int64) (day c : Int32) : Nat → Int32 := mo_fo (fun k a => mo_ite ((σ.1 17 0 k ≤ c ∧ mo_bt s (σ.1 14 0 k)) ∧ σ.1 15 0 k ≤ day ∧ day ≤ σ.1 16 0 k) (a ||| (1 : Int32) <<< (σ.1 13 0 k &&& 31)) a) 0
theorem hs_bit {σ : mo_M} {s : Int64} {day c : Int32} {M H j : Nat} (hH : iv_H σ M H) (hj : j < 64) : ∀ n, n ≤ H → (mo_bt (hs_s σ s day c n).toInt64 (nI j) ↔ ∃ k, k < n ∧ (σ.1 13 0 k).toNatClampNeg = j ∧ σ.1 17 0 k ≤ c ∧ mo_bt s (σ.1 14 0 k) ∧ σ.1 15 0 k ≤ day ∧ day ≤ σ.1 16 0 k) := by
  intro n
  induction n with
  | zero =>
    intro _
    refine ⟨fun q => absurd q ?_, fun ⟨k, hk, _⟩ => absurd hk (by omega)⟩
    exact bt_0 hj
  | succ n ih =>
    intro hn
    have ih := ih (by omega)
    obtain ⟨x1, x2, x3, x4, x5, x6, x7, x8⟩ := hH.2.2.2 n (by omega)
    have y6 := mo_inI x6
    have hs : hs_s σ s day c (n + 1) = mo_ite ((σ.1 17 0 n ≤ c ∧ mo_bt s (σ.1 14 0 n)) ∧ σ.1 15 0 n ≤ day ∧ day ≤ σ.1 16 0 n) (hs_s σ s day c n ||| (1 : Int32) <<< (σ.1 13 0 n &&& 31)) (hs_s σ s day c n) := rfl
    rw [hs]
    by_cases q : (σ.1 17 0 n ≤ c ∧ mo_bt s (σ.1 14 0 n)) ∧ σ.1 15 0 n ≤ day ∧ day ≤ σ.1 16 0 n
    · rw [mo_ite_t q, bt_ior _ _ hj, ih]
      have hb := bt_ibit (i := (σ.1 13 0 n).toNatClampNeg) (j := j) y6.2 hj
      rw [← y6.1] at hb
      rw [hb]
      constructor
      · rintro (⟨k, hk, z⟩ | z)
        · exact ⟨k, by omega, z⟩
        · exact ⟨n, by omega, z, q.1.1, q.1.2, q.2⟩
      · rintro ⟨k, hk, z⟩
        by_cases e : k = n
        · subst e; exact Or.inr z.1
        · exact Or.inl ⟨k, by omega, z⟩
    · rw [mo_ite_f q, ih]
      constructor
      · rintro ⟨k, hk, z⟩; exact ⟨k, by omega, z⟩
      · rintro ⟨k, hk, z⟩
        by_cases e : k = n
        · subst e; exact absurd ⟨⟨z.2.1, z.2.2.1⟩, z.2.2.2⟩ q
        · exact ⟨k, by omega, z⟩
/-- the reference's greatest -/
theorem hs_max {σ : mo_M} {a b c : Int32} {n : Nat} : ∀ m, m ≤ n → (let x := mo_fo (fun k s => mo_ite (σ.1 59 0 k = a ∧ σ.1 63 0 k ≤ c ∧ (σ.1 61 0 k ≤ b ∧ b ≤ σ.1 62 0 k)) (mo_ite (s < mo_hof σ (σ.1 60 0 k)) (mo_hof σ (σ.1 60 0 k)) s) s) 0 m; (x = 0 ∨ x = 1 ∨ x = 2) ∧ (x = 2 ↔ ∃ k, k < m ∧ (σ.1 59 0 k = a ∧ σ.1 63 0 k ≤ c ∧ (σ.1 61 0 k ≤ b ∧ b ≤ σ.1 62 0 k)) ∧ mo_hof σ (σ.1 60 0 k) = 2) ∧ (¬ x = 0 ↔ ∃ k, k < m ∧ (σ.1 59 0 k = a ∧ σ.1 63 0 k ≤ c ∧ (σ.1 61 0 k ≤ b ∧ b ≤ σ.1 62 0 k)) ∧ ¬ mo_hof σ (σ.1 60 0 k) = 0)) := by
  intro m
  induction m with
  | zero => intro _; exact ⟨Or.inl rfl, ⟨fun q => absurd (show (0 : Int32) = 2 from q) (by decide), fun ⟨k, hk, _⟩ => absurd hk (by omega)⟩, fun q => absurd rfl q, fun ⟨k, hk, _⟩ => absurd hk (by omega)⟩
  | succ m ih =>
    intro hm
    have ih := ih (by omega)
    generalize hf : (fun k s => mo_ite (σ.1 59 0 k = a ∧ σ.1 63 0 k ≤ c ∧ (σ.1 61 0 k ≤ b ∧ b ≤ σ.1 62 0 k)) (mo_ite (s < mo_hof σ (σ.1 60 0 k)) (mo_hof σ (σ.1 60 0 k)) s) s) = f at ih ⊢
    have hs : mo_fo f 0 (m + 1) = mo_ite (σ.1 59 0 m = a ∧ σ.1 63 0 m ≤ c ∧ (σ.1 61 0 m ≤ b ∧ b ≤ σ.1 62 0 m)) (mo_ite (mo_fo f 0 m < mo_hof σ (σ.1 60 0 m)) (mo_hof σ (σ.1 60 0 m)) (mo_fo f 0 m)) (mo_fo f 0 m) := by rw [← hf]; rfl
    have hv : mo_hof σ (σ.1 60 0 m) = 0 ∨ mo_hof σ (σ.1 60 0 m) = 1 ∨ mo_hof σ (σ.1 60 0 m) = 2 := by
      unfold mo_hof
      split
      · exact Or.inr (Or.inr rfl)
      · split
        · exact Or.inr (Or.inl rfl)
        · exact Or.inl rfl
    dsimp only at ih ⊢
    rw [hs]
    generalize mo_fo f 0 m = x at ih ⊢
    obtain ⟨i1, i2, i3⟩ := ih
    generalize hh : mo_hof σ (σ.1 60 0 m) = v at hv ⊢
    have ex : ∀ p : Int32 → Prop, (∃ k, k < m + 1 ∧ (σ.1 59 0 k = a ∧ σ.1 63 0 k ≤ c ∧ (σ.1 61 0 k ≤ b ∧ b ≤ σ.1 62 0 k)) ∧ p (mo_hof σ (σ.1 60 0 k))) ↔ (∃ k, k < m ∧ (σ.1 59 0 k = a ∧ σ.1 63 0 k ≤ c ∧ (σ.1 61 0 k ≤ b ∧ b ≤ σ.1 62 0 k)) ∧ p (mo_hof σ (σ.1 60 0 k))) ∨ ((σ.1 59 0 m = a ∧ σ.1 63 0 m ≤ c ∧ (σ.1 61 0 m ≤ b ∧ b ≤ σ.1 62 0 m)) ∧ p v) := by
      intro p
      constructor
      · rintro ⟨k, hk, q1, q2⟩
        by_cases e : k = m
        · subst e; rw [hh] at q2; exact Or.inr ⟨q1, q2⟩
        · exact Or.inl ⟨k, by omega, q1, q2⟩
      · rintro (⟨k, hk, q⟩ | ⟨q1, q2⟩)
        · exact ⟨k, by omega, q⟩
        · exact ⟨m, by omega, q1, by rw [hh]; exact q2⟩
    rw [ex (fun z => z = 2), ex (fun z => ¬ z = 0), ← i2, ← i3]
    by_cases q : σ.1 59 0 m = a ∧ σ.1 63 0 m ≤ c ∧ (σ.1 61 0 m ≤ b ∧ b ≤ σ.1 62 0 m)
    · rw [mo_ite_t q]
      clear ex i2 i3 hs hf
      rcases i1 with rfl | rfl | rfl <;> rcases hv with rfl | rfl | rfl <;> first | (rw [mo_ite_t (by decide)]; simp [q]) | (rw [mo_ite_f (by decide)]; simp [q])
    · rw [mo_ite_f q]
      exact ⟨i1, ⟨Or.inl, fun z => z.elim id (fun y => absurd y.1 q)⟩, ⟨Or.inl, fun z => z.elim id (fun y => absurd y.1 q)⟩⟩
noncomputable def hs_v (r q : Nat → Int32) (x : Int32) : Int32 := if ¬ r x.toNatClampNeg = (-1 : Int32) then 2 else if ¬ q x.toNatClampNeg = (-1 : Int32) then 1 else 0
noncomputable def hs_f (σ : mo_M) (r q : Nat → Int32) (a b c : Int32) : Int32 := mo_fo (fun k s => mo_ite (σ.1 59 0 k = a ∧ σ.1 63 0 k ≤ c ∧ (σ.1 61 0 k ≤ b ∧ b ≤ σ.1 62 0 k)) (mo_ite (s < hs_v r q (σ.1 60 0 k)) (hs_v r q (σ.1 60 0 k)) s) s) 0 (σ.1 50 0 12).toNatClampNeg
theorem hs_fE (σ : mo_M) (r q : Nat → Int32) (a b c d : Int32) : mo_hasf (mo_hM σ d r q) a b c = hs_f σ r q a b c := by
  have e1 : ∀ k, (mo_hM σ d r q).1 59 0 k = σ.1 59 0 k := fun _ => rfl
  have e2 : ∀ k, (mo_hM σ d r q).1 60 0 k = σ.1 60 0 k := fun _ => rfl
  have e3 : ∀ k, (mo_hM σ d r q).1 61 0 k = σ.1 61 0 k := fun _ => rfl
  have e4 : ∀ k, (mo_hM σ d r q).1 62 0 k = σ.1 62 0 k := fun _ => rfl
  have e5 : ∀ k, (mo_hM σ d r q).1 63 0 k = σ.1 63 0 k := fun _ => rfl
  have e6 : (mo_hM σ d r q).1 50 0 12 = σ.1 50 0 12 := rfl
  have e7 : ∀ x, mo_hof (mo_hM σ d r q) x = hs_v r q x := fun _ => rfl
  unfold mo_hasf hs_f
  simp only [e1, e2, e3, e4, e5, e6, e7]
theorem hs_fT (σ : mo_M) (r q : Nat → Int32) (a b c a' c' z : Int32) : hs_f (hz_T σ a' c' z) r q a b c = hs_f σ r q a b c := by
  have e1 : ∀ k, (hz_T σ a' c' z).1 59 0 k = σ.1 59 0 k := fun _ => rfl
  have e2 : ∀ k, (hz_T σ a' c' z).1 60 0 k = σ.1 60 0 k := fun _ => rfl
  have e3 : ∀ k, (hz_T σ a' c' z).1 61 0 k = σ.1 61 0 k := fun _ => rfl
  have e4 : ∀ k, (hz_T σ a' c' z).1 62 0 k = σ.1 62 0 k := fun _ => rfl
  have e5 : ∀ k, (hz_T σ a' c' z).1 63 0 k = σ.1 63 0 k := fun _ => rfl
  have e6 : (hz_T σ a' c' z).1 50 0 12 = σ.1 50 0 12 := rfl
  unfold hs_f
  simp only [e1, e2, e3, e4, e5, e6]
theorem hz_hCT {σ : mo_M} {a c a' c' z : Int32} {r y : Nat → Int32} (h : mo_hC (hz_T σ a' c' z) a c r y) : mo_hC σ a c r y := h
theorem hs_tail {σ : mo_M} {P M L H J U T W w : Nat} {a b c d x : Int32} (h : iv_A σ P M L H J U T W) (ha : a = nI w) (hw : w < W) (q : 0 ≤ a ∧ a ≤ σ.1 50 0 36 - 1) (q1 : 0 ≤ b ∧ b ≤ (29 : Int32)) (q2 : 0 ≤ c ∧ c ≤ (10000 : Int32)) (q3 : 0 ≤ d ∧ d ≤ (10000 : Int32)) (hx : ∀ r y, mo_hC σ a d r y → x = hs_f σ r y b c d) : S_X12_has [.inr (.inr (50, 0)), .inl a, .inl b, .inl c, .inl d] σ (fun r' υ => some (.inl x) = r' ∧ iv υ) := by
  obtain ⟨h1, h2, h3, h4, h5, h6, h7, h8, h9⟩ := id h
  have hM := h2.2.2.1
  have hH := h4.2.2.1
  have e2 := iv_cl h4.2.1 (by omega)
  refine ⟨a, b, c, d, rfl, fun z => absurd q z, fun _ => ⟨fun z => absurd q1 z, fun _ => ⟨fun z => absurd q2 z, fun _ => ⟨fun _ => ⟨hz_hP h ha hw, fun r y hC => ⟨⟨iv_le h4.2.1 hH (by omega), fun k hk => ?_⟩, by rw [hx r y hC, hs_fE], ⟨P, M, L, H, J, U, T, W, hz_ivM d r y h⟩⟩⟩, fun z => absurd q3 z⟩⟩⟩⟩
  have hk : k < H := by
    have z : k < (σ.1 50 0 12).toNatClampNeg := hk
    rw [e2] at z; exact z
  obtain ⟨x1, x2, x3, x4, x5, x6, x7, x8⟩ := h4.2.2.2 k hk
  show vp_in (σ.1 60 0 k) 60
  rw [x2]; exact mo_inw x7 hM
theorem hs_key {σ : mo_M} {P M L H J U T W : Nat} {a b c d : Int32} {r y : Nat → Int32} (h : iv_A σ P M L H J U T W) (hb : vp_in b 30) (hC : mo_hC σ a d r y) : (hs_f σ r y b c d = 0 ∨ hs_f σ r y b c d = 1 ∨ hs_f σ r y b c d = 2) ∧ (∀ s : Int64, (∀ m, m < M → (mo_bt s (nI m) ↔ ¬ r m = -1)) → (mo_bt (hs_s σ s c d (σ.1 12 0 5).toNatClampNeg).toInt64 b ↔ hs_f σ r y b c d = 2)) ∧ (∀ s : Int64, (∀ m, m < M → (mo_bt s (nI m) ↔ ¬ y m = -1)) → (mo_bt (hs_s σ s c d (σ.1 12 0 5).toNatClampNeg).toInt64 b ↔ ¬ hs_f σ r y b c d = 0)) := by
  obtain ⟨h1, h2, h3, h4, h5, h6, h7, h8, h9⟩ := id h
  have hH := h4.2.2.1
  have e1 := iv_cl h4.1 (by omega)
  have e2 : ((mo_hM σ d r y).1 50 0 12).toNatClampNeg = H := iv_cl h4.2.1 (by omega)
  have vb := mo_inI hb
  have mx := hs_max (σ := mo_hM σ d r y) (a := b) (b := c) (c := d) (n := H) H (Nat.le_refl _)
  have ef : hs_f σ r y b c d = mo_fo (fun k s => mo_ite ((mo_hM σ d r y).1 59 0 k = b ∧ (mo_hM σ d r y).1 63 0 k ≤ d ∧ ((mo_hM σ d r y).1 61 0 k ≤ c ∧ c ≤ (mo_hM σ d r y).1 62 0 k)) (mo_ite (s < mo_hof (mo_hM σ d r y) ((mo_hM σ d r y).1 60 0 k)) (mo_hof (mo_hM σ d r y) ((mo_hM σ d r y).1 60 0 k)) s) s) 0 H := by rw [← hs_fE σ r y b c d d]; unfold mo_hasf; rw [e2]
  dsimp only at mx
  rw [← ef] at mx
  refine ⟨mx.1, fun s hs => ?_, fun s hs => ?_⟩
  · rw [mx.2.1, e1]
    have q := hs_bit (s := s) (day := c) (c := d) h4 (j := b.toNatClampNeg) (by omega) H (Nat.le_refl _)
    rw [← vb.1] at q
    rw [q]
    refine exists_congr (fun k => and_congr_right (fun hk => ?_))
    obtain ⟨x1, x2, x3, x4, x5, x6, x7, x8⟩ := h4.2.2.2 k hk
    have z1 := (hz_hof h hC x7).2
    have z2 := hs _ (mo_inI x7).2
    rw [← (mo_inI x7).1] at z2
    show _ ↔ (σ.1 59 0 k = b ∧ σ.1 63 0 k ≤ d ∧ (σ.1 61 0 k ≤ c ∧ c ≤ σ.1 62 0 k)) ∧ mo_hof (mo_hM σ d r y) (σ.1 60 0 k) = 2
    rw [x1, x2, x3, x4, x5, z1, ← z2]
    have e13 : (σ.1 13 0 k).toNatClampNeg = b.toNatClampNeg ↔ σ.1 13 0 k = b := ⟨fun e => by rw [(mo_inI x6).1, e]; exact vb.1.symm, fun e => by rw [e]⟩
    rw [e13]
    exact ⟨fun ⟨y1, y2, y3, y4, y5⟩ => ⟨⟨y1, y2, y4, y5⟩, y3⟩, fun ⟨⟨y1, y2, y4, y5⟩, y3⟩ => ⟨y1, y2, y3, y4, y5⟩⟩
  · rw [mx.2.2, e1]
    have q := hs_bit (s := s) (day := c) (c := d) h4 (j := b.toNatClampNeg) (by omega) H (Nat.le_refl _)
    rw [← vb.1] at q
    rw [q]
    refine exists_congr (fun k => and_congr_right (fun hk => ?_))
    obtain ⟨x1, x2, x3, x4, x5, x6, x7, x8⟩ := h4.2.2.2 k hk
    have z1 := (hz_hof h hC x7).1
    have z2 := hs _ (mo_inI x7).2
    rw [← (mo_inI x7).1] at z2
    show _ ↔ (σ.1 59 0 k = b ∧ σ.1 63 0 k ≤ d ∧ (σ.1 61 0 k ≤ c ∧ c ≤ σ.1 62 0 k)) ∧ ¬ mo_hof (mo_hM σ d r y) (σ.1 60 0 k) = 0
    rw [x1, x2, x3, x4, x5, z1, ← z2]
    have e13 : (σ.1 13 0 k).toNatClampNeg = b.toNatClampNeg ↔ σ.1 13 0 k = b := ⟨fun e => by rw [(mo_inI x6).1, e]; exact vb.1.symm, fun e => by rw [e]⟩
    rw [e13]
    exact ⟨fun ⟨y1, y2, y3, y4, y5⟩ => ⟨⟨y1, y2, y4, y5⟩, y3⟩, fun ⟨⟨y1, y2, y4, y5⟩, y3⟩ => ⟨y1, y2, y3, y4, y5⟩⟩
theorem iv_has (a b c d : Int32) : iv_op S_X11_has S_X12_has [.inr (.inr (0, 0)), .inl a, .inl b, .inl c, .inl d] [.inr (.inr (50, 0)), .inl a, .inl b, .inl c, .inl d] := by
  intro σ h
  obtain ⟨P, M, L, H, J, U, T, W, hA⟩ := id h
  obtain ⟨h1, h2, h3, h4, h5, h6, h7, h8, h9⟩ := id hA
  have hP := h1.2.2.1
  have hM := h2.2.2.1
  have hW := h8.2.2.1
  have ga := iv_g (a := a) h8.1 h8.2.1 (by omega)
  refine ⟨a, b, c, d, rfl, fun q => ⟨a, b, c, d, rfl, fun _ => ⟨rfl, h⟩, fun z => absurd (ga.mpr z) q⟩, fun q => ⟨fun q1 => ⟨a, b, c, d, rfl, fun z => absurd (ga.mp q) z, fun _ => ⟨fun _ => ⟨rfl, h⟩, fun z => absurd z q1⟩⟩, fun q1 => ⟨fun q2 => ⟨a, b, c, d, rfl, fun z => absurd (ga.mp q) z, fun _ => ⟨fun z => absurd q1 z, fun _ => ⟨fun _ => ⟨rfl, h⟩, fun z => absurd z q2⟩⟩⟩, fun q2 => ⟨fun q3 => ?_, fun q3 => ⟨a, b, c, d, rfl, fun z => absurd (ga.mp q) z, fun _ => ⟨fun z => absurd q1 z, fun _ => ⟨fun z => absurd q2 z, fun _ => ⟨fun z => absurd z q3, fun _ => ⟨rfl, h⟩⟩⟩⟩⟩⟩⟩⟩⟩
  have va := mo_inI (iv_in h8.1 (by omega) q)
  have hvb : vp_in b 30 := iv_in2 (n := 29) rfl (by omega) q1
  have hp := iv_bpre hP h2 h5 h6 h8 va.1 va.2
  have hl := iv_lpre hM h3
  have hle := iv_le h4.1 h4.2.2.1 (by omega)
  have hA1 := hz_iv a d 0 hA
  have k0 : ∀ r y, mo_hC σ a d r y → (mo_bt (hs_s σ (mo_hit σ a d 0).1 c d (σ.1 12 0 5).toNatClampNeg).toInt64 b ↔ hs_f σ r y b c d = 2) := fun r y hC => (hs_key (c := c) hA hvb hC).2.1 _ (hz_both hA va.1 va.2 hC).1
  have k1 : ∀ r y, mo_hC σ a d r y → (mo_bt (hs_s σ (mo_hit (hz_T σ a d 0) a d 1).1 c d (σ.1 12 0 5).toNatClampNeg).toInt64 b ↔ ¬ hs_f σ r y b c d = 0) := fun r y hC => (hs_key (c := c) hA hvb hC).2.2 _ (hz_both (σ := hz_T σ a d 0) (c := d) (r := r) (q := y) hA1 va.1 va.2 hC).2
  refine ⟨⟨hl.1, hp.1⟩, hle, fun z => ⟨⟨hl.1, hp.1⟩, hle, fun y => ?_, fun y => ?_⟩, fun z => ?_⟩
  · refine hs_tail (σ := hz_T (hz_T σ a d 0) a d 1) (hz_iv a d 1 hA1) va.1 va.2 (ga.mp q) q1 q2 q3 (fun r x hC => ?_)
    rw [hs_fT, hs_fT]
    have hC := hz_hCT (hz_hCT hC)
    have w : ¬ mo_bt (hs_s σ (mo_hit (hz_T σ a d 0) a d 1).1 c d (σ.1 12 0 5).toNatClampNeg).toInt64 b := y
    rw [k1 r x hC] at w
    exact (Classical.not_not.mp w).symm
  · refine hs_tail (σ := hz_T (hz_T σ a d 0) a d 1) (hz_iv a d 1 hA1) va.1 va.2 (ga.mp q) q1 q2 q3 (fun r x hC => ?_)
    rw [hs_fT, hs_fT]
    have hC := hz_hCT (hz_hCT hC)
    have w : mo_bt (hs_s σ (mo_hit (hz_T σ a d 0) a d 1).1 c d (σ.1 12 0 5).toNatClampNeg).toInt64 b := y
    rw [k1 r x hC] at w
    have w2 : ¬ mo_bt (hs_s σ (mo_hit σ a d 0).1 c d (σ.1 12 0 5).toNatClampNeg).toInt64 b := z
    rw [k0 r x hC] at w2
    rcases (hs_key (c := c) hA hvb hC).1 with e | e | e
    · exact absurd e w
    · exact e.symm
    · exact absurd e w2
  · refine hs_tail (σ := hz_T σ a d 0) hA1 va.1 va.2 (ga.mp q) q1 q2 q3 (fun r x hC => ?_)
    rw [hs_fT]
    have hC := hz_hCT hC
    have w2 : mo_bt (hs_s σ (mo_hit σ a d 0).1 c d (σ.1 12 0 5).toNatClampNeg).toInt64 b := z
    rw [k0 r x hC] at w2
    exact w2.symm
