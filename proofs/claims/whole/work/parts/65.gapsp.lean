/-! gaps and recall on both sides -/
theorem pq_ct {X : Nat} {A : Nat → Prop} : ∀ {n : Nat}, (∀ k, k < n → (A k ↔ X.testBit k = true)) → mo_fo (fun k s => mo_ite (A k) (s + (1 : Int32)) s) 0 n = nI (pq_c X n)
  | 0, _ => rfl
  | n + 1, h => by
    have ih := pq_ct (n := n) (fun k hk => h k (by omega))
    show mo_ite (A n) (mo_fo (fun k s => mo_ite (A k) (s + (1 : Int32)) s) 0 n + 1) (mo_fo (fun k s => mo_ite (A k) (s + (1 : Int32)) s) 0 n) = nI (pq_c X n + (if X.testBit n then 1 else 0))
    rw [ih]
    by_cases c : X.testBit n = true
    · rw [mo_ite_t ((h n (by omega)).mpr c), if_pos c, nI_1]
    · rw [mo_ite_f (fun z => c ((h n (by omega)).mp z)), if_neg c, Nat.add_zero]
theorem pq_stop {X n : Nat} : ∀ m, (∀ j, n ≤ j → j < n + m → ¬ X.testBit j = true) → pq_c X (n + m) = pq_c X n
  | 0, _ => rfl
  | m + 1, h => by
    have ih := pq_stop (X := X) (n := n) m (fun j h1 h2 => h j h1 (by omega))
    show pq_c X (n + m) + (if X.testBit (n + m) then 1 else 0) = pq_c X n
    rw [ih, if_neg (h (n + m) (by omega) (by omega)), Nat.add_zero]
noncomputable def gp_s (σ : mo_M) (m : Nat → Int32) (a b s : Int32) : Nat → Int32 := mo_fo (fun k s_ => mo_ite (σ.1 7 0 k = a ∧ σ.1 9 0 k = s ∧ (σ.1 10 0 k ≤ b ∧ b < σ.1 11 0 k)) (s_ ||| (m (σ.1 4 0 (σ.1 8 0 k).toNatClampNeg).toNatClampNeg &&& -(m (σ.1 4 0 (σ.1 8 0 k).toNatClampNeg).toNatClampNeg))) s_) 0
/-- the lowest of a group, as a bit -/
theorem gz_lowbit {m l : Nat → Int32} (h : gz_R m l) {p j : Nat} (hp : p < 30) (hj : j < 32) : ib (m p &&& -(m p)) j ↔ l p = nI j := by
  obtain ⟨h1, h2, h3⟩ := h.1 p hp
  have hb : ∀ i, i < 32 → (ib (m p) i ↔ i < 30 ∧ l p = l i) := fun i hi => by rw [← ib_bt _ hi]; exact h.2 p hp i (by omega)
  rw [ib_low _ hj]
  constructor
  · rintro ⟨x, y⟩
    obtain ⟨x1, x2⟩ := (hb j hj).mp x
    obtain ⟨j1, j2, j3⟩ := h.1 j x1
    rw [← x2] at j2
    by_cases e : (l p).toNatClampNeg = j
    · rw [h1, e]
    · exact absurd ((hb _ (by omega)).mpr ⟨by omega, h3.symm⟩) (y (l p).toNatClampNeg (by omega))
  · intro e
    have ej : (l p).toNatClampNeg = j := by rw [e]; exact mo_cl (by omega)
    rw [ej] at h2 h3
    refine ⟨(hb j hj).mpr ⟨by omega, h3.symm⟩, fun i hi x => ?_⟩
    obtain ⟨x1, x2⟩ := (hb i (by omega)).mp x
    have := (h.1 i x1).2.1
    rw [← x2, ej] at this
    omega
theorem gp_bit {σ : mo_M} {m l : Nat → Int32} {a b s : Int32} {P M L j : Nat} (hP : P ≤ 30) (hM : iv_M σ P M) (hL : iv_L σ M L) (hR : gz_R m l) (hj : j < 32) : ∀ n, n ≤ L → (ib (gp_s σ m a b s n) j ↔ ∃ u, u < n ∧ (σ.1 7 0 u = a ∧ σ.1 9 0 u = s ∧ (σ.1 10 0 u ≤ b ∧ b < σ.1 11 0 u)) ∧ l (σ.1 4 0 (σ.1 8 0 u).toNatClampNeg).toNatClampNeg = nI j) := by
  intro n
  induction n with
  | zero => intro _; exact ⟨fun q => absurd q (ib_0 j), fun ⟨u, hu, _⟩ => absurd hu (by omega)⟩
  | succ n ih =>
    intro hn
    have ih := ih (by omega)
    obtain ⟨x1, x2, x3, x4, x5, x6, x7, x8, x9⟩ := hL.2.2.2 n (by omega)
    have y7 := mo_inI x7
    obtain ⟨m1, m2, m3, m4⟩ := hM.2.2.2 _ y7.2
    have z3 := mo_inI m3
    have hs : gp_s σ m a b s (n + 1) = mo_ite (σ.1 7 0 n = a ∧ σ.1 9 0 n = s ∧ (σ.1 10 0 n ≤ b ∧ b < σ.1 11 0 n)) (gp_s σ m a b s n ||| (m (σ.1 4 0 (σ.1 8 0 n).toNatClampNeg).toNatClampNeg &&& -(m (σ.1 4 0 (σ.1 8 0 n).toNatClampNeg).toNatClampNeg))) (gp_s σ m a b s n) := rfl
    rw [hs]
    by_cases c : σ.1 7 0 n = a ∧ σ.1 9 0 n = s ∧ (σ.1 10 0 n ≤ b ∧ b < σ.1 11 0 n)
    · rw [mo_ite_t c, ib_or, ih, gz_lowbit hR (by omega) hj]
      constructor
      · rintro (⟨u, hu, q⟩ | q)
        · exact ⟨u, by omega, q⟩
        · exact ⟨n, by omega, c, q⟩
      · rintro ⟨u, hu, q⟩
        by_cases e : u = n
        · subst e; exact Or.inr q.2
        · exact Or.inl ⟨u, by omega, q⟩
    · rw [mo_ite_f c, ih]
      constructor
      · rintro ⟨u, hu, q⟩; exact ⟨u, by omega, q⟩
      · rintro ⟨u, hu, q⟩
        by_cases e : u = n
        · subst e; exact absurd q.1 c
        · exact ⟨u, by omega, q⟩
theorem iv_gpre {σ : mo_M} {P M L : Nat} (hP : P ≤ 30) (hM : iv_M σ P M) (hL : iv_L σ M L) : (mo_le (σ.1 6 0 5) 200 ∧ ∀ k, k < (σ.1 6 0 5).toNatClampNeg → vp_in (σ.1 8 0 k) 60 ∧ vp_in (σ.1 4 0 (σ.1 8 0 k).toNatClampNeg) 30) ∧ (mo_le (σ.1 50 0 6) 200 ∧ ∀ u, u < (σ.1 50 0 6).toNatClampNeg → vp_in (σ.1 55 0 u) 60 ∧ vp_in (σ.1 52 0 (σ.1 55 0 u).toNatClampNeg) 30) := by
  have hL2 := hL.2.2.1
  have hM6 := hM.2.2.1
  refine ⟨⟨iv_le hL.1 hL2 (by omega), fun k hk => ?_⟩, iv_le hL.2.1 hL2 (by omega), fun k hk => ?_⟩
  · rw [iv_cl hL.1 (by omega)] at hk
    obtain ⟨x1, x2, x3, x4, x5, x6, x7, x8, x9⟩ := hL.2.2.2 k hk
    exact ⟨mo_inw x7 hM6, mo_inw (hM.2.2.2 _ (mo_inI x7).2).2.2.1 hP⟩
  · rw [iv_cl hL.2.1 (by omega)] at hk
    obtain ⟨x1, x2, x3, x4, x5, x6, x7, x8, x9⟩ := hL.2.2.2 k hk
    obtain ⟨y1, y2, y3, y4⟩ := hM.2.2.2 _ (mo_inI x7).2
    rw [x2, y1]
    exact ⟨mo_inw x7 hM6, mo_inw y3 hP⟩
/-- the number of gaps on both sides; s: the sort that is there, s': the sort that is wanting -/
theorem gp_count {σ : mo_M} {a b s s' : Int32} {P M L J U : Nat} (hP : P ≤ 30) (hM : iv_M σ P M) (hL : iv_L σ M L) (hJ : iv_J σ P J) (hU : iv_U σ P U) : mo_pc (gp_s σ (mo_set1 σ b J).1 a b s L &&& (gp_s σ (mo_set1 σ b J).1 a b s' L ^^^ (-1 : Int32))) = mo_fo (fun k t => mo_ite ((∃ u, u < L ∧ (σ.1 57 0 u ≤ b ∧ b < σ.1 58 0 u) ∧ σ.1 54 0 u = a ∧ σ.1 56 0 u = s ∧ (mo_gat σ b J).1 (σ.1 52 0 (σ.1 55 0 u).toNatClampNeg).toNatClampNeg = nI k) ∧ ¬ ∃ u, u < L ∧ (σ.1 57 0 u ≤ b ∧ b < σ.1 58 0 u) ∧ σ.1 54 0 u = a ∧ σ.1 56 0 u = s' ∧ (mo_gat σ b J).1 (σ.1 52 0 (σ.1 55 0 u).toNatClampNeg).toNatClampNeg = nI k) (t + (1 : Int32)) t) 0 P := by
  have hg := (gz_main (d := b) hP hJ hU J (Nat.le_refl _)).1
  have hb : ∀ s j, j < 32 → (ib (gp_s σ (mo_set1 σ b J).1 a b s L) j ↔ ∃ u, u < L ∧ (σ.1 57 0 u ≤ b ∧ b < σ.1 58 0 u) ∧ σ.1 54 0 u = a ∧ σ.1 56 0 u = s ∧ (mo_gat σ b J).1 (σ.1 52 0 (σ.1 55 0 u).toNatClampNeg).toNatClampNeg = nI j) := by
    intro s j hj
    rw [gp_bit hP hM hL hg hj L (Nat.le_refl _)]
    refine exists_congr (fun u => and_congr_right (fun hu => ?_))
    obtain ⟨x1, x2, x3, x4, x5, x6, x7, x8, x9⟩ := hL.2.2.2 u hu
    obtain ⟨y1, y2, y3, y4⟩ := hM.2.2.2 _ (mo_inI x7).2
    rw [x1, x2, x3, x4, x5, y1]
    exact ⟨fun ⟨⟨q1, q2, q3⟩, q4⟩ => ⟨q3, q1, q2, q4⟩, fun ⟨q3, q1, q2, q4⟩ => ⟨⟨q1, q2, q3⟩, q4⟩⟩
  have hlow : ∀ s j, j < 32 → ib (gp_s σ (mo_set1 σ b J).1 a b s L) j → j < P := by
    intro s j hj q
    obtain ⟨u, hu, -, q2⟩ := (gp_bit hP hM hL hg hj L (Nat.le_refl _)).mp q
    obtain ⟨x1, x2, x3, x4, x5, x6, x7, x8, x9⟩ := hL.2.2.2 u hu
    obtain ⟨y1, y2, y3, y4⟩ := hM.2.2.2 _ (mo_inI x7).2
    have z3 := mo_inI y3
    have w := (hg.1 (σ.1 4 0 (σ.1 8 0 u).toNatClampNeg).toNatClampNeg (by omega)).2.1
    rw [q2, mo_cl (by omega)] at w
    omega
  rw [pq_main]
  generalize hX : (gp_s σ (mo_set1 σ b J).1 a b s L &&& (gp_s σ (mo_set1 σ b J).1 a b s' L ^^^ (-1 : Int32))) = X
  have hXb : ∀ j, ib X j ↔ ib (gp_s σ (mo_set1 σ b J).1 a b s L) j ∧ ¬ ib (gp_s σ (mo_set1 σ b J).1 a b s' L) j := fun j => by rw [← hX]; exact ib_not _ _ _
  have e32 : pq_c X.toBitVec.toNat 32 = pq_c X.toBitVec.toNat P := by
    have q := pq_stop (X := X.toBitVec.toNat) (n := P) (32 - P) (fun j h1 h2 z => by
      have := hlow s j (by omega) ((hXb j).mp z).1
      omega)
    rw [show P + (32 - P) = 32 from by omega] at q
    exact q
  rw [e32, pq_ct (X := X.toBitVec.toNat) (fun k hk => ?_)]
  show _ ↔ ib X k
  rw [hXb k, hb s k (by omega), hb s' k (by omega)]
theorem iv_gaps (a b c : Int32) : iv_op S_X11_gaps S_X12_gaps [.inr (.inr (0, 0)), .inl a, .inl b, .inl c] [.inr (.inr (50, 0)), .inl a, .inl b, .inl c] := by
  intro σ h
  obtain ⟨P, M, L, H, J, U, T, W, h1, h2, h3, h4, h5, h6, h7, h8, h9⟩ := id h
  have hP := h1.2.2.1
  have g := iv_g (a := a) h2.1 h2.2.1 (by have := h2.2.2.1; omega)
  have hp := iv_pre hP h5 h6
  have hgp := iv_gpre hP h2 h3
  have eL1 := iv_cl h3.1 (by have := h3.2.2.1; omega)
  have eL2 := iv_cl h3.2.1 (by have := h3.2.2.1; omega)
  have eJ1 := iv_cl h5.1 (by have := h5.2.2.1; omega)
  have eJ2 := iv_cl h5.2.1 (by have := h5.2.2.1; omega)
  have eP := iv_cl h1.2.1 (by omega)
  have hle : mo_le (σ.1 50 0 1) 30 := iv_le h1.2.1 hP (by omega)
  have no : ∀ τ, iv τ → τ.1 50 0 2 = σ.1 50 0 2 → ¬ ((0 ≤ a ∧ a ≤ σ.1 50 0 2 - 1) ∧ (0 ≤ b ∧ b ≤ (10000 : Int32)) ∧ (0 ≤ c ∧ c ≤ (1 : Int32))) → τ = σ → S_X12_gaps [.inr (.inr (50, 0)), .inl a, .inl b, .inl c] τ (fun r' υ => some (.inl (-1 : Int32)) = r' ∧ iv υ) := by
    rintro τ hτ e z rfl
    refine ⟨a, b, c, rfl, ⟨hp.2, hle, hgp.2⟩, ?_, ?_⟩
    · rw [mo_ite_f z]
    · rw [mo_ite_f z]; exact hτ
  refine ⟨a, b, c, rfl, fun q => no σ h rfl (fun z => q (g.mpr z.1)) rfl, fun q => ⟨fun q1 => no σ h rfl (fun z => q1 z.2.1) rfl, fun q1 => ⟨fun q2 => ?_, fun q2 => no σ h rfl (fun z => q2 z.2.2) rfl⟩⟩⟩
  have yes : (0 ≤ a ∧ a ≤ σ.1 50 0 2 - 1) ∧ (0 ≤ b ∧ b ≤ (10000 : Int32)) ∧ (0 ≤ c ∧ c ≤ (1 : Int32)) := ⟨g.mp q, q1, q2⟩
  have hc : ¬ c = 0 → c = 1 := by
    intro z
    obtain ⟨j, hj, rfl⟩ := nI_of (Int32.not_lt.mpr q2.1)
    have e := q2.2
    rw [show (1 : Int32) = nI 1 from rfl, nI_leI hj (by omega)] at e
    rcases (by omega : j = 0 ∨ j = 1) with rfl | rfl
    · exact absurd rfl z
    · rfl
  have hI : iv (mo_gM (mo_rowI σ 29 0 (mo_grp σ b)) b) := ⟨P, M, L, H, J, U, T, W, h1, h2, h3, h4, h5, h6, h7, h8, h9⟩
  have key : ∀ x : Int32, x = mo_fo (fun k t => mo_ite ((∃ u, u < L ∧ (σ.1 57 0 u ≤ b ∧ b < σ.1 58 0 u) ∧ σ.1 54 0 u = a ∧ σ.1 56 0 u = ((1 : Int32) - c) ∧ (mo_gat σ b J).1 (σ.1 52 0 (σ.1 55 0 u).toNatClampNeg).toNatClampNeg = nI k) ∧ ¬ ∃ u, u < L ∧ (σ.1 57 0 u ≤ b ∧ b < σ.1 58 0 u) ∧ σ.1 54 0 u = a ∧ σ.1 56 0 u = c ∧ (mo_gat σ b J).1 (σ.1 52 0 (σ.1 55 0 u).toNatClampNeg).toNatClampNeg = nI k) (t + (1 : Int32)) t) 0 P → S_X12_gaps [.inr (.inr (50, 0)), .inl a, .inl b, .inl c] (mo_rowI σ 29 0 (mo_grp σ b)) (fun r' υ => some (.inl x) = r' ∧ iv υ) := by
    intro x hx
    refine ⟨a, b, c, rfl, ⟨hp.2, hle, hgp.2⟩, ?_, ?_⟩
    · rw [mo_ite_t (show (0 ≤ a ∧ a ≤ (mo_rowI σ 29 0 (mo_grp σ b)).1 50 0 2 - 1) ∧ (0 ≤ b ∧ b ≤ (10000 : Int32)) ∧ (0 ≤ c ∧ c ≤ (1 : Int32)) from yes)]
      refine congrArg (fun x => some (Sum.inl x : mo_V)) ?_
      rw [hx, ← eL2, ← eP, ← eJ2]
      rfl
    · rw [mo_ite_t (show (0 ≤ a ∧ a ≤ (mo_rowI σ 29 0 (mo_grp σ b)).1 50 0 2 - 1) ∧ (0 ≤ b ∧ b ≤ (10000 : Int32)) ∧ (0 ≤ c ∧ c ≤ (1 : Int32)) from yes)]
      exact hI
  refine ⟨hp.1, hgp.1, hgp.1, fun z => key _ ?_, fun z => key _ ?_⟩
  · have e := gp_count (a := a) (b := b) (s := 0) (s' := 1) hP h2 h3 h5 h6
    rw [hc z, show (1 : Int32) - 1 = 0 from by decide, ← e, ← eL1, ← eJ1]
    rfl
  · have e := gp_count (a := a) (b := b) (s := 1) (s' := 0) hP h2 h3 h5 h6
    rw [z, show (1 : Int32) - 0 = 1 from by decide, ← e, ← eL1, ← eJ1]
    rfl
/-! recall -/
theorem wI_ne {σ : mo_M} {o w k a b c : Nat} {v : Int32} (h : ¬ (a = o ∧ b = w ∧ c = k)) : (mo_wI σ o w k v).1 a b c = σ.1 a b c := if_neg h
theorem wI_eq {σ : mo_M} {o w k : Nat} {v : Int32} : (mo_wI σ o w k v).1 o w k = v := if_pos ⟨rfl, rfl, rfl⟩
theorem rc_fold {f : Nat → Int32} {t0 : Int32} {X : Nat} (hX : ∀ j, j < 30 → (X.testBit j = true ↔ ¬ f j = 0 ∧ ¬ ib t0 j)) : ∀ n, n ≤ 30 → (∀ j, j < 32 → (ib (mo_fo (fun k (p : Int32 × Int32) => mo_ite (¬ f k = 0 ∧ ¬ p.1 >>> (nI k &&& 31) &&& 1 = 1) (p.1 ||| (1 : Int32) <<< (nI k &&& 31), p.2 + 1) p) (t0, 0) n).1 j ↔ ib t0 j ∨ (j < n ∧ ¬ f j = 0))) ∧ (mo_fo (fun k (p : Int32 × Int32) => mo_ite (¬ f k = 0 ∧ ¬ p.1 >>> (nI k &&& 31) &&& 1 = 1) (p.1 ||| (1 : Int32) <<< (nI k &&& 31), p.2 + 1) p) (t0, 0) n).2 = nI (pq_c X n) := by
  intro n
  induction n with
  | zero => intro _; exact ⟨fun j hj => ⟨Or.inl, fun q => q.elim id (fun z => absurd z.1 (by omega))⟩, rfl⟩
  | succ n ih =>
    intro hn
    obtain ⟨i1, i2⟩ := ih (by omega)
    generalize hf : (fun k (p : Int32 × Int32) => mo_ite (¬ f k = 0 ∧ ¬ p.1 >>> (nI k &&& 31) &&& 1 = 1) (p.1 ||| (1 : Int32) <<< (nI k &&& 31), p.2 + 1) p) = F at i1 i2 ⊢
    have hs : mo_fo F (t0, 0) (n + 1) = mo_ite (¬ f n = 0 ∧ ¬ (mo_fo F (t0, 0) n).1 >>> (nI n &&& 31) &&& 1 = 1) ((mo_fo F (t0, 0) n).1 ||| (1 : Int32) <<< (nI n &&& 31), (mo_fo F (t0, 0) n).2 + 1) (mo_fo F (t0, 0) n) := by rw [← hf]; rfl
    rw [hs]
    generalize mo_fo F (t0, 0) n = p at i1 i2 ⊢
    have hbn : p.1 >>> (nI n &&& 31) &&& 1 = 1 ↔ ib t0 n := by
      rw [(ib_at p.1 (s := n) (by omega)).2, i1 n (by omega)]
      exact ⟨fun q => q.elim id (fun z => absurd z.1 (by omega)), Or.inl⟩
    show (∀ j, j < 32 → _) ∧ _ = nI (pq_c X n + (if X.testBit n then 1 else 0))
    by_cases c : ¬ f n = 0 ∧ ¬ p.1 >>> (nI n &&& 31) &&& 1 = 1
    · rw [mo_ite_t c, if_pos ((hX n (by omega)).mpr ⟨c.1, fun z => c.2 (hbn.mpr z)⟩)]
      refine ⟨fun j hj => ?_, by show p.2 + 1 = _; rw [i2, nI_1]⟩
      show ib (p.1 ||| (1 : Int32) <<< (nI n &&& 31)) j ↔ _
      rw [ib_or, i1 j hj, ib_bit (by omega) j]
      constructor
      · rintro ((q | q) | rfl)
        · exact Or.inl q
        · exact Or.inr ⟨by omega, q.2⟩
        · exact Or.inr ⟨by omega, c.1⟩
      · rintro (q | q)
        · exact Or.inl (Or.inl q)
        · by_cases e : n = j
          · exact Or.inr e
          · exact Or.inl (Or.inr ⟨by omega, q.2⟩)
    · rw [mo_ite_f c, if_neg (fun z => c ⟨((hX n (by omega)).mp z).1, fun y => ((hX n (by omega)).mp z).2 (hbn.mp y)⟩), Nat.add_zero]
      refine ⟨fun j hj => ?_, i2⟩
      rw [i1 j hj]
      constructor
      · rintro (q | q)
        · exact Or.inl q
        · exact Or.inr ⟨by omega, q.2⟩
      · rintro (q | q)
        · exact Or.inl q
        · by_cases e : n = j
          · subst e
            by_cases z : ib t0 n
            · exact Or.inl z
            · exact absurd ⟨q.2, fun y => z (hbn.mp y)⟩ c
          · exact Or.inr ⟨by omega, q.2⟩
noncomputable def rc_T (σ : mo_M) (a c v : Int32) : mo_M := mo_wI (mo_wI (hz_T σ a c 1) 39 a.toNatClampNeg 4 v) 0 0 14 0
theorem rc_fT (σ : mo_M) (r q : Nat → Int32) (a b c a' c' v : Int32) : hs_f (rc_T σ a' c' v) r q a b c = hs_f σ r q a b c := by
  have e1 : ∀ k, (rc_T σ a' c' v).1 59 0 k = σ.1 59 0 k := fun _ => rfl
  have e2 : ∀ k, (rc_T σ a' c' v).1 60 0 k = σ.1 60 0 k := fun _ => rfl
  have e3 : ∀ k, (rc_T σ a' c' v).1 61 0 k = σ.1 61 0 k := fun _ => rfl
  have e4 : ∀ k, (rc_T σ a' c' v).1 62 0 k = σ.1 62 0 k := fun _ => rfl
  have e5 : ∀ k, (rc_T σ a' c' v).1 63 0 k = σ.1 63 0 k := fun _ => rfl
  have e6 : (rc_T σ a' c' v).1 50 0 12 = σ.1 50 0 12 := rfl
  unfold hs_f
  simp only [e1, e2, e3, e4, e5, e6]
theorem iv_recall (a b c : Int32) : iv_op S_X11_recall S_X12_recall [.inr (.inr (0, 0)), .inl a, .inl b, .inl c] [.inr (.inr (50, 0)), .inl a, .inl b, .inl c] := by
  intro σ h
  obtain ⟨P, M, L, H, J, U, T, W, hA⟩ := id h
  obtain ⟨h1, h2, h3, h4, h5, h6, h7, h8, h9⟩ := id hA
  have hP := h1.2.2.1
  have hM := h2.2.2.1
  have hH := h4.2.2.1
  have hW := h8.2.2.1
  have ga := iv_g (a := a) h8.1 h8.2.1 (by omega)
  refine ⟨a, b, c, rfl, fun q => ⟨a, b, c, rfl, fun _ => ⟨rfl, iv_ref h (by decide)⟩, fun z => absurd z q⟩, fun q => ⟨fun q1 => ⟨fun q2 => ?_, fun q2 => ⟨a, b, c, rfl, fun z => absurd q z, fun _ => ⟨fun _ => ⟨fun z => absurd (ga.mpr z) q2, fun _ => ⟨rfl, iv_ref h (by decide)⟩⟩, fun z => absurd q1 z⟩⟩⟩, fun q1 => ⟨a, b, c, rfl, fun z => absurd q z, fun _ => ⟨fun z => absurd z q1, fun _ => ⟨rfl, iv_ref h (by decide)⟩⟩⟩⟩⟩
  have hva := iv_in h8.1 (by omega) q2
  have va := mo_inI hva
  have hp := iv_bpre hP h2 h5 h6 h8 va.1 va.2
  have hl := iv_lpre hM h3
  have hle := iv_le h4.1 hH (by omega)
  have v20 : vp_in a 20 := mo_inw hva hW
  have l20 : a.toNatClampNeg < 20 := by omega
  have e2 := iv_cl h4.2.1 (by omega)
  have e1 := iv_cl h4.1 (by omega)
  refine ⟨⟨hl.1, hp.1⟩, hle, v20, l20, v20, l20, l20, ?_⟩
  have hA1 := hz_iv a c 1 hA
  generalize hhv : (mo_fo (fun k_ a_ => mo_ite ((σ.1 17 0 k_ ≤ c ∧ mo_bt ((mo_hit σ a c (1 : Int32)).1) (σ.1 14 0 k_)) ∧ σ.1 15 0 k_ ≤ b ∧ b ≤ σ.1 16 0 k_) (a_ ||| (1 : Int32) <<< (σ.1 13 0 k_ &&& 31)) a_) 0 (σ.1 12 0 5).toNatClampNeg) = hv
  have hhv2 : hs_s σ (mo_hit σ a c 1).1 b c (σ.1 12 0 5).toNatClampNeg = hv := hhv
  have hlow : ∀ j, j < 32 → ib hv j → j < 30 := by
    intro j hj z
    rw [← hhv2, e1] at z
    obtain ⟨k, hk, y, -⟩ := (hs_bit (s := (mo_hit σ a c 1).1) (day := b) (c := c) h4 (j := j) (by omega) H (Nat.le_refl _)).mp ((ib_bt _ hj).mpr z)
    have := mo_inI (h4.2.2.2 k hk).2.2.2.2.2.1
    omega
  have hfr : ∀ j, ib (hv &&& (σ.1 39 a.toNatClampNeg 4 ^^^ (-1 : Int32))) j ↔ ib hv j ∧ ¬ ib (σ.1 39 a.toNatClampNeg 4) j := fun j => ib_not _ _ _
  have hhP := hz_hP (σ := hz_T σ a c 1) hA1 va.1 va.2
  have h78 : σ.1 78 0 a.toNatClampNeg = σ.1 39 a.toNatClampNeg 4 := (h8.2.2.2.1 _ va.2).2.2.1
  refine ⟨a, b, c, rfl, fun z => absurd q z, fun _ => ⟨fun _ => ⟨fun _ => ⟨hhP, fun r y hC => ⟨⟨v20, iv_le h4.2.1 hH (by omega), fun k hk => ?_⟩, ?_⟩⟩, fun z => absurd (ga.mp q2) z⟩, fun z => absurd q1 z⟩⟩
  · have hk : k < H := by
      have z : k < (σ.1 50 0 12).toNatClampNeg := hk
      rw [e2] at z; exact z
    obtain ⟨x1, x2, x3, x4, x5, x6, x7, x8⟩ := h4.2.2.2 k hk
    show vp_in (σ.1 60 0 k) 60
    rw [x2]; exact mo_inw x7 hM
  · have hC0 : mo_hC σ a c r y := hC
    generalize hfrs : hv &&& (σ.1 39 a.toNatClampNeg 4 ^^^ (-1 : Int32)) = fr at hfr
    have hT : mo_wI (mo_wI (mo_wI (mo_rowL (mo_rowI (mo_rowL σ 34 0 (mo_layR σ c (1 : Int32))) 29 0 (mo_grp σ c)) 35 0 ((mo_hit σ a c (1 : Int32)).2.2.1)) 33 0 2 (nI (mo_hit σ a c (1 : Int32)).2.2.2)) 39 a.toNatClampNeg 4 (σ.1 39 a.toNatClampNeg 4 ||| fr)) 0 0 14 0 = rc_T σ a c (σ.1 39 a.toNatClampNeg 4 ||| fr) := rfl
    rw [hT]
    have hkey : ∀ j, j < 30 → (ib hv j ↔ ¬ hs_f σ r y (nI j) b c = 0) := by
      intro j hj
      have z := (hs_key (b := nI j) (c := b) (d := c) hA (mo_inN hj (by decide)) hC0).2.2 _ (hz_both hA va.1 va.2 hC0).2
      rw [hhv2, ib_bt _ (by omega)] at z
      exact z
    have hrec : mo_rec (mo_hM (rc_T σ a c (σ.1 39 a.toNatClampNeg 4 ||| fr)) c r y) a b c 30 = mo_fo (fun k (p : Int32 × Int32) => mo_ite (¬ hs_f σ r y (nI k) b c = 0 ∧ ¬ p.1 >>> (nI k &&& 31) &&& 1 = 1) (p.1 ||| (1 : Int32) <<< (nI k &&& 31), p.2 + 1) p) (σ.1 39 a.toNatClampNeg 4, 0) 30 := by
      have e0 : mo_rec (mo_hM (rc_T σ a c (σ.1 39 a.toNatClampNeg 4 ||| fr)) c r y) a b c 30 = mo_fo (fun k (p : Int32 × Int32) => mo_ite (¬ mo_hasf (mo_hM (rc_T σ a c (σ.1 39 a.toNatClampNeg 4 ||| fr)) c r y) (nI k) b c = 0 ∧ ¬ p.1 >>> (nI k &&& 31) &&& 1 = 1) (p.1 ||| (1 : Int32) <<< (nI k &&& 31), p.2 + 1) p) (σ.1 78 0 a.toNatClampNeg, 0) 30 := rfl
      rw [e0, h78]
      refine fo_c (fun k hk p => ?_)
      rw [hs_fE, rc_fT]
    obtain ⟨f1, f2⟩ := rc_fold (f := fun k => hs_f σ r y (nI k) b c) (t0 := σ.1 39 a.toNatClampNeg 4) (X := fr.toBitVec.toNat) (fun j hj => (hfr j).trans (and_congr_left' (hkey j hj))) 30 (Nat.le_refl _)
    rw [hrec]
    generalize mo_fo (fun k (p : Int32 × Int32) => mo_ite (¬ hs_f σ r y (nI k) b c = 0 ∧ ¬ p.1 >>> (nI k &&& 31) &&& 1 = 1) (p.1 ||| (1 : Int32) <<< (nI k &&& 31), p.2 + 1) p) (σ.1 39 a.toNatClampNeg 4, 0) 30 = p at f1 f2
    have ep : p.1 = σ.1 39 a.toNatClampNeg 4 ||| fr := by
      apply ib_ext
      intro j hj
      rw [f1 j hj, ib_or, hfr]
      constructor
      · rintro (z | ⟨z1, z2⟩)
        · exact Or.inl z
        · by_cases w : ib (σ.1 39 a.toNatClampNeg 4) j
          · exact Or.inl w
          · exact Or.inr ⟨(hkey j z1).mpr z2, w⟩
      · rintro (z | ⟨z1, z2⟩)
        · exact Or.inl z
        · have := hlow j hj z1
          exact Or.inr ⟨this, (hkey j this).mp z1⟩
    have en : mo_pc fr = p.2 := by
      rw [pq_main, f2]
      refine congrArg nI ?_
      exact pq_stop (X := fr.toBitVec.toNat) (n := 30) 2 (fun j j1 j2 z => by
        have := hlow j (by omega) ((hfr j).mp z).1
        omega)
    have hpos : (if p.2 < 0 then p.2 else 0) = (0 : Int32) := if_neg (by rw [f2]; exact nI_pos (by have := pq_le fr.toBitVec.toNat 30; omega))
    refine ⟨by rw [en], ?_⟩
    rw [hpos, ep]
    refine ⟨P, M, L, H, J, U, T, W, h1, h2, h3, h4, h5, h6, h7, ⟨h8.1, h8.2.1, hW, fun w hw => ?_, fun w hw1 hw2 => ?_⟩, h9.1, rfl⟩
    · obtain ⟨x1, x2, x3, x4, x5, x6⟩ := h8.2.2.2.1 w hw
      have g3 : (mo_wI (mo_wI (mo_hM (rc_T σ a c (σ.1 39 a.toNatClampNeg 4 ||| fr)) c r y) 78 0 a.toNatClampNeg (σ.1 39 a.toNatClampNeg 4 ||| fr)) 50 0 0 0).1 39 w 3 = σ.1 39 w 3 := wI_ne (σ := hz_T σ a c 1) (o := 39) (w := a.toNatClampNeg) (k := 4) (v := σ.1 39 a.toNatClampNeg 4 ||| fr) (a := 39) (b := w) (c := 3) (by omega)
      have g2 : (mo_wI (mo_wI (mo_hM (rc_T σ a c (σ.1 39 a.toNatClampNeg 4 ||| fr)) c r y) 78 0 a.toNatClampNeg (σ.1 39 a.toNatClampNeg 4 ||| fr)) 50 0 0 0).1 39 w 2 = σ.1 39 w 2 := wI_ne (σ := hz_T σ a c 1) (o := 39) (w := a.toNatClampNeg) (k := 4) (v := σ.1 39 a.toNatClampNeg 4 ||| fr) (a := 39) (b := w) (c := 2) (by omega)
      refine ⟨?_, ?_, ?_, ?_, x5, ?_⟩
      · rw [g3]; exact x1
      · rw [g3]; exact x2
      · show (mo_wI (hz_T σ a c 1) 78 0 a.toNatClampNeg (σ.1 39 a.toNatClampNeg 4 ||| fr)).1 78 0 w = (mo_wI (hz_T σ a c 1) 39 a.toNatClampNeg 4 (σ.1 39 a.toNatClampNeg 4 ||| fr)).1 39 w 4
        by_cases e : w = a.toNatClampNeg
        · rw [e, wI_eq, wI_eq]
        · rw [wI_ne (by omega), wI_ne (by omega)]; exact x3
      · rw [g2]; exact x4
      · rw [g2]; exact x6
    · show (mo_wI (hz_T σ a c 1) 39 a.toNatClampNeg 4 (σ.1 39 a.toNatClampNeg 4 ||| fr)).1 39 w 4 = 0
      rw [wI_ne (by omega)]
      exact h8.2.2.2.2 w hw1 hw2
