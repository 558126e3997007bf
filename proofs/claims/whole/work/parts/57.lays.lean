theorem fo_updL {f : Nat → Int64} {r : Nat → Int64} : ∀ {n m : Nat}, m < n → mo_fo (fun k r => vp_updL r k (f k)) r n m = f m
  | 0, m, h => absurd h (by omega)
  | n + 1, m, h => by
    show vp_updL (mo_fo (fun k r => vp_updL r k (f k)) r n) n (f n) m = f m
    by_cases e : m = n
    · subst e; simp [vp_updL]
    · rw [show vp_updL (mo_fo (fun k r => vp_updL r k (f k)) r n) n (f n) m = mo_fo (fun k r => vp_updL r k (f k)) r n m from by simp [vp_updL, e]]
      exact fo_updL (by omega)
/-- the net of a day, as bits -/
theorem lay_bit {σ : mo_M} {d z : Int32} {M L : Nat} (hL : iv_L σ M L) (hM : M ≤ 60) {a b : Nat} (ha : a < 60) (hb : b < 64) : mo_bt (mo_layR σ d z a) (nI b) ↔ mo_lnk σ d z a b := by
  obtain ⟨l1, l2, l3, l4⟩ := hL
  have key : ∀ k, k ≤ L → (mo_bt (mo_fo (fun k r => mo_ite ((σ.1 10 0 k ≤ d ∧ d < σ.1 11 0 k) ∧ (¬ z = 0 ∨ ¬ σ.1 9 0 k = 3)) (vp_updL r (σ.1 7 0 k).toNatClampNeg (r (σ.1 7 0 k).toNatClampNeg ||| (1 : Int64) <<< ((σ.1 8 0 k).toInt64 &&& 63))) r) (mo_fo (fun k r => vp_updL r k 0) (σ.2 34 0) 60) k a) (nI b) ↔ ∃ u, u < k ∧ (σ.1 10 0 u ≤ d ∧ d < σ.1 11 0 u) ∧ (¬ z = 0 ∨ ¬ σ.1 9 0 u = 3) ∧ (σ.1 7 0 u).toNatClampNeg = a ∧ (σ.1 8 0 u).toNatClampNeg = b) := by
    intro k
    induction k with
    | zero =>
      intro _
      show mo_bt (mo_fo (fun k r => vp_updL r k 0) (σ.2 34 0) 60 a) (nI b) ↔ _
      rw [fo_updL (f := fun _ => 0) ha]
      exact ⟨fun q => absurd q (bt_0 hb), fun ⟨u, hu, _⟩ => absurd hu (by omega)⟩
    | succ k ih =>
      intro hk
      have ih := ih (by omega)
      obtain ⟨x1, x2, x3, x4, x5, x6, x7, x8, x9⟩ := l4 k (by omega)
      have y7 := mo_inI x7
      generalize hf : (fun k r => mo_ite ((σ.1 10 0 k ≤ d ∧ d < σ.1 11 0 k) ∧ (¬ z = 0 ∨ ¬ σ.1 9 0 k = 3)) (vp_updL r (σ.1 7 0 k).toNatClampNeg (r (σ.1 7 0 k).toNatClampNeg ||| (1 : Int64) <<< ((σ.1 8 0 k).toInt64 &&& 63))) r) = f at ih ⊢
      generalize hr0 : mo_fo (fun k r => vp_updL r k 0) (σ.2 34 0) 60 = r0 at ih ⊢
      have hs : mo_fo f r0 (k + 1) = mo_ite ((σ.1 10 0 k ≤ d ∧ d < σ.1 11 0 k) ∧ (¬ z = 0 ∨ ¬ σ.1 9 0 k = 3)) (vp_updL (mo_fo f r0 k) (σ.1 7 0 k).toNatClampNeg (mo_fo f r0 k (σ.1 7 0 k).toNatClampNeg ||| (1 : Int64) <<< ((σ.1 8 0 k).toInt64 &&& 63))) (mo_fo f r0 k) := by rw [← hf]; rfl
      rw [hs]
      by_cases c : (σ.1 10 0 k ≤ d ∧ d < σ.1 11 0 k) ∧ (¬ z = 0 ∨ ¬ σ.1 9 0 k = 3)
      · rw [mo_ite_t c]
        by_cases e : a = (σ.1 7 0 k).toNatClampNeg
        · rw [show vp_updL (mo_fo f r0 k) (σ.1 7 0 k).toNatClampNeg (mo_fo f r0 k (σ.1 7 0 k).toNatClampNeg ||| (1 : Int64) <<< ((σ.1 8 0 k).toInt64 &&& 63)) a = mo_fo f r0 k a ||| (1 : Int64) <<< ((σ.1 8 0 k).toInt64 &&& 63) from by rw [e]; simp [vp_updL]]
          rw [bt_or _ _ hb, ih, y7.1, bt_bit (by omega) hb]
          constructor
          · rintro (⟨u, hu, q⟩ | q)
            · exact ⟨u, by omega, q⟩
            · exact ⟨k, by omega, c.1, c.2, e.symm, q⟩
          · rintro ⟨u, hu, q⟩
            by_cases e2 : u = k
            · subst e2; exact Or.inr q.2.2.2
            · exact Or.inl ⟨u, by omega, q⟩
        · rw [show vp_updL (mo_fo f r0 k) (σ.1 7 0 k).toNatClampNeg (mo_fo f r0 k (σ.1 7 0 k).toNatClampNeg ||| (1 : Int64) <<< ((σ.1 8 0 k).toInt64 &&& 63)) a = mo_fo f r0 k a from by simp [vp_updL, e]]
          rw [ih]
          constructor
          · rintro ⟨u, hu, q⟩; exact ⟨u, by omega, q⟩
          · rintro ⟨u, hu, q⟩
            by_cases e2 : u = k
            · subst e2; exact absurd q.2.2.1.symm e
            · exact ⟨u, by omega, q⟩
      · rw [mo_ite_f c, ih]
        constructor
        · rintro ⟨u, hu, q⟩; exact ⟨u, by omega, q⟩
        · rintro ⟨u, hu, q⟩
          by_cases e2 : u = k
          · subst e2; exact absurd ⟨q.1, q.2.1⟩ c
          · exact ⟨u, by omega, q⟩
  have k2 := key L (Nat.le_refl _)
  unfold mo_layR mo_lnk
  rw [iv_cl l1 (by omega), iv_cl l2 (by omega), k2]
  constructor
  · rintro ⟨u, hu, q1, q2, q3, q4⟩
    obtain ⟨x1, x2, x3, x4, x5, x6, x7, x8, x9⟩ := l4 u hu
    refine ⟨u, hu, by rw [x4, x5]; exact q1, fun z3 => ?_, by rw [x1]; exact q3, by rw [x2]; exact q4⟩
    rcases q2 with q | q
    · exact q
    · rw [x3] at z3; exact absurd z3 q
  · rintro ⟨u, hu, q1, q2, q3, q4⟩
    obtain ⟨x1, x2, x3, x4, x5, x6, x7, x8, x9⟩ := l4 u hu
    rw [x4, x5] at q1
    rw [x3] at q2
    rw [x1] at q3
    rw [x2] at q4
    refine ⟨u, hu, q1, ?_, q3, q4⟩
    by_cases c : σ.1 9 0 u = 3
    · exact Or.inl (q2 c)
    · exact Or.inr c
/-- the shortest way from m to B has d steps -/
def sd (E : Nat → Nat → Prop) (B : Nat → Prop) (m d : Nat) : Prop := mo_wlk E B d m ∧ ∀ e, e < d → ¬ mo_wlk E B e m
theorem sd_of {E : Nat → Nat → Prop} {B : Nat → Prop} {m e : Nat} (h : mo_wlk E B e m) : ∃ d, d ≤ e ∧ sd E B m d := by
  obtain ⟨d, h1, h2⟩ := pk_least (fun d => mo_wlk E B d m) ⟨e, h⟩
  refine ⟨d, ?_, h1, h2⟩
  by_cases q : d ≤ e
  · exact q
  · exact absurd h (h2 e (by omega))
theorem sd_one {E : Nat → Nat → Prop} {B : Nat → Prop} {m d d' : Nat} (h : sd E B m d) (h' : sd E B m d') : d = d' := by
  rcases Nat.lt_trichotomy d d' with q | q | q
  · exact absurd h.1 (h'.2 d q)
  · exact q
  · exact absurd h'.1 (h.2 d' q)
theorem sd_next {E : Nat → Nat → Prop} {B : Nat → Prop} {m n : Nat} : sd E B m (n + 1) ↔ (∃ b, E m b ∧ sd E B b n) ∧ ¬ ∃ d, d < n + 1 ∧ sd E B m d := by
  constructor
  · rintro ⟨⟨b, h1, h2⟩, h3⟩
    refine ⟨⟨b, h1, h2, fun e he hw => h3 (e + 1) (by omega) ⟨b, h1, hw⟩⟩, fun ⟨d, hd, h4⟩ => h3 d hd h4.1⟩
  · rintro ⟨⟨b, h1, h2⟩, h3⟩
    refine ⟨⟨b, h1, h2.1⟩, fun e he hw => ?_⟩
    obtain ⟨d, hd, h4⟩ := sd_of hw
    exact h3 ⟨d, by omega, h4⟩
theorem sd_down {E : Nat → Nat → Prop} {B : Nat → Prop} {n : Nat} (h : ∀ m, ¬ sd E B m n) : ∀ k m, ¬ sd E B m (n + k)
  | 0, m => h m
  | k + 1, m => fun q => by
    obtain ⟨⟨b, -, h2⟩, -⟩ := sd_next.mp (show sd E B m (n + k + 1) from q)
    exact sd_down h k b h2
theorem hold_bit {σ : mo_M} {s : Int64} {j : Nat} (hj : j < 64) : ∀ n, n ≤ 60 → (mo_bt (mo_fo (fun k a => mo_ite (¬ (σ.2 34 0 k &&& s) = 0) (a ||| (1 : Int64) <<< ((nI k).toInt64 &&& 63)) a) 0 n) (nI j) ↔ j < n ∧ ∃ b, b < 64 ∧ mo_bt (σ.2 34 0 j) (nI b) ∧ mo_bt s (nI b)) := by
  intro n
  induction n with
  | zero => intro _; exact ⟨fun q => absurd q (bt_0 hj), fun q => absurd q.1 (by omega)⟩
  | succ n ih =>
    intro hn
    have ih := ih (by omega)
    have hne : ¬ (σ.2 34 0 n &&& s) = 0 ↔ ∃ b, b < 64 ∧ mo_bt (σ.2 34 0 n) (nI b) ∧ mo_bt s (nI b) := by
      rw [bt_zero]
      constructor
      · intro q
        apply Classical.byContradiction
        intro z
        exact q (fun b hb y => z ⟨b, hb, (bt_and _ _ hb).mp y⟩)
      · rintro ⟨b, hb, y⟩ q
        exact q b hb ((bt_and _ _ hb).mpr y)
    show mo_bt (mo_ite (¬ (σ.2 34 0 n &&& s) = 0) (mo_fo (fun k a => mo_ite (¬ (σ.2 34 0 k &&& s) = 0) (a ||| (1 : Int64) <<< ((nI k).toInt64 &&& 63)) a) 0 n ||| (1 : Int64) <<< ((nI n).toInt64 &&& 63)) (mo_fo (fun k a => mo_ite (¬ (σ.2 34 0 k &&& s) = 0) (a ||| (1 : Int64) <<< ((nI k).toInt64 &&& 63)) a) 0 n)) (nI j) ↔ _
    by_cases c : ¬ (σ.2 34 0 n &&& s) = 0
    · rw [mo_ite_t c, bt_or _ _ hj, ih, bt_bit (by omega) hj]
      constructor
      · rintro (⟨h1, h2⟩ | rfl)
        · exact ⟨by omega, h2⟩
        · exact ⟨by omega, hne.mp c⟩
      · rintro ⟨h1, h2⟩
        by_cases e : n = j
        · exact Or.inr e
        · exact Or.inl ⟨by omega, h2⟩
    · rw [mo_ite_f c, ih]
      constructor
      · rintro ⟨h1, h2⟩; exact ⟨by omega, h2⟩
      · rintro ⟨h1, h2⟩
        refine ⟨?_, h2⟩
        by_cases e : n = j
        · subst e; exact absurd (hne.mpr h2) c
        · omega
/-- what the layers hold -/
theorem spr_ok {σ : mo_M} {g : Int64} {E : Nat → Nat → Prop} {B : Nat → Prop} (hE : ∀ a, a < 60 → ∀ b, b < 64 → (mo_bt (σ.2 34 0 a) (nI b) ↔ E a b)) (hE2 : ∀ a b, E a b → a < 60 ∧ b < 60) (hB : ∀ m, m < 64 → (mo_bt g (nI m) ↔ B m)) (hB2 : ∀ m, B m → m < 60) : ∀ n, n ≤ 60 → (mo_spr σ g n).2.2.2 ≤ n ∧ (∀ j, j < 64 → (mo_bt (mo_spr σ g n).1 (nI j) ↔ ∃ d, d < (mo_spr σ g n).2.2.2 ∧ sd E B j d)) ∧ (∀ j, j < 64 → (mo_bt (mo_spr σ g n).2.1 (nI j) ↔ sd E B j (mo_spr σ g n).2.2.2)) ∧ (∀ k, k < (mo_spr σ g n).2.2.2 → ∀ j, j < 64 → (mo_bt ((mo_spr σ g n).2.2.1 k) (nI j) ↔ sd E B j k)) ∧ ((mo_spr σ g n).2.2.2 = n ∨ (mo_spr σ g n).2.1 = 0) := by
  have hw : ∀ d m, mo_wlk E B d m → m < 60 := by
    intro d m h
    cases d with
    | zero => exact hB2 m h
    | succ d => obtain ⟨b, h1, -⟩ := h; exact (hE2 _ _ h1).1
  intro n
  induction n with
  | zero =>
    intro _
    refine ⟨Nat.le_refl _, fun j hj => ⟨fun q => absurd q (bt_0 hj), fun ⟨d, hd, _⟩ => absurd hd (by show ¬ d < 0; omega)⟩, fun j hj => ?_, fun k hk => absurd hk (by show ¬ k < 0; omega), Or.inl rfl⟩
    show mo_bt g (nI j) ↔ sd E B j 0
    rw [hB j hj]
    exact ⟨fun q => ⟨q, fun e he => absurd he (by omega)⟩, fun q => q.1⟩
  | succ n ih =>
    intro hn
    obtain ⟨i1, i2, i3, i4, i5⟩ := ih (by omega)
    have hs : mo_spr σ g (n + 1) = mo_spS σ (mo_spr σ g n) := rfl
    rw [hs]
    generalize mo_spr σ g n = st at *
    obtain ⟨R, Ly, rows, dp⟩ := st
    dsimp only at i1 i2 i3 i4 i5
    unfold mo_spS
    dsimp only
    by_cases c : Ly = 0
    · rw [mo_ite_t c]
      exact ⟨by show dp ≤ n + 1; omega, i2, i3, i4, Or.inr c⟩
    · rw [mo_ite_f c]
      have hdp : dp = n := i5.resolve_right c
      have hR' : ∀ j, j < 64 → (mo_bt (R ||| Ly) (nI j) ↔ ∃ d, d < dp + 1 ∧ sd E B j d) := by
        intro j hj
        rw [bt_or _ _ hj, i2 j hj, i3 j hj]
        constructor
        · rintro (⟨d, hd, q⟩ | q)
          · exact ⟨d, by omega, q⟩
          · exact ⟨dp, by omega, q⟩
        · rintro ⟨d, hd, q⟩
          by_cases e : d = dp
          · subst e; exact Or.inr q
          · exact Or.inl ⟨d, by omega, q⟩
      refine ⟨by show dp + 1 ≤ n + 1; omega, hR', fun j hj => ?_, fun k hk j hj => ?_, Or.inl (by show dp + 1 = n + 1; omega)⟩
      · show mo_bt (mo_fo _ 0 60 &&& ((R ||| Ly) ^^^ (-1 : Int64))) (nI j) ↔ sd E B j (dp + 1)
        rw [bt_not _ _ hj, hold_bit hj 60 (Nat.le_refl _), hR' j hj, sd_next]
        constructor
        · rintro ⟨⟨h1, b, hb, h2, h3⟩, h4⟩
          exact ⟨⟨b, (hE j h1 b hb).mp h2, (i3 b hb).mp h3⟩, h4⟩
        · rintro ⟨⟨b, h2, h3⟩, h4⟩
          have := hE2 _ _ h2
          exact ⟨⟨this.1, b, by omega, (hE j this.1 b (by omega)).mpr h2, (i3 b (by omega)).mpr h3⟩, h4⟩
      · show mo_bt (vp_updL rows dp Ly k) (nI j) ↔ sd E B j k
        by_cases e : k = dp
        · subst e
          rw [show vp_updL rows k Ly k = Ly from by simp [vp_updL]]
          exact i3 j hj
        · rw [show vp_updL rows dp Ly k = rows k from by simp [vp_updL, e]]
          exact i4 k (by have : k < dp + 1 := hk; omega) j hj
/-- the end: all that is less than 60 steps away -/
theorem spr_end {σ : mo_M} {g : Int64} {E : Nat → Nat → Prop} {B : Nat → Prop} (hE : ∀ a, a < 60 → ∀ b, b < 64 → (mo_bt (σ.2 34 0 a) (nI b) ↔ E a b)) (hE2 : ∀ a b, E a b → a < 60 ∧ b < 60) (hB : ∀ m, m < 64 → (mo_bt g (nI m) ↔ B m)) (hB2 : ∀ m, B m → m < 60) : (mo_spr σ g 60).2.2.2 ≤ 60 ∧ (∀ j, j < 64 → (mo_bt (mo_spr σ g 60).1 (nI j) ↔ ∃ d, d < 60 ∧ sd E B j d)) ∧ (∀ k, k < (mo_spr σ g 60).2.2.2 → ∀ j, j < 64 → (mo_bt ((mo_spr σ g 60).2.2.1 k) (nI j) ↔ sd E B j k)) ∧ ∀ m d, m < 64 → d < 60 → sd E B m d → d < (mo_spr σ g 60).2.2.2 := by
  obtain ⟨i1, i2, i3, i4, i5⟩ := spr_ok hE hE2 hB hB2 60 (Nat.le_refl _)
  have hw : ∀ d m, sd E B m d → m < 60 := by
    intro d m h
    cases d with
    | zero => exact hB2 m h.1
    | succ d => obtain ⟨b, h1, -⟩ := h.1; exact (hE2 _ _ h1).1
  have hlast : ∀ m d, m < 64 → d < 60 → sd E B m d → d < (mo_spr σ g 60).2.2.2 := by
    intro m d hm hd h
    rcases i5 with e | e
    · omega
    · apply Classical.byContradiction
      intro q
      have hno : ∀ m, ¬ sd E B m (mo_spr σ g 60).2.2.2 := fun m z => by
        have hm := hw _ _ z
        have := (i3 m (by omega)).mpr z
        rw [e] at this
        exact bt_0 (by omega) this
      have := sd_down hno (d - (mo_spr σ g 60).2.2.2) m
      rw [show (mo_spr σ g 60).2.2.2 + (d - (mo_spr σ g 60).2.2.2) = d from by omega] at this
      exact this h
  refine ⟨i1, fun j hj => ?_, i4, hlast⟩
  rw [i2 j hj]
  exact ⟨fun ⟨d, hd, q⟩ => ⟨d, by omega, q⟩, fun ⟨d, hd, q⟩ => ⟨d, hlast j d hj hd q, q⟩⟩
