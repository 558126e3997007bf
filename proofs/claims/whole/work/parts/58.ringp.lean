theorem sum_lt {v v' : Nat → Nat} {a : Nat} (h : ∀ m, v m ≤ v' m) (ha : v a < v' a) : ∀ {n : Nat}, a < n → mo_sum v n < mo_sum v' n
  | 0, q => absurd q (by omega)
  | n + 1, q => by
    have hle : ∀ n, mo_sum v n ≤ mo_sum v' n := by
      intro n
      induction n with
      | zero => exact Nat.le_refl _
      | succ n ih => rw [mo_sum_s, mo_sum_s]; have := h n; omega
    rw [mo_sum_s, mo_sum_s]
    by_cases e : a = n
    · subst e; have := hle a; omega
    · have := sum_lt h ha (n := n) (by omega); have := h n; omega
theorem sd_all {E : Nat → Nat → Prop} {B : Nat → Prop} : ∀ {d m : Nat}, sd E B m d → ∀ e, e ≤ d → ∃ k, sd E B k e
  | 0, m, h, e, he => ⟨m, by rw [show e = 0 from by omega]; exact h⟩
  | d + 1, m, h, e, he => by
    by_cases q : e = d + 1
    · rw [q]; exact ⟨m, h⟩
    · obtain ⟨⟨b, -, h2⟩, -⟩ := sd_next.mp h
      exact sd_all h2 e (by omega)
noncomputable def sd_v (E : Nat → Nat → Prop) (B : Nat → Prop) (k m : Nat) : Nat := mo_ite (∃ d, d < k ∧ sd E B m d) 1 0
theorem sd_lt {E : Nat → Nat → Prop} {B : Nat → Prop} (hw : ∀ m d, sd E B m d → m < 60) {m d : Nat} (h : sd E B m d) : d < 60 := by
  have hv : ∀ k m, sd_v E B k m ≤ 1 := by
    intro k m
    unfold sd_v
    by_cases c : ∃ d, d < k ∧ sd E B m d
    · rw [mo_ite_t c]; omega
    · rw [mo_ite_f c]; omega
  have hk : ∀ k, k ≤ d + 1 → k ≤ mo_sum (sd_v E B k) 60 := by
    intro k
    induction k with
    | zero => intro _; exact Nat.zero_le _
    | succ k ih =>
      intro hk
      have ih := ih (by omega)
      obtain ⟨a, ha⟩ := sd_all h k (by omega)
      have hlt : mo_sum (sd_v E B k) 60 < mo_sum (sd_v E B (k + 1)) 60 := by
        refine sum_lt (a := a) (fun m => ?_) ?_ (hw _ _ ha)
        · unfold sd_v
          by_cases c : ∃ d, d < k ∧ sd E B m d
          · rw [mo_ite_t c, mo_ite_t (by obtain ⟨d, x, y⟩ := c; exact ⟨d, by omega, y⟩)]; omega
          · rw [mo_ite_f c]; exact Nat.zero_le _
        · unfold sd_v
          rw [mo_ite_f (fun ⟨d, x, y⟩ => by have := sd_one y ha; omega), mo_ite_t ⟨k, by omega, ha⟩]
          omega
      omega
  have h1 := hk (d + 1) (Nat.le_refl _)
  have h2 := mo_sum_le (hv (d + 1)) 60
  omega
theorem iv_lnk {σ : mo_M} {d z : Int32} {M L : Nat} (hL : iv_L σ M L) {a b : Nat} (h : mo_lnk σ d z a b) : a < M ∧ b < M := by
  obtain ⟨l1, l2, l3, l4⟩ := hL
  obtain ⟨u, hu, -, -, rfl, rfl⟩ := h
  rw [iv_cl l2 (by omega)] at hu
  obtain ⟨x1, x2, x3, x4, x5, x6, x7, x8, x9⟩ := l4 u hu
  rw [x1, x2]
  exact ⟨(mo_inI x6).2, (mo_inI x7).2⟩
theorem iv_lpre {σ : mo_M} {M L : Nat} (hM : M ≤ 60) (hL : iv_L σ M L) : (mo_le (σ.1 6 0 5) 200 ∧ ∀ k, k < (σ.1 6 0 5).toNatClampNeg → vp_in (σ.1 7 0 k) 60) ∧ (mo_le (σ.1 50 0 6) 200 ∧ ∀ u, u < (σ.1 50 0 6).toNatClampNeg → vp_in (σ.1 54 0 u) M ∧ vp_in (σ.1 55 0 u) M) := by
  obtain ⟨l1, l2, l3, l4⟩ := hL
  refine ⟨⟨iv_le l1 l3 (by omega), fun k hk => ?_⟩, iv_le l2 l3 (by omega), fun u hu => ?_⟩
  · rw [iv_cl l1 (by omega)] at hk
    exact mo_inw (l4 k hk).2.2.2.2.2.1 hM
  · rw [iv_cl l2 (by omega)] at hu
    obtain ⟨x1, x2, x3, x4, x5, x6, x7, x8, x9⟩ := l4 u hu
    rw [x1, x2]; exact ⟨x6, x7⟩
theorem iv_ring (a b : Int32) : iv_op S_X11_ring S_X12_ring [.inr (.inr (0, 0)), .inl a, .inl b] [.inr (.inr (50, 0)), .inl a, .inl b] := by
  intro σ h
  obtain ⟨P, M, L, H, J, U, T, W, h1, h2, h3, h4, h5, h6, h7, h8, h9⟩ := id h
  have hM := h2.2.2.1
  have hlp := iv_lpre hM h3
  have g := iv_g (a := a) h2.1 h2.2.1 (by omega)
  have eM := iv_cl h2.2.1 (by omega)
  refine ⟨a, b, rfl, fun q => ⟨a, b, rfl, fun _ => ⟨rfl, h⟩, fun z => absurd (g.mpr z) q⟩, fun q => ⟨fun q1 => ?_, fun q1 => ⟨a, b, rfl, fun z => absurd (g.mp q) z, fun _ => ⟨fun z => absurd z q1, fun _ => ⟨rfl, h⟩⟩⟩⟩⟩
  have hv := iv_in h2.1 (by omega) q
  have ha := mo_inI hv
  have hi := mo_inw hv hM
  have hE : ∀ x, x < 60 → ∀ y, y < 64 → (mo_bt ((mo_rowL σ 34 0 (mo_layR σ b 1)).2 34 0 x) (nI y) ↔ mo_lnk σ b 1 x y) := fun x hx y hy => lay_bit h3 hM hx hy
  have hE2 : ∀ x y, mo_lnk σ b 1 x y → x < 60 ∧ y < 60 := fun x y z => by have := iv_lnk h3 z; omega
  have hB : ∀ m, m < 64 → (mo_bt ((1 : Int64) <<< (a.toInt64 &&& 63)) (nI m) ↔ m = a.toNatClampNeg) := fun m hm => by
    have z := bt_bit (i := a.toNatClampNeg) (j := m) (by omega) hm
    rw [← ha.1] at z
    rw [z]
    exact ⟨Eq.symm, Eq.symm⟩
  have hB2 : ∀ m, m = a.toNatClampNeg → m < 60 := fun m hm => by omega
  have hs := spr_end hE hE2 hB hB2
  have hw : ∀ m d, sd (mo_lnk σ b 1) (fun m => m = a.toNatClampNeg) m d → m < 60 := by
    intro m d z
    cases d with
    | zero => exact hB2 m z.1
    | succ d => obtain ⟨y, y1, -⟩ := z.1; exact (hE2 _ _ y1).1
  have hpre : mo_le (σ.1 50 0 2) 60 ∧ vp_in a (σ.1 50 0 2).toNatClampNeg ∧ mo_le (σ.1 50 0 6) 200 ∧ ∀ u, u < (σ.1 50 0 6).toNatClampNeg → vp_in (σ.1 54 0 u) (σ.1 50 0 2).toNatClampNeg ∧ vp_in (σ.1 55 0 u) (σ.1 50 0 2).toNatClampNeg := by
    rw [eM]; exact ⟨iv_le h2.2.1 hM (by omega), hv, hlp.2⟩
  have hRC : (lg_cmp (mo_layR σ b 1 a.toNatClampNeg &&& (mo_spr (mo_rowL σ 34 0 (mo_layR σ b 1)) ((1 : Int64) <<< (a.toInt64 &&& 63)) 60).1) 0 = 0) ↔ ¬ mo_RC σ b a.toNatClampNeg a.toNatClampNeg := by
    rw [lg_cmp_eq, bt_zero]
    constructor
    · rintro z ⟨d, y, y1, y2⟩
      have hy := (hE2 _ _ y1).2
      obtain ⟨e, -, he⟩ := sd_of y2
      exact z y (by omega) ((bt_and _ _ (by omega)).mpr ⟨(hE _ (by omega) y (by omega)).mpr y1, (hs.2.1 y (by omega)).mpr ⟨e, sd_lt hw he, he⟩⟩)
    · intro z j hj y
      obtain ⟨y1, y2⟩ := (bt_and _ _ hj).mp y
      obtain ⟨d, -, y3⟩ := (hs.2.1 j hj).mp y2
      exact z ⟨d, j, (hE _ (by omega) j hj).mp y1, y3.1⟩
  refine ⟨hlp.1, hi, fun z => ⟨a, b, rfl, fun y => absurd (g.mp q) y, fun _ => ⟨fun _ => ⟨hpre, fun r => ⟨?_, ?_⟩⟩, fun y => absurd q1 y⟩⟩, fun z => ⟨a, b, rfl, fun y => absurd (g.mp q) y, fun _ => ⟨fun _ => ⟨hpre, fun r => ⟨?_, ?_⟩⟩, fun y => absurd q1 y⟩⟩⟩
  · exact congrArg (fun x => some (Sum.inl x : mo_V)) (mo_bl_f (hRC.mp z)).symm
  · exact ⟨P, M, L, H, J, U, T, W, h1, h2, h3, h4, h5, h6, h7, h8, h9⟩
  · exact congrArg (fun x => some (Sum.inl x : mo_V)) (mo_bl_t (Classical.byContradiction fun y => z (hRC.mpr y))).symm
  · exact ⟨P, M, L, H, J, U, T, W, h1, h2, h3, h4, h5, h6, h7, h8, h9⟩
