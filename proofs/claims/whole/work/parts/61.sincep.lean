theorem fo_c {α : Type} {f g : Nat → α → α} {x : α} : ∀ {n : Nat}, (∀ k, k < n → ∀ s, f k s = g k s) → mo_fo f x n = mo_fo g x n
  | 0, _ => rfl
  | n + 1, h => by
    show f n (mo_fo f x n) = g n (mo_fo g x n)
    rw [fo_c (fun k hk => h k (by omega)), h n (by omega)]
theorem wlk_mono {E E' : Nat → Nat → Prop} {B : Nat → Prop} (h : ∀ a b, E a b → E' a b) : ∀ d m, mo_wlk E B d m → mo_wlk E' B d m
  | 0, _, q => q
  | d + 1, _, ⟨b, q1, q2⟩ => ⟨b, h _ _ q1, wlk_mono h d b q2⟩
/-- who is hit for sure is hit -/
theorem hz_sub {σ : mo_M} {P M L H J U T W : Nat} {a c : Int32} {r q : Nat → Int32} (h : iv_A σ P M L H J U T W) (hC : mo_hC σ a c r q) {m : Nat} (hm : m < M) (hr : ¬ r m = -1) : ¬ q m = -1 := by
  obtain ⟨h1, h2, h3, h4, h5, h6, h7, h8, h9⟩ := h
  have eM := iv_cl h2.2.1 (by have := h2.2.2.1; omega)
  unfold mo_hC at hC
  rw [eM] at hC
  rcases hz_row h3 hC.1 hm with ⟨q1, -⟩ | ⟨e, q1, q2, q3⟩
  · exact absurd q1 hr
  · rcases hz_row h3 hC.2 hm with ⟨z1, z2⟩ | ⟨e', z1, z2, z3⟩
    · obtain ⟨d, -, y⟩ := sd_of (wlk_mono (E' := mo_lnk σ c 1) (fun x y ⟨u, u1, u2, u3, u4⟩ => ⟨u, u1, u2, fun _ => by decide, u4⟩) e m q3.1)
      exact absurd y (z2 d)
    · rw [z2]; exact mo_nIm (by omega)
theorem hz_hof {σ : mo_M} {P M L H J U T W : Nat} {a c x : Int32} {r q : Nat → Int32} (h : iv_A σ P M L H J U T W) (hC : mo_hC σ a c r q) (hx : vp_in x M) : (¬ mo_hof (mo_hM σ c r q) x = 0 ↔ ¬ q x.toNatClampNeg = -1) ∧ (mo_hof (mo_hM σ c r q) x = 2 ↔ ¬ r x.toNatClampNeg = -1) := by
  have e : mo_hof (mo_hM σ c r q) x = if ¬ r x.toNatClampNeg = -1 then 2 else if ¬ q x.toNatClampNeg = -1 then 1 else 0 := rfl
  rw [e]
  by_cases c1 : ¬ r x.toNatClampNeg = -1
  · have c2 := hz_sub h hC (mo_inI hx).2 c1
    rw [if_pos c1]
    exact ⟨⟨fun _ => c2, fun _ => by decide⟩, fun _ => c1, fun _ => rfl⟩
  · rw [if_neg c1]
    by_cases c2 : ¬ q x.toNatClampNeg = -1
    · rw [if_pos c2]
      exact ⟨⟨fun _ => c2, fun _ => by decide⟩, fun z => absurd z (by decide), fun z => absurd z c1⟩
    · rw [if_neg c2]
      exact ⟨⟨fun z => absurd rfl z, fun z => absurd z c2⟩, fun z => absurd z (by decide), fun z => absurd z c1⟩
theorem iv_since (a b c : Int32) : iv_op S_X11_since S_X12_since [.inr (.inr (0, 0)), .inl a, .inl b, .inl c] [.inr (.inr (50, 0)), .inl a, .inl b, .inl c] := by
  intro σ h
  obtain ⟨P, M, L, H, J, U, T, W, hA⟩ := id h
  obtain ⟨h1, h2, h3, h4, h5, h6, h7, h8, h9⟩ := id hA
  have hP := h1.2.2.1
  have hM := h2.2.2.1
  have hW := h8.2.2.1
  have hH := h4.2.2.1
  have ga := iv_g (a := a) h8.1 h8.2.1 (by omega)
  refine ⟨a, b, c, rfl, fun q => ⟨a, b, c, rfl, fun _ => ⟨rfl, h⟩, fun z => absurd (ga.mpr z) q⟩, fun q => ⟨fun q1 => ⟨a, b, c, rfl, fun z => absurd (ga.mp q) z, fun _ => ⟨fun _ => ⟨rfl, h⟩, fun z => absurd z q1⟩⟩, fun q1 => ⟨fun q2 => ?_, fun q2 => ⟨a, b, c, rfl, fun z => absurd (ga.mp q) z, fun _ => ⟨fun z => absurd q1 z, fun _ => ⟨fun z => absurd z q2, fun _ => ⟨rfl, h⟩⟩⟩⟩⟩⟩⟩
  have va := mo_inI (iv_in h8.1 (by omega) q)
  have hp := iv_bpre hP h2 h5 h6 h8 va.1 va.2
  have hl := iv_lpre hM h3
  have hA1 := hz_iv a c 1 hA
  have e1 := iv_cl h4.1 (by omega)
  have e2 := iv_cl h4.2.1 (by omega)
  refine ⟨⟨hl.1, hp.1⟩, iv_le h4.1 hH (by omega), a, b, c, rfl, fun z => absurd (ga.mp q) z, fun _ => ⟨fun z => absurd q1 z, fun _ => ⟨fun _ => ⟨hz_hP hA1 va.1 va.2, fun r y hC => ⟨⟨iv_le h4.2.1 hH (by omega), fun k hk => ?_⟩, ?_, ⟨P, M, L, H, J, U, T, W, hz_ivM c r y hA1⟩⟩⟩, fun z => absurd q2 z⟩⟩⟩
  · have hk : k < H := by
      have z : k < (σ.1 50 0 12).toNatClampNeg := hk
      rw [e2] at z; exact z
    obtain ⟨x1, x2, x3, x4, x5, x6, x7, x8⟩ := h4.2.2.2 k hk
    show vp_in (σ.1 60 0 k) 60
    rw [x2]; exact mo_inw x7 hM
  · refine congrArg (fun z => some (Sum.inl z : mo_V)) ?_
    have hC0 : mo_hC σ a c r y := hC
    show mo_fo _ (-1 : Int32) (σ.1 12 0 5).toNatClampNeg = mo_fo (fun k s => mo_ite (σ.1 59 0 k = b ∧ σ.1 63 0 k ≤ c ∧ ¬ mo_hof (mo_hM σ c r y) (σ.1 60 0 k) = 0 ∧ (s = (-1 : Int32) ∨ σ.1 61 0 k < s)) (σ.1 61 0 k) s) (-1 : Int32) (σ.1 50 0 12).toNatClampNeg
    rw [e1, e2]
    refine fo_c (fun k hk s => ?_)
    obtain ⟨x1, x2, x3, x4, x5, x6, x7, x8⟩ := h4.2.2.2 k hk
    have z1 := (hz_hof hA hC0 x7).1
    have z2 := (hz_both hA va.1 va.2 hC0).2 _ (mo_inI x7).2
    rw [← (mo_inI x7).1] at z2
    rw [x1, x2, x3, x5, propext z1, ← propext z2]
    refine congrArg (fun p => mo_ite p (σ.1 15 0 k) s) (propext ?_)
    constructor
    · rintro ⟨y1, ⟨y2, y3⟩, y4⟩; exact ⟨y1, y2, y3, y4⟩
    · rintro ⟨y1, y2, y3, y4⟩; exact ⟨y1, ⟨y2, y3⟩, y4⟩
