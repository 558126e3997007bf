set_option maxHeartbeats 4000000 in
theorem mo_ald_of {ex : Nat × (Nat → Int32)} {fm o w : Nat} {i : Int32} {σ : mo_M} {f : Int32 → Prop} (h : mo_ald ex fm o w i σ f) : (mo_kd o = (fm, (mo_kd o).2) ∧ (o, w) ∈ mo_ps ∧ vp_in i (mo_kd o).2 ∧ f (σ.1 o w i.toNatClampNeg)) ∨ (fm = 1 ∧ w = 0 ∧ (o = 90 ∨ o = 95) ∧ vp_in i (mo_en ex o) ∧ f (mo_ev ex o i.toNatClampNeg)) := by
  unfold mo_ald at h
  cases hk : Nat.beq (mo_kd o).1 fm with
  | true =>
    rw [hk] at h
    obtain ⟨h1, h2, h3⟩ := mo_in_of h
    exact Or.inl ⟨mo_kd_of hk, h1, h2, h3⟩
  | false =>
    rw [hk] at h
    obtain ⟨h1, h2, h3⟩ := mo_b_of h
    simp only [Bool.and_eq_true, Bool.or_eq_true] at h1
    exact Or.inr ⟨Nat.eq_of_beq_eq_true h1.1.1, Nat.eq_of_beq_eq_true h1.1.2, h1.2.imp Nat.eq_of_beq_eq_true Nat.eq_of_beq_eq_true, h2, h3⟩
set_option maxHeartbeats 4000000 in
theorem mo_o_iaload {g : mo_E} {mt : mo_T} {Q : mo_Q} {cs : Nat → mo_C} {K : mo_K} {k : mo_k} {pc len a b : Nat} {ci : Int} {ls : mo_L} {st : List mo_V} {σ : mo_M}  (hd : decode mt.1 pc = .ok (.iaload, len)) (hc : mo_ck mt.2.1 (pc, len, .iaload, a, b, ci) = true) (hK : ∀ pc ls st σ, K pc ls st σ → mo_X g mt Q pc ls st σ) (hk : ∀ ls st σ, k ls st σ → mo_X g mt Q (pc + len) ls st σ) (h : mo_op g.2.2.2.2 mt.2.2.1 mt.2.2.2.1 cs K Q (pc, len, .iaload, a, b, ci) k ls st σ) : mo_X g mt Q pc ls st σ := by
  simp only [mo_ck, Bool.and_eq_true] at hc
  simp only [mo_op] at h
  have hlen : len = 1 := Nat.eq_of_beq_eq_true hc
  subst hlen
  have h9 := mo_ri_of h
  clear h
  obtain ⟨o, w, i, r, rfl, h⟩ := h9
  intro p l e s m args below meth c cells slots QQ C H locs A hP hS hl
  obtain ⟨hx, hb, hml, hown, hw, hok, hcs, hret⟩ := id C
  rcases mo_ald_of h with ⟨hkd, hps, hin, h⟩ | ⟨-, rfl, ho, hin, h⟩
  · obtain ⟨q0, hq0⟩ := mo_ps_ix hps
    have he := mo_wd_at g σ hq0
    rw [mo_cell_1 σ hkd] at he
    exact va_iald hx hb hok.1 hP q0 0 he rfl hin hd (hk _ _ _ h p l e s m args below meth c cells slots QQ C H locs A hP hS hl)
  · rcases ho with rfl | rfl
    · exact va_ti hx hb hok.2.2.2.2.2.1 hS hin rfl hd (hk _ _ _ h p l e s m args below meth c cells slots QQ C H locs A hP hS hl)
    · exact va_ti hx hb hok.2.2.2.2.2.2.1 hS hin rfl hd (hk _ _ _ h p l e s m args below meth c cells slots QQ C H locs A hP hS hl)
set_option maxHeartbeats 4000000 in
theorem mo_o_baload {g : mo_E} {mt : mo_T} {Q : mo_Q} {cs : Nat → mo_C} {K : mo_K} {k : mo_k} {pc len a b : Nat} {ci : Int} {ls : mo_L} {st : List mo_V} {σ : mo_M}  (hd : decode mt.1 pc = .ok (.baload, len)) (hc : mo_ck mt.2.1 (pc, len, .baload, a, b, ci) = true) (hK : ∀ pc ls st σ, K pc ls st σ → mo_X g mt Q pc ls st σ) (hk : ∀ ls st σ, k ls st σ → mo_X g mt Q (pc + len) ls st σ) (h : mo_op g.2.2.2.2 mt.2.2.1 mt.2.2.2.1 cs K Q (pc, len, .baload, a, b, ci) k ls st σ) : mo_X g mt Q pc ls st σ := by
  simp only [mo_ck, Bool.and_eq_true] at hc
  simp only [mo_op] at h
  have hlen : len = 1 := Nat.eq_of_beq_eq_true hc
  subst hlen
  have h9 := mo_ri_of h
  clear h
  obtain ⟨o, w, i, r, rfl, h⟩ := h9
  intro p l e s m args below meth c cells slots QQ C H locs A hP hS hl
  obtain ⟨hx, hb, hml, hown, hw, hok, hcs, hret⟩ := id C
  cases hb3 : Nat.beq (mo_kd o).1 3 with
  | true =>
    rw [hb3] at h
    simp only [cond_true] at h
    rcases mo_ald_of h with ⟨hkd, hps, hin, h⟩ | ⟨q, -⟩
    · obtain ⟨q0, hq0⟩ := mo_ps_ix hps
      have he := mo_wd_at g σ hq0
      rw [mo_cell_3 σ hkd] at he
      exact va_zald hx hb hok.1 hP q0 2 he rfl hin hd (hk _ _ _ h p l e s m args below meth c cells slots QQ C H locs A hP hS hl)
    · exact absurd q (by decide)
  | false =>
    rw [hb3] at h
    simp only [cond_false] at h
    rcases mo_ald_of h with ⟨hkd, hps, hin, h⟩ | ⟨q, -⟩
    · obtain ⟨q0, hq0⟩ := mo_ps_ix hps
      have he := mo_wd_at g σ hq0
      rw [mo_cell_4 σ hkd] at he
      exact va_bald hx hb hok.1 hP q0 3 he rfl hin hd (hk _ _ _ h p l e s m args below meth c cells slots QQ C H locs A hP hS hl)
    · exact absurd q (by decide)
set_option maxHeartbeats 4000000 in
theorem mo_o_laload {g : mo_E} {mt : mo_T} {Q : mo_Q} {cs : Nat → mo_C} {K : mo_K} {k : mo_k} {pc len a b : Nat} {ci : Int} {ls : mo_L} {st : List mo_V} {σ : mo_M}  (hd : decode mt.1 pc = .ok (.laload, len)) (hc : mo_ck mt.2.1 (pc, len, .laload, a, b, ci) = true) (hK : ∀ pc ls st σ, K pc ls st σ → mo_X g mt Q pc ls st σ) (hk : ∀ ls st σ, k ls st σ → mo_X g mt Q (pc + len) ls st σ) (h : mo_op g.2.2.2.2 mt.2.2.1 mt.2.2.2.1 cs K Q (pc, len, .laload, a, b, ci) k ls st σ) : mo_X g mt Q pc ls st σ := by
  simp only [mo_ck, Bool.and_eq_true] at hc
  simp only [mo_op] at h
  have hlen : len = 1 := Nat.eq_of_beq_eq_true hc
  subst hlen
  have h9 := mo_ri_of h
  clear h
  obtain ⟨o, w, i, r, rfl, h⟩ := h9
  obtain ⟨hkd, h⟩ := mo_b_of h
  have hkd := mo_kd_of hkd
  obtain ⟨hps, hin, h⟩ := mo_in_of h
  obtain ⟨q0, hq0⟩ := mo_ps_ix hps
  intro p l e s m args below meth c cells slots QQ C H locs A hP hS hl
  obtain ⟨hx, hb, hml, hown, hw, hok, hcs, hret⟩ := id C
  have he := mo_wd_at g σ hq0
  rw [mo_cell_2 σ hkd] at he
  exact va_lald hx hb hok.1 hP q0 1 he rfl hin hd (hk _ _ _ h p l e s m args below meth c cells slots QQ C H locs A hP hS hl)
set_option maxHeartbeats 4000000 in
theorem mo_o_aaload {g : mo_E} {mt : mo_T} {Q : mo_Q} {cs : Nat → mo_C} {K : mo_K} {k : mo_k} {pc len a b : Nat} {ci : Int} {ls : mo_L} {st : List mo_V} {σ : mo_M}  (hd : decode mt.1 pc = .ok (.aaload, len)) (hc : mo_ck mt.2.1 (pc, len, .aaload, a, b, ci) = true) (hK : ∀ pc ls st σ, K pc ls st σ → mo_X g mt Q pc ls st σ) (hk : ∀ ls st σ, k ls st σ → mo_X g mt Q (pc + len) ls st σ) (h : mo_op g.2.2.2.2 mt.2.2.1 mt.2.2.2.1 cs K Q (pc, len, .aaload, a, b, ci) k ls st σ) : mo_X g mt Q pc ls st σ := by
  simp only [mo_ck, Bool.and_eq_true] at hc
  simp only [mo_op] at h
  have hlen : len = 1 := Nat.eq_of_beq_eq_true hc
  subst hlen
  have h9 := mo_ri_of h
  clear h
  obtain ⟨o, w, i, r, rfl, h⟩ := h9
  obtain ⟨hkd, h⟩ := mo_b_of h
  have hkd := mo_kd_of hkd
  obtain ⟨hps, hin, h⟩ := mo_in_of h
  obtain ⟨q0, hq0⟩ := mo_ps_ix hps
  intro p l e s m args below meth c cells slots QQ C H locs A hP hS hl
  obtain ⟨hx, hb, hml, hown, hw, hok, hcs, hret⟩ := id C
  have he := mo_wd_at g σ hq0
  rw [mo_cell_5 σ hkd] at he
  exact va_aldq hx hb hok.1 hP q0 4 he rfl hin hd (hk _ _ _ h p l e s m args below meth c cells slots QQ C H locs A hP hS hl)
set_option maxHeartbeats 4000000 in
theorem mo_o_iastore {g : mo_E} {mt : mo_T} {Q : mo_Q} {cs : Nat → mo_C} {K : mo_K} {k : mo_k} {pc len a b : Nat} {ci : Int} {ls : mo_L} {st : List mo_V} {σ : mo_M}  (hd : decode mt.1 pc = .ok (.iastore, len)) (hc : mo_ck mt.2.1 (pc, len, .iastore, a, b, ci) = true) (hK : ∀ pc ls st σ, K pc ls st σ → mo_X g mt Q pc ls st σ) (hk : ∀ ls st σ, k ls st σ → mo_X g mt Q (pc + len) ls st σ) (h : mo_op g.2.2.2.2 mt.2.2.1 mt.2.2.2.1 cs K Q (pc, len, .iastore, a, b, ci) k ls st σ) : mo_X g mt Q pc ls st σ := by
  simp only [mo_ck, Bool.and_eq_true] at hc
  simp only [mo_op] at h
  have hlen : len = 1 := Nat.eq_of_beq_eq_true hc
  subst hlen
  have h9 := mo_rii_of h
  clear h
  obtain ⟨o, w, i, x, r, rfl, h⟩ := h9
  obtain ⟨hkd, h⟩ := mo_b_of h
  have hkd := mo_kd_of hkd
  obtain ⟨hps, hin, h⟩ := mo_in_of h
  obtain ⟨q0, hq0⟩ := mo_ps_ix hps
  intro p l e s m args below meth c cells slots QQ C H locs A hP hS hl
  obtain ⟨hx, hb, hml, hown, hw, hok, hcs, hret⟩ := id C
  have he := mo_wd_at g σ hq0
  rw [mo_cell_1 σ hkd] at he
  refine va_iast hx hb hok.1 hP (mo_D g σ hok) hS q0 0 he rfl hin hd (fun H1 locs1 hP1 _ hS1 => ?_)
  rw [← mo_wI_s σ o w i.toNatClampNeg x, ← mo_cell_1 (cA := g.2.1) (ad := g.2.2.1) (mo_wI σ o w i.toNatClampNeg x) hkd, mo_wd_set (σ := σ) g hq0 (mo_wI_o σ o w i.toNatClampNeg x) (fun _ _ _ => rfl)] at hP1
  exact hk _ _ _ h p l e s m args below meth c cells slots QQ C H1 locs1 A hP1 hS1 hl
set_option maxHeartbeats 4000000 in
theorem mo_o_lastore {g : mo_E} {mt : mo_T} {Q : mo_Q} {cs : Nat → mo_C} {K : mo_K} {k : mo_k} {pc len a b : Nat} {ci : Int} {ls : mo_L} {st : List mo_V} {σ : mo_M}  (hd : decode mt.1 pc = .ok (.lastore, len)) (hc : mo_ck mt.2.1 (pc, len, .lastore, a, b, ci) = true) (hK : ∀ pc ls st σ, K pc ls st σ → mo_X g mt Q pc ls st σ) (hk : ∀ ls st σ, k ls st σ → mo_X g mt Q (pc + len) ls st σ) (h : mo_op g.2.2.2.2 mt.2.2.1 mt.2.2.2.1 cs K Q (pc, len, .lastore, a, b, ci) k ls st σ) : mo_X g mt Q pc ls st σ := by
  simp only [mo_ck, Bool.and_eq_true] at hc
  simp only [mo_op] at h
  have hlen : len = 1 := Nat.eq_of_beq_eq_true hc
  subst hlen
  have h9 := mo_ril_of h
  clear h
  obtain ⟨o, w, i, x, r, rfl, h⟩ := h9
  obtain ⟨hkd, h⟩ := mo_b_of h
  have hkd := mo_kd_of hkd
  obtain ⟨hps, hin, h⟩ := mo_in_of h
  obtain ⟨q0, hq0⟩ := mo_ps_ix hps
  intro p l e s m args below meth c cells slots QQ C H locs A hP hS hl
  obtain ⟨hx, hb, hml, hown, hw, hok, hcs, hret⟩ := id C
  have he := mo_wd_at g σ hq0
  rw [mo_cell_2 σ hkd] at he
  refine va_last hx hb hok.1 hP (mo_D g σ hok) hS q0 1 he rfl hin hd (fun H1 locs1 hP1 _ hS1 => ?_)
  rw [← mo_wL_s σ o w i.toNatClampNeg x, ← mo_cell_2 (cA := g.2.1) (ad := g.2.2.1) (mo_wL σ o w i.toNatClampNeg x) hkd, mo_wd_set (σ := σ) g hq0 (σ' := mo_wL σ o w i.toNatClampNeg x) (fun _ _ _ => rfl) (mo_wL_o σ o w i.toNatClampNeg x)] at hP1
  exact hk _ _ _ h p l e s m args below meth c cells slots QQ C H1 locs1 A hP1 hS1 hl
set_option maxHeartbeats 4000000 in
theorem mo_o_bastore {g : mo_E} {mt : mo_T} {Q : mo_Q} {cs : Nat → mo_C} {K : mo_K} {k : mo_k} {pc len a b : Nat} {ci : Int} {ls : mo_L} {st : List mo_V} {σ : mo_M}  (hd : decode mt.1 pc = .ok (.bastore, len)) (hc : mo_ck mt.2.1 (pc, len, .bastore, a, b, ci) = true) (hK : ∀ pc ls st σ, K pc ls st σ → mo_X g mt Q pc ls st σ) (hk : ∀ ls st σ, k ls st σ → mo_X g mt Q (pc + len) ls st σ) (h : mo_op g.2.2.2.2 mt.2.2.1 mt.2.2.2.1 cs K Q (pc, len, .bastore, a, b, ci) k ls st σ) : mo_X g mt Q pc ls st σ := by
  simp only [mo_ck, Bool.and_eq_true] at hc
  simp only [mo_op] at h
  have hlen : len = 1 := Nat.eq_of_beq_eq_true hc
  subst hlen
  have h9 := mo_rii_of h
  clear h
  obtain ⟨o, w, i, x, r, rfl, h⟩ := h9
  intro p l e s m args below meth c cells slots QQ C H locs A hP hS hl
  obtain ⟨hx, hb, hml, hown, hw, hok, hcs, hret⟩ := id C
  cases hb3 : Nat.beq (mo_kd o).1 3 with
  | true =>
    rw [hb3] at h
    have hkd := mo_kd_of hb3
    obtain ⟨hps, hin, h⟩ := mo_in_of h
    obtain ⟨q0, hq0⟩ := mo_ps_ix hps
    have he := mo_wd_at g σ hq0
    rw [mo_cell_3 σ hkd] at he
    refine va_zast hx hb hok.1 hP (mo_D g σ hok) hS q0 2 he rfl hin hd (fun H1 locs1 hP1 _ hS1 => ?_)
    rw [← mo_wI_s σ o w i.toNatClampNeg (vp_nar .boolean x), ← mo_cell_3 (cA := g.2.1) (ad := g.2.2.1) (mo_wI σ o w i.toNatClampNeg (vp_nar .boolean x)) hkd, mo_wd_set (σ := σ) g hq0 (mo_wI_o σ o w i.toNatClampNeg (vp_nar .boolean x)) (fun _ _ _ => rfl)] at hP1
    exact hk _ _ _ h p l e s m args below meth c cells slots QQ C H1 locs1 A hP1 hS1 hl
  | false =>
    rw [hb3] at h
    obtain ⟨hkd, h⟩ := mo_b_of h
    have hkd := mo_kd_of hkd
    obtain ⟨hps, hin, h⟩ := mo_in_of h
    obtain ⟨q0, hq0⟩ := mo_ps_ix hps
    have he := mo_wd_at g σ hq0
    rw [mo_cell_4 σ hkd] at he
    refine va_bast hx hb hok.1 hP (mo_D g σ hok) hS q0 3 he rfl hin hd (fun H1 locs1 hP1 _ hS1 => ?_)
    rw [← mo_wI_s σ o w i.toNatClampNeg (vp_nar .byte x), ← mo_cell_4 (cA := g.2.1) (ad := g.2.2.1) (mo_wI σ o w i.toNatClampNeg (vp_nar .byte x)) hkd, mo_wd_set (σ := σ) g hq0 (mo_wI_o σ o w i.toNatClampNeg (vp_nar .byte x)) (fun _ _ _ => rfl)] at hP1
    exact hk _ _ _ h p l e s m args below meth c cells slots QQ C H1 locs1 A hP1 hS1 hl
set_option maxHeartbeats 4000000 in
theorem mo_o_arraylength {g : mo_E} {mt : mo_T} {Q : mo_Q} {cs : Nat → mo_C} {K : mo_K} {k : mo_k} {pc len a b : Nat} {ci : Int} {ls : mo_L} {st : List mo_V} {σ : mo_M}  (hd : decode mt.1 pc = .ok (.arraylength, len)) (hc : mo_ck mt.2.1 (pc, len, .arraylength, a, b, ci) = true) (hK : ∀ pc ls st σ, K pc ls st σ → mo_X g mt Q pc ls st σ) (hk : ∀ ls st σ, k ls st σ → mo_X g mt Q (pc + len) ls st σ) (h : mo_op g.2.2.2.2 mt.2.2.1 mt.2.2.2.1 cs K Q (pc, len, .arraylength, a, b, ci) k ls st σ) : mo_X g mt Q pc ls st σ := by
  simp only [mo_ck, Bool.and_eq_true] at hc
  simp only [mo_op] at h
  have hlen : len = 1 := Nat.eq_of_beq_eq_true hc
  subst hlen
  have h9 := mo_1r_of h
  clear h
  obtain ⟨o, w, r, rfl, h⟩ := h9
  intro p l e s m args below meth c cells slots QQ C H locs A hP hS hl
  obtain ⟨hx, hb, hml, hown, hw, hok, hcs, hret⟩ := id C
  cases hk0 : Nat.blt 0 (mo_kd o).1 && Nat.blt (mo_kd o).1 6 with
  | true =>
    rw [hk0] at h
    rw [Bool.and_eq_true] at hk0
    have e1 := Nat.le_of_ble_eq_true hk0.1
    have e2 := Nat.le_of_ble_eq_true hk0.2
    obtain ⟨hps, h⟩ := mo_in_of h
    obtain ⟨q0, hq0⟩ := mo_ps_ix hps
    have he := mo_wd_at g σ hq0
    have hkd : mo_kd o = ((mo_kd o).1, (mo_kd o).2) := rfl
    rcases (show (mo_kd o).1 = 1 ∨ (mo_kd o).1 = 2 ∨ (mo_kd o).1 = 3 ∨ (mo_kd o).1 = 4 ∨ (mo_kd o).1 = 5 by omega) with q | q | q | q | q
    · rw [q] at hkd
      rw [mo_cell_1 σ hkd] at he
      exact va_alen hx hb hok.1 hP q0 0 he rfl rfl hd (hk _ _ _ h p l e s m args below meth c cells slots QQ C H locs A hP hS hl)
    · rw [q] at hkd
      rw [mo_cell_2 σ hkd] at he
      exact va_alen hx hb hok.1 hP q0 1 he rfl rfl hd (hk _ _ _ h p l e s m args below meth c cells slots QQ C H locs A hP hS hl)
    · rw [q] at hkd
      rw [mo_cell_3 σ hkd] at he
      exact va_alen hx hb hok.1 hP q0 2 he rfl rfl hd (hk _ _ _ h p l e s m args below meth c cells slots QQ C H locs A hP hS hl)
    · rw [q] at hkd
      rw [mo_cell_4 σ hkd] at he
      exact va_alen hx hb hok.1 hP q0 3 he rfl rfl hd (hk _ _ _ h p l e s m args below meth c cells slots QQ C H locs A hP hS hl)
    · rw [q] at hkd
      rw [mo_cell_5 σ hkd] at he
      exact va_alen hx hb hok.1 hP q0 4 he rfl rfl hd (hk _ _ _ h p l e s m args below meth c cells slots QQ C H locs A hP hS hl)
  | false =>
    rw [hk0] at h
    obtain ⟨h1, h⟩ := mo_b_of h
    simp only [Bool.and_eq_true, Bool.or_eq_true] at h1
    have e0 := Nat.eq_of_beq_eq_true h1.1
    subst e0
    rcases h1.2.imp Nat.eq_of_beq_eq_true Nat.eq_of_beq_eq_true with q | q
    · subst q
      exact va_tlen hx hb hok.2.2.2.2.2.1 hS rfl hd (hk _ _ _ h p l e s m args below meth c cells slots QQ C H locs A hP hS hl)
    · subst q
      exact va_tlen hx hb hok.2.2.2.2.2.2.1 hS rfl hd (hk _ _ _ h p l e s m args below meth c cells slots QQ C H locs A hP hS hl)
set_option maxHeartbeats 4000000 in
theorem mo_o_ifCond {g : mo_E} {mt : mo_T} {Q : mo_Q} {cs : Nat → mo_C} {K : mo_K} {k : mo_k} {pc len a b : Nat} {ci : Int} {ls : mo_L} {st : List mo_V} {σ : mo_M} {cc : Jvm.ClassFile.Cond} {f : Int} (hd : decode mt.1 pc = .ok (.ifCond cc f, len)) (hc : mo_ck mt.2.1 (pc, len, .ifCond cc f, a, b, ci) = true) (hK : ∀ pc ls st σ, K pc ls st σ → mo_X g mt Q pc ls st σ) (hk : ∀ ls st σ, k ls st σ → mo_X g mt Q (pc + len) ls st σ) (h : mo_op g.2.2.2.2 mt.2.2.1 mt.2.2.2.1 cs K Q (pc, len, .ifCond cc f, a, b, ci) k ls st σ) : mo_X g mt Q pc ls st σ := by
  simp only [mo_ck, Bool.and_eq_true] at hc
  simp only [mo_op] at h
  have hlen : len = 3 := Nat.eq_of_beq_eq_true hc.1
  subst hlen
  have hf : (pc : Int) + f = (a : Int) := of_decide_eq_true hc.2
  have h9 := mo_1i_of h
  clear h
  obtain ⟨x, r, rfl, h⟩ := h9
  intro p l e s m args below meth c cells slots QQ C H locs A hP hS hl
  obtain ⟨hx, hb, hml, hown, hw, hok, hcs, hret⟩ := id C
  cases cc with
  | eq => exact lv_if_eq (tgt := a) hx hb hd hf (fun q => hK _ _ _ _ (h.1 q) p l e s m args below meth c cells slots QQ C H locs A hP hS hl) (fun q => hk _ _ _ (h.2 q) p l e s m args below meth c cells slots QQ C H locs A hP hS hl)
  | ne => exact lv_if_ne (tgt := a) hx hb hd hf (fun q => hK _ _ _ _ (h.1 q) p l e s m args below meth c cells slots QQ C H locs A hP hS hl) (fun q => hk _ _ _ (h.2 q) p l e s m args below meth c cells slots QQ C H locs A hP hS hl)
  | lt => exact lv_if_lt (tgt := a) hx hb hd hf (fun q => hK _ _ _ _ (h.1 q) p l e s m args below meth c cells slots QQ C H locs A hP hS hl) (fun q => hk _ _ _ (h.2 q) p l e s m args below meth c cells slots QQ C H locs A hP hS hl)
  | ge => exact lv_if_ge (tgt := a) hx hb hd hf (fun q => hK _ _ _ _ (h.1 q) p l e s m args below meth c cells slots QQ C H locs A hP hS hl) (fun q => hk _ _ _ (h.2 q) p l e s m args below meth c cells slots QQ C H locs A hP hS hl)
  | gt => exact lv_if_gt (tgt := a) hx hb hd hf (fun q => hK _ _ _ _ (h.1 q) p l e s m args below meth c cells slots QQ C H locs A hP hS hl) (fun q => hk _ _ _ (h.2 q) p l e s m args below meth c cells slots QQ C H locs A hP hS hl)
  | le => exact lv_if_le (tgt := a) hx hb hd hf (fun q => hK _ _ _ _ (h.1 q) p l e s m args below meth c cells slots QQ C H locs A hP hS hl) (fun q => hk _ _ _ (h.2 q) p l e s m args below meth c cells slots QQ C H locs A hP hS hl)
set_option maxHeartbeats 4000000 in
theorem mo_o_if_icmp {g : mo_E} {mt : mo_T} {Q : mo_Q} {cs : Nat → mo_C} {K : mo_K} {k : mo_k} {pc len a b : Nat} {ci : Int} {ls : mo_L} {st : List mo_V} {σ : mo_M} {cc : Jvm.ClassFile.Cond} {f : Int} (hd : decode mt.1 pc = .ok (.if_icmp cc f, len)) (hc : mo_ck mt.2.1 (pc, len, .if_icmp cc f, a, b, ci) = true) (hK : ∀ pc ls st σ, K pc ls st σ → mo_X g mt Q pc ls st σ) (hk : ∀ ls st σ, k ls st σ → mo_X g mt Q (pc + len) ls st σ) (h : mo_op g.2.2.2.2 mt.2.2.1 mt.2.2.2.1 cs K Q (pc, len, .if_icmp cc f, a, b, ci) k ls st σ) : mo_X g mt Q pc ls st σ := by
  simp only [mo_ck, Bool.and_eq_true] at hc
  simp only [mo_op] at h
  have hlen : len = 3 := Nat.eq_of_beq_eq_true hc.1
  subst hlen
  have hf : (pc : Int) + f = (a : Int) := of_decide_eq_true hc.2
  have h9 := mo_2i_of h
  clear h
  obtain ⟨x, y, r, rfl, h⟩ := h9
  intro p l e s m args below meth c cells slots QQ C H locs A hP hS hl
  obtain ⟨hx, hb, hml, hown, hw, hok, hcs, hret⟩ := id C
  cases cc with
  | eq => exact lv_icmp_eq (tgt := a) hx hb hd hf (fun q => hK _ _ _ _ (h.1 q) p l e s m args below meth c cells slots QQ C H locs A hP hS hl) (fun q => hk _ _ _ (h.2 q) p l e s m args below meth c cells slots QQ C H locs A hP hS hl)
  | ne => exact lv_icmp_ne (tgt := a) hx hb hd hf (fun q => hK _ _ _ _ (h.1 q) p l e s m args below meth c cells slots QQ C H locs A hP hS hl) (fun q => hk _ _ _ (h.2 q) p l e s m args below meth c cells slots QQ C H locs A hP hS hl)
  | lt => exact lv_icmp_lt (tgt := a) hx hb hd hf (fun q => hK _ _ _ _ (h.1 q) p l e s m args below meth c cells slots QQ C H locs A hP hS hl) (fun q => hk _ _ _ (h.2 q) p l e s m args below meth c cells slots QQ C H locs A hP hS hl)
  | ge => exact lv_icmp_ge (tgt := a) hx hb hd hf (fun q => hK _ _ _ _ (h.1 q) p l e s m args below meth c cells slots QQ C H locs A hP hS hl) (fun q => hk _ _ _ (h.2 q) p l e s m args below meth c cells slots QQ C H locs A hP hS hl)
  | gt => exact lv_icmp_gt (tgt := a) hx hb hd hf (fun q => hK _ _ _ _ (h.1 q) p l e s m args below meth c cells slots QQ C H locs A hP hS hl) (fun q => hk _ _ _ (h.2 q) p l e s m args below meth c cells slots QQ C H locs A hP hS hl)
  | le => exact lv_icmp_le (tgt := a) hx hb hd hf (fun q => hK _ _ _ _ (h.1 q) p l e s m args below meth c cells slots QQ C H locs A hP hS hl) (fun q => hk _ _ _ (h.2 q) p l e s m args below meth c cells slots QQ C H locs A hP hS hl)
set_option maxHeartbeats 4000000 in
theorem mo_o_goto {g : mo_E} {mt : mo_T} {Q : mo_Q} {cs : Nat → mo_C} {K : mo_K} {k : mo_k} {pc len a b : Nat} {ci : Int} {ls : mo_L} {st : List mo_V} {σ : mo_M} {f : Int} (hd : decode mt.1 pc = .ok (.goto f, len)) (hc : mo_ck mt.2.1 (pc, len, .goto f, a, b, ci) = true) (hK : ∀ pc ls st σ, K pc ls st σ → mo_X g mt Q pc ls st σ) (hk : ∀ ls st σ, k ls st σ → mo_X g mt Q (pc + len) ls st σ) (h : mo_op g.2.2.2.2 mt.2.2.1 mt.2.2.2.1 cs K Q (pc, len, .goto f, a, b, ci) k ls st σ) : mo_X g mt Q pc ls st σ := by
  simp only [mo_ck, Bool.and_eq_true] at hc
  simp only [mo_op] at h
  have hlen : len = 3 := Nat.eq_of_beq_eq_true hc.1
  subst hlen
  have hf : (pc : Int) + f = (a : Int) := of_decide_eq_true hc.2
  intro p l e s m args below meth c cells slots QQ C H locs A hP hS hl
  obtain ⟨hx, hb, hml, hown, hw, hok, hcs, hret⟩ := id C
  exact lv_goto (tgt := a) hx hb hd hf (hK _ _ _ _ h p l e s m args below meth c cells slots QQ C H locs A hP hS hl)
set_option maxHeartbeats 4000000 in
theorem mo_o_ireturn {g : mo_E} {mt : mo_T} {Q : mo_Q} {cs : Nat → mo_C} {K : mo_K} {k : mo_k} {pc len a b : Nat} {ci : Int} {ls : mo_L} {st : List mo_V} {σ : mo_M}  (hd : decode mt.1 pc = .ok (.ireturn, len)) (hc : mo_ck mt.2.1 (pc, len, .ireturn, a, b, ci) = true) (hK : ∀ pc ls st σ, K pc ls st σ → mo_X g mt Q pc ls st σ) (hk : ∀ ls st σ, k ls st σ → mo_X g mt Q (pc + len) ls st σ) (h : mo_op g.2.2.2.2 mt.2.2.1 mt.2.2.2.1 cs K Q (pc, len, .ireturn, a, b, ci) k ls st σ) : mo_X g mt Q pc ls st σ := by
  simp only [mo_ck, Bool.and_eq_true] at hc
  simp only [mo_op] at h
  have hlen : len = 1 := Nat.eq_of_beq_eq_true hc
  subst hlen
  split at h
  next v =>
    split at h
    next ert =>
      intro p l e s m args below meth c cells slots QQ C H locs A hP hS hl
      obtain ⟨hx, hb, hml, hown, hw, hok, hcs, hret⟩ := id C
      exact hret (some (.inl v)) σ H locs A pc h (Or.inl ert) hd hP hS
    next ert =>
      intro p l e s m args below meth c cells slots QQ C H locs A hP hS hl
      obtain ⟨hx, hb, hml, hown, hw, hok, hcs, hret⟩ := id C
      exact hret (some (.inl v)) σ H locs A pc h.2 (Or.inr ⟨ert, h.1⟩) hd hP hS
    next => exact h.elim
  next => exact h.elim
set_option maxHeartbeats 4000000 in
theorem mo_o_lreturn {g : mo_E} {mt : mo_T} {Q : mo_Q} {cs : Nat → mo_C} {K : mo_K} {k : mo_k} {pc len a b : Nat} {ci : Int} {ls : mo_L} {st : List mo_V} {σ : mo_M}  (hd : decode mt.1 pc = .ok (.lreturn, len)) (hc : mo_ck mt.2.1 (pc, len, .lreturn, a, b, ci) = true) (hK : ∀ pc ls st σ, K pc ls st σ → mo_X g mt Q pc ls st σ) (hk : ∀ ls st σ, k ls st σ → mo_X g mt Q (pc + len) ls st σ) (h : mo_op g.2.2.2.2 mt.2.2.1 mt.2.2.2.1 cs K Q (pc, len, .lreturn, a, b, ci) k ls st σ) : mo_X g mt Q pc ls st σ := by
  simp only [mo_ck, Bool.and_eq_true] at hc
  simp only [mo_op] at h
  have hlen : len = 1 := Nat.eq_of_beq_eq_true hc
  subst hlen
  split at h
  next v =>
    obtain ⟨ert, h⟩ := mo_b_of h
    have ert := Nat.eq_of_beq_eq_true ert
    intro p l e s m args below meth c cells slots QQ C H locs A hP hS hl
    obtain ⟨hx, hb, hml, hown, hw, hok, hcs, hret⟩ := id C
    exact hret (some (.inr (.inl v))) σ H locs A pc h ert hd hP hS
  next => exact h.elim
set_option maxHeartbeats 4000000 in
theorem mo_o_return_ {g : mo_E} {mt : mo_T} {Q : mo_Q} {cs : Nat → mo_C} {K : mo_K} {k : mo_k} {pc len a b : Nat} {ci : Int} {ls : mo_L} {st : List mo_V} {σ : mo_M}  (hd : decode mt.1 pc = .ok (.return_, len)) (hc : mo_ck mt.2.1 (pc, len, .return_, a, b, ci) = true) (hK : ∀ pc ls st σ, K pc ls st σ → mo_X g mt Q pc ls st σ) (hk : ∀ ls st σ, k ls st σ → mo_X g mt Q (pc + len) ls st σ) (h : mo_op g.2.2.2.2 mt.2.2.1 mt.2.2.2.1 cs K Q (pc, len, .return_, a, b, ci) k ls st σ) : mo_X g mt Q pc ls st σ := by
  simp only [mo_ck, Bool.and_eq_true] at hc
  simp only [mo_op] at h
  have hlen : len = 1 := Nat.eq_of_beq_eq_true hc
  subst hlen
  split at h
  next =>
    obtain ⟨ert, h⟩ := mo_b_of h
    have ert := Nat.eq_of_beq_eq_true ert
    intro p l e s m args below meth c cells slots QQ C H locs A hP hS hl
    obtain ⟨hx, hb, hml, hown, hw, hok, hcs, hret⟩ := id C
    exact hret none σ H locs A pc h ert hd hP hS
  next => exact h.elim
theorem mo_pop_of : ∀ (n : Nat) (st acc as r : List mo_V), mo_pop n st acc = some (as, r) → as.reverse ++ r = acc.reverse ++ st ∧ as.length = n + acc.length
  | 0, st, acc, as, r, h => by cases h; exact ⟨rfl, by omega⟩
  | n + 1, [], acc, as, r, h => by cases h
  | n + 1, v :: st, acc, as, r, h => by
    obtain ⟨h1, h2⟩ := mo_pop_of n st (v :: acc) as r h
    refine ⟨by rw [h1]; simp, by simp at h2; omega⟩
theorem mo_call_of {g : mo_E} {mt : mo_T} {Q : mo_Q} {C : mo_C} {pc : Nat} {k : mo_k} {ls : mo_L} {st : List mo_V} {σ : mo_M} (hk : ∀ ls st σ, k ls st σ → mo_X g mt Q (pc + 3) ls st σ) (hmon : ∀ (as : List mo_V) (σ : mo_M) (P P' : mo_Q), (∀ x τ, P x τ → P' x τ) → C.2.2.2.2 as σ P → C.2.2.2.2 as σ P') (h : mo_call C k ls st σ) : ∃ as r, st = as.reverse ++ r ∧ as.length = C.1 ∧ mo_cat r ≤ 8 ∧ ((C.2.1 && Nat.blt C.2.2.2.1 50) = true → ∃ (o w : Nat) (t : List mo_V), as = .inr (.inr (o, w)) :: t ∧ mo_isO o C.2.2.2.1 = true ∧ (o, w) ∈ mo_ps) ∧ C.2.2.2.2 as σ (fun x σ' => mo_X g mt Q (pc + 3) ls (mo_psh x r) σ') := by
  unfold mo_call at h
  split at h
  next as r e =>
    obtain ⟨h1, h2⟩ := mo_pop_of _ _ _ _ _ e
    obtain ⟨h3, h⟩ := mo_b_of h
    refine ⟨as, r, by rw [h1]; rfl, by simpa using h2, Nat.le_of_ble_eq_true h3, ?_⟩
    cases hv : (C.2.1 && Nat.blt C.2.2.2.1 50) with
    | false =>
      rw [hv] at h
      exact ⟨fun q => (by cases q), hmon _ _ _ _ (fun x τ q => hk _ _ _ q) h⟩
    | true =>
      rw [hv] at h
      have h9 := mo_1r_of h
      clear h
      obtain ⟨o, w, t, rfl, h⟩ := h9
      obtain ⟨h4, h⟩ := mo_b_of h
      obtain ⟨h5, h⟩ := mo_in_of h
      exact ⟨fun _ => ⟨o, w, t, rfl, h4, h5⟩, hmon _ _ _ _ (fun x τ q => hk _ _ _ q) h⟩
  next => exact h.elim
def mo_mon (C : mo_C) : Prop := ∀ (as : List mo_V) (σ : mo_M) (P P' : mo_Q), (∀ x τ, P x τ → P' x τ) → C.2.2.2.2 as σ P → C.2.2.2.2 as σ P' 
set_option maxHeartbeats 4000000 in
theorem mo_op_ok {g : mo_E} {mt : mo_T} {Q : mo_Q} {cs : Nat → mo_C} {K : mo_K} {k : mo_k} {ls : mo_L} {st : List mo_V} {σ : mo_M} (q : mo_I) (hd : decode mt.1 q.1 = .ok (q.2.2.1, q.2.1)) (hc : mo_ck mt.2.1 q = true) (hcs : ∀ j, mo_cok g mt (cs j) ∧ mo_mon (cs j)) (hK : ∀ pc ls st σ, K pc ls st σ → mo_X g mt Q pc ls st σ) (hk : ∀ ls st σ, k ls st σ → mo_X g mt Q (q.1 + q.2.1) ls st σ) (h : mo_op g.2.2.2.2 mt.2.2.1 mt.2.2.2.1 cs K Q q k ls st σ) : mo_X g mt Q q.1 ls st σ := by
  obtain ⟨pc, len, ins, a, b, ci⟩ := q
  dsimp only at hd hcs hk ⊢
  cases ins with
  | iconst n => exact mo_o_iconst hd hc hK hk h
  | bipush n => exact mo_o_bipush hd hc hK hk h
  | sipush n => exact mo_o_sipush hd hc hK hk h
  | lconst n => exact mo_o_lconst hd hc hK hk h
  | ldc i => exact mo_o_ldc hd hc hK hk h
  | ldc_w i => exact mo_o_ldc_w hd hc hK hk h
  | ldc2_w i => exact mo_o_ldc2_w hd hc hK hk h
  | iload i => exact mo_o_iload hd hc hK hk h
  | iload_n i => exact mo_o_iload_n hd hc hK hk h
  | lload i => exact mo_o_lload hd hc hK hk h
  | lload_n i => exact mo_o_lload_n hd hc hK hk h
  | aload i => exact mo_o_aload hd hc hK hk h
  | aload_n i => exact mo_o_aload_n hd hc hK hk h
  | istore i => exact mo_o_istore hd hc hK hk h
  | istore_n i => exact mo_o_istore_n hd hc hK hk h
  | lstore i => exact mo_o_lstore hd hc hK hk h
  | lstore_n i => exact mo_o_lstore_n hd hc hK hk h
  | astore i => exact mo_o_astore hd hc hK hk h
  | astore_n i => exact mo_o_astore_n hd hc hK hk h
  | iinc i n => exact mo_o_iinc hd hc hK hk h
  | iadd => exact mo_o_iadd hd hc hK hk h
  | isub => exact mo_o_isub hd hc hK hk h
  | imul => exact mo_o_imul hd hc hK hk h
  | iand => exact mo_o_iand hd hc hK hk h
  | ior => exact mo_o_ior hd hc hK hk h
  | ixor => exact mo_o_ixor hd hc hK hk h
  | ishl => exact mo_o_ishl hd hc hK hk h
  | ishr => exact mo_o_ishr hd hc hK hk h
  | idiv => exact mo_o_idiv hd hc hK hk h
  | irem => exact mo_o_irem hd hc hK hk h
  | iushr => exact mo_o_iushr hd hc hK hk h
  | ineg => exact mo_o_ineg hd hc hK hk h
  | ladd => exact mo_o_ladd hd hc hK hk h
  | land => exact mo_o_land hd hc hK hk h
  | lor => exact mo_o_lor hd hc hK hk h
  | lxor => exact mo_o_lxor hd hc hK hk h
  | lshl => exact mo_o_lshl hd hc hK hk h
  | lshr => exact mo_o_lshr hd hc hK hk h
  | lushr => exact mo_o_lushr hd hc hK hk h
  | lcmp => exact mo_o_lcmp hd hc hK hk h
  | i2l => exact mo_o_i2l hd hc hK hk h
  | i2b => exact mo_o_i2b hd hc hK hk h
  | l2i => exact mo_o_l2i hd hc hK hk h
  | dup => exact mo_o_dup hd hc hK hk h
  | pop => exact mo_o_pop hd hc hK hk h
  | dup2 => exact mo_o_dup2 hd hc hK hk h
  | getfield i => exact mo_o_getfield hd hc hK hk h
  | putfield i => exact mo_o_putfield hd hc hK hk h
  | getstatic i => exact mo_o_getstatic hd hc hK hk h
  | iaload => exact mo_o_iaload hd hc hK hk h
  | baload => exact mo_o_baload hd hc hK hk h
  | laload => exact mo_o_laload hd hc hK hk h
  | aaload => exact mo_o_aaload hd hc hK hk h
  | iastore => exact mo_o_iastore hd hc hK hk h
  | lastore => exact mo_o_lastore hd hc hK hk h
  | bastore => exact mo_o_bastore hd hc hK hk h
  | arraylength => exact mo_o_arraylength hd hc hK hk h
  | ifCond cc f => exact mo_o_ifCond hd hc hK hk h
  | if_icmp cc f => exact mo_o_if_icmp hd hc hK hk h
  | goto f => exact mo_o_goto hd hc hK hk h
  | ireturn => exact mo_o_ireturn hd hc hK hk h
  | lreturn => exact mo_o_lreturn hd hc hK hk h
  | return_ => exact mo_o_return_ hd hc hK hk h
  | tableswitch d lo hi offs =>
    simp only [mo_op] at h
    have h9 := mo_1i_of h
    clear h
    obtain ⟨x, r, rfl, h⟩ := h9
    simp only [mo_ck, decide_eq_true_eq] at hc
    obtain ⟨hc1, hc2, hc3⟩ := hc
    intro p l e s m args below meth c cells slots QQ C H locs A hP hS hl
    obtain ⟨hx, hb, hml, hown, hw, hok, hcs, hret⟩ := id C
    by_cases hout : x.toInt < lo ∨ hi < x.toInt
    · refine lv_tableOut (tgt := ((pc : Int) + d).toNat) hx hb hd hout (by omega) (hK _ _ _ _ (h _ ?_) p l e s m args below meth c cells slots QQ C H locs A hP hS hl)
      unfold mo_sw
      rw [if_pos hout]
      omega
    · have hi2 : (x.toInt - lo).toNat < offs.size := by omega
      have ho : offs[(x.toInt - lo).toNat]? = some offs[(x.toInt - lo).toNat] := Array.getElem?_eq_getElem hi2
      have hn : 0 ≤ (pc : Int) + offs[(x.toInt - lo).toNat] := hc3 _ (by rw [Array.mem_toList_iff]; exact Array.getElem_mem hi2)
      refine lv_tableIn (tgt := ((pc : Int) + offs[(x.toInt - lo).toNat]).toNat) hx hb hd (fun q => hout (Or.inl q)) (fun q => hout (Or.inr q)) ho (by omega) (hK _ _ _ _ (h _ ?_) p l e s m args below meth c cells slots QQ C H locs A hP hS hl)
      unfold mo_sw
      rw [if_neg hout, ho]
      show (pc : Int) + offs[(x.toInt - lo).toNat] = _
      omega
  | invokevirtual i =>
    simp only [mo_op] at h
    simp only [mo_ck] at hc
    have hlen : len = 3 := Nat.eq_of_beq_eq_true hc
    subst hlen
    obtain ⟨hv, h⟩ := mo_b_of h
    rw [Bool.and_eq_true] at hv
    have e := Nat.eq_of_beq_eq_true hv.2
    obtain ⟨h1, h2⟩ := hcs a
    obtain ⟨as, r, rfl, h3, h4, h5, h6⟩ := mo_call_of hk h2 h
    exact h1 pc (by rw [hv.1, e]; exact hd) Q ls as r σ h3 h4 h5 h6
  | invokestatic i =>
    simp only [mo_op] at h
    simp only [mo_ck] at hc
    have hlen : len = 3 := Nat.eq_of_beq_eq_true hc
    subst hlen
    obtain ⟨hv, h⟩ := mo_b_of h
    rw [Bool.and_eq_true] at hv
    have e := Nat.eq_of_beq_eq_true hv.2
    have e2 : (cs a).2.1 = false := by simpa using hv.1
    obtain ⟨h1, h2⟩ := hcs a
    obtain ⟨as, r, rfl, h3, h4, h5, h6⟩ := mo_call_of hk h2 h
    exact h1 pc (by rw [e2, e]; exact hd) Q ls as r σ h3 h4 h5 h6
  | _ => exact h.elim
/-- a row of instructions that follow each other -/
def mo_chain : Nat → List mo_I → Bool
  | _, [] => true
  | pc, q :: r => Nat.beq pc q.1 && mo_chain (q.1 + q.2.1) r
def mo_good (mt : mo_T) (is : List mo_I) : Bool := is.all fun q => decide (decode mt.1 q.1 = .ok (q.2.2.1, q.2.1)) && mo_ck mt.2.1 q
theorem mo_run {g : mo_E} {mt : mo_T} {Q : mo_Q} {cs : Nat → mo_C} {K : mo_K} (hK : ∀ pc ls st σ, K pc ls st σ → mo_X g mt Q pc ls st σ) : ∀ (is : List mo_I) (pc : Nat), mo_chain pc is = true → mo_good mt is = true → (∀ j, mo_cok g mt (cs j) ∧ mo_mon (cs j)) → ∀ ls st σ, mo_am g.2.2.2.2 mt.2.2.1 mt.2.2.2.1 cs K Q is pc ls st σ → mo_X g mt Q pc ls st σ
  | [], pc, _, _, _, ls, st, σ, h => hK pc ls st σ h
  | q :: r, pc, h1, h2, h3, ls, st, σ, h => by
    unfold mo_chain at h1
    rw [Bool.and_eq_true] at h1
    have e := Nat.eq_of_beq_eq_true h1.1
    subst e
    unfold mo_good at h2
    rw [List.all_cons, Bool.and_eq_true, Bool.and_eq_true] at h2
    exact mo_op_ok q (of_decide_eq_true h2.1.1) h2.1.2 h3 hK (mo_run hK r _ h1.2 h2.2 h3) h
