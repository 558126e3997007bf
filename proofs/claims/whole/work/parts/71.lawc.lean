/-! the law: a call of each side, a case a theorem -/
abbrev lw_ls (x : Int32) : mo_L := [some (.inr (.inr (95, 0))), some (.inr (.inr (0, 0))), some (.inr (.inr (50, 0))), some (.inl x)]
def lw_cs (n i1 i2 : Nat) (S S' : mo_S) : Nat → mo_C := fun j => match j with
  | 0 => (n, true, i1, 11, S)
  | 1 => (n, true, i2, 12, S')
  | _ => (0, false, 0, 50, fun _ _ _ => False)
theorem lw_cs_ok {g : mo_E} {n i1 i2 : Nat} {S S' : mo_S} (h : mo_cok g t_law (n, true, i1, 11, S) ∧ mo_mon (n, true, i1, 11, S)) (h' : mo_cok g t_law (n, true, i2, 12, S') ∧ mo_mon (n, true, i2, 12, S')) : ∀ j, mo_cok g t_law (lw_cs n i1 i2 S S' j) ∧ mo_mon (lw_cs n i1 i2 S S' j) := by
  intro j
  unfold lw_cs
  split
  · exact h
  · exact h'
  · exact ⟨mo_cok0 g _, mo_mon0⟩
set_option maxRecDepth 20000 in
set_option maxHeartbeats 2000000 in
theorem lw_g0 (g : mo_E) (Q : mo_Q) (x : Int32) (σ : mo_M) (S S' : mo_S) (hS : mo_cok g t_law (2, true, 13, 11, S) ∧ mo_mon (2, true, 13, 11, S)) (hS' : mo_cok g t_law (2, true, 17, 12, S') ∧ mo_mon (2, true, 17, 12, S')) (h1 : vp_in (x + Int32.ofInt 1) (mo_en g.2.2.2.2 95)) (hT : ∀ υ, iv υ → mo_X g t_law Q 1184 (lw_ls x) [] υ) (hi : S [.inr (.inr (0, 0)), .inl (mo_ev g.2.2.2.2 95 (x + Int32.ofInt 1).toNatClampNeg)] σ (fun r τ => (∃ v : Int32, r = some (.inl v)) ∧ S' [.inr (.inr (50, 0)), .inl (mo_ev g.2.2.2.2 95 (x + Int32.ofInt 1).toNatClampNeg)] τ (fun r' υ => r = r' ∧ iv υ))) : mo_X g t_law Q 160 (lw_ls x) [] σ := by
  refine mo_goS ok_law0 (lw_cs_ok hS hS') [1184] 19 ?_
  intro K hK
  refine And.intro h1 ?_
  refine hS.2 _ _ _ _ (fun r τ hr => ?_) hi
  obtain ⟨⟨v, rfl⟩, hr⟩ := hr
  refine And.intro h1 ?_
  refine hS'.2 _ _ _ _ (fun r' υ hr2 => ?_) hr
  obtain ⟨rfl, hiv2⟩ := hr2
  refine And.intro (fun _ => ?_) (fun q => absurd rfl q)
  exact hK _ _ _ _ (hT υ hiv2)
theorem lw_c0 (g : mo_E) (Q : mo_Q) (x : Int32) (σ : mo_M) (h1 : vp_in (x + Int32.ofInt 1) (mo_en g.2.2.2.2 95)) (hT : ∀ υ, iv υ → mo_X g t_law Q 1184 (lw_ls x) [] υ) (hiv : iv σ) : mo_X g t_law Q 160 (lw_ls x) [] σ :=
  lw_g0 g Q x σ S_X11_part S_X12_part (cs_law0_ok g 0) (cs_law0_ok g 1) h1 hT (sh_X11_part _ _ _ (iv_part _ σ hiv))
set_option maxRecDepth 20000 in
set_option maxHeartbeats 2000000 in
theorem lw_g1 (g : mo_E) (Q : mo_Q) (x : Int32) (σ : mo_M) (S S' : mo_S) (hS : mo_cok g t_law (5, true, 18, 11, S) ∧ mo_mon (5, true, 18, 11, S)) (hS' : mo_cok g t_law (5, true, 22, 12, S') ∧ mo_mon (5, true, 22, 12, S')) (h1 : vp_in (x + Int32.ofInt 1) (mo_en g.2.2.2.2 95)) (h2 : vp_in (x + Int32.ofInt 2) (mo_en g.2.2.2.2 95)) (h3 : vp_in (x + Int32.ofInt 3) (mo_en g.2.2.2.2 95)) (h4 : vp_in (x + Int32.ofInt 4) (mo_en g.2.2.2.2 95)) (hT : ∀ υ, iv υ → mo_X g t_law Q 1184 (lw_ls x) [] υ) (hi : S [.inr (.inr (0, 0)), .inl (mo_ev g.2.2.2.2 95 (x + Int32.ofInt 1).toNatClampNeg), .inl (mo_ev g.2.2.2.2 95 (x + Int32.ofInt 2).toNatClampNeg), .inl (mo_ev g.2.2.2.2 95 (x + Int32.ofInt 3).toNatClampNeg), .inl (mo_ev g.2.2.2.2 95 (x + Int32.ofInt 4).toNatClampNeg)] σ (fun r τ => (∃ v : Int32, r = some (.inl v)) ∧ S' [.inr (.inr (50, 0)), .inl (mo_ev g.2.2.2.2 95 (x + Int32.ofInt 1).toNatClampNeg), .inl (mo_ev g.2.2.2.2 95 (x + Int32.ofInt 2).toNatClampNeg), .inl (mo_ev g.2.2.2.2 95 (x + Int32.ofInt 3).toNatClampNeg), .inl (mo_ev g.2.2.2.2 95 (x + Int32.ofInt 4).toNatClampNeg)] τ (fun r' υ => r = r' ∧ iv υ))) : mo_X g t_law Q 183 (lw_ls x) [] σ := by
  refine mo_goS ok_law1 (lw_cs_ok hS hS') [1184] 49 ?_
  intro K hK
  refine And.intro h1 ?_
  refine And.intro h2 ?_
  refine And.intro h3 ?_
  refine And.intro h4 ?_
  refine hS.2 _ _ _ _ (fun r τ hr => ?_) hi
  obtain ⟨⟨v, rfl⟩, hr⟩ := hr
  refine And.intro h1 ?_
  refine And.intro h2 ?_
  refine And.intro h3 ?_
  refine And.intro h4 ?_
  refine hS'.2 _ _ _ _ (fun r' υ hr2 => ?_) hr
  obtain ⟨rfl, hiv2⟩ := hr2
  refine And.intro (fun _ => ?_) (fun q => absurd rfl q)
  exact hK _ _ _ _ (hT υ hiv2)
theorem lw_c1 (g : mo_E) (Q : mo_Q) (x : Int32) (σ : mo_M) (h1 : vp_in (x + Int32.ofInt 1) (mo_en g.2.2.2.2 95)) (h2 : vp_in (x + Int32.ofInt 2) (mo_en g.2.2.2.2 95)) (h3 : vp_in (x + Int32.ofInt 3) (mo_en g.2.2.2.2 95)) (h4 : vp_in (x + Int32.ofInt 4) (mo_en g.2.2.2.2 95)) (hT : ∀ υ, iv υ → mo_X g t_law Q 1184 (lw_ls x) [] υ) (hiv : iv σ) : mo_X g t_law Q 183 (lw_ls x) [] σ :=
  lw_g1 g Q x σ S_X11_make S_X12_make (cs_law1_ok g 0) (cs_law1_ok g 1) h1 h2 h3 h4 hT (sh_X11_make _ _ _ (iv_make _ _ _ _ σ hiv))
set_option maxRecDepth 20000 in
set_option maxHeartbeats 2000000 in
theorem lw_g2 (g : mo_E) (Q : mo_Q) (x : Int32) (σ : mo_M) (S S' : mo_S) (hS : mo_cok g t_law (5, true, 23, 11, S) ∧ mo_mon (5, true, 23, 11, S)) (hS' : mo_cok g t_law (5, true, 26, 12, S') ∧ mo_mon (5, true, 26, 12, S')) (h1 : vp_in (x + Int32.ofInt 1) (mo_en g.2.2.2.2 95)) (h2 : vp_in (x + Int32.ofInt 2) (mo_en g.2.2.2.2 95)) (h3 : vp_in (x + Int32.ofInt 3) (mo_en g.2.2.2.2 95)) (h4 : vp_in (x + Int32.ofInt 4) (mo_en g.2.2.2.2 95)) (hT : ∀ υ, iv υ → mo_X g t_law Q 1184 (lw_ls x) [] υ) (hi : S [.inr (.inr (0, 0)), .inl (mo_ev g.2.2.2.2 95 (x + Int32.ofInt 1).toNatClampNeg), .inl (mo_ev g.2.2.2.2 95 (x + Int32.ofInt 2).toNatClampNeg), .inl (mo_ev g.2.2.2.2 95 (x + Int32.ofInt 3).toNatClampNeg), .inl (mo_ev g.2.2.2.2 95 (x + Int32.ofInt 4).toNatClampNeg)] σ (fun r τ => (∃ v : Int32, r = some (.inl v)) ∧ S' [.inr (.inr (50, 0)), .inl (mo_ev g.2.2.2.2 95 (x + Int32.ofInt 1).toNatClampNeg), .inl (mo_ev g.2.2.2.2 95 (x + Int32.ofInt 2).toNatClampNeg), .inl (mo_ev g.2.2.2.2 95 (x + Int32.ofInt 3).toNatClampNeg), .inl (mo_ev g.2.2.2.2 95 (x + Int32.ofInt 4).toNatClampNeg)] τ (fun r' υ => r = r' ∧ iv υ))) : mo_X g t_law Q 236 (lw_ls x) [] σ := by
  refine mo_goS ok_law2 (lw_cs_ok hS hS') [1184] 49 ?_
  intro K hK
  refine And.intro h1 ?_
  refine And.intro h2 ?_
  refine And.intro h3 ?_
  refine And.intro h4 ?_
  refine hS.2 _ _ _ _ (fun r τ hr => ?_) hi
  obtain ⟨⟨v, rfl⟩, hr⟩ := hr
  refine And.intro h1 ?_
  refine And.intro h2 ?_
  refine And.intro h3 ?_
  refine And.intro h4 ?_
  refine hS'.2 _ _ _ _ (fun r' υ hr2 => ?_) hr
  obtain ⟨rfl, hiv2⟩ := hr2
  refine And.intro (fun _ => ?_) (fun q => absurd rfl q)
  exact hK _ _ _ _ (hT υ hiv2)
theorem lw_c2 (g : mo_E) (Q : mo_Q) (x : Int32) (σ : mo_M) (h1 : vp_in (x + Int32.ofInt 1) (mo_en g.2.2.2.2 95)) (h2 : vp_in (x + Int32.ofInt 2) (mo_en g.2.2.2.2 95)) (h3 : vp_in (x + Int32.ofInt 3) (mo_en g.2.2.2.2 95)) (h4 : vp_in (x + Int32.ofInt 4) (mo_en g.2.2.2.2 95)) (hT : ∀ υ, iv υ → mo_X g t_law Q 1184 (lw_ls x) [] υ) (hiv : iv σ) : mo_X g t_law Q 236 (lw_ls x) [] σ :=
  lw_g2 g Q x σ S_X11_find S_X12_find (cs_law2_ok g 0) (cs_law2_ok g 1) h1 h2 h3 h4 hT (sh_X11_find _ _ _ (iv_find _ _ _ _ σ hiv))
set_option maxRecDepth 20000 in
set_option maxHeartbeats 2000000 in
theorem lw_g3 (g : mo_E) (Q : mo_Q) (x : Int32) (σ : mo_M) (S S' : mo_S) (hS : mo_cok g t_law (5, true, 27, 11, S) ∧ mo_mon (5, true, 27, 11, S)) (hS' : mo_cok g t_law (5, true, 30, 12, S') ∧ mo_mon (5, true, 30, 12, S')) (h1 : vp_in (x + Int32.ofInt 1) (mo_en g.2.2.2.2 95)) (h2 : vp_in (x + Int32.ofInt 2) (mo_en g.2.2.2.2 95)) (h3 : vp_in (x + Int32.ofInt 3) (mo_en g.2.2.2.2 95)) (h4 : vp_in (x + Int32.ofInt 4) (mo_en g.2.2.2.2 95)) (hT : ∀ υ, iv υ → mo_X g t_law Q 1184 (lw_ls x) [] υ) (hi : S [.inr (.inr (0, 0)), .inl (mo_ev g.2.2.2.2 95 (x + Int32.ofInt 1).toNatClampNeg), .inl (mo_ev g.2.2.2.2 95 (x + Int32.ofInt 2).toNatClampNeg), .inl (mo_ev g.2.2.2.2 95 (x + Int32.ofInt 3).toNatClampNeg), .inl (mo_ev g.2.2.2.2 95 (x + Int32.ofInt 4).toNatClampNeg)] σ (fun r τ => (∃ v : Int32, r = some (.inl v)) ∧ S' [.inr (.inr (50, 0)), .inl (mo_ev g.2.2.2.2 95 (x + Int32.ofInt 1).toNatClampNeg), .inl (mo_ev g.2.2.2.2 95 (x + Int32.ofInt 2).toNatClampNeg), .inl (mo_ev g.2.2.2.2 95 (x + Int32.ofInt 3).toNatClampNeg), .inl (mo_ev g.2.2.2.2 95 (x + Int32.ofInt 4).toNatClampNeg)] τ (fun r' υ => r = r' ∧ iv υ))) : mo_X g t_law Q 289 (lw_ls x) [] σ := by
  refine mo_goS ok_law3 (lw_cs_ok hS hS') [1184] 49 ?_
  intro K hK
  refine And.intro h1 ?_
  refine And.intro h2 ?_
  refine And.intro h3 ?_
  refine And.intro h4 ?_
  refine hS.2 _ _ _ _ (fun r τ hr => ?_) hi
  obtain ⟨⟨v, rfl⟩, hr⟩ := hr
  refine And.intro h1 ?_
  refine And.intro h2 ?_
  refine And.intro h3 ?_
  refine And.intro h4 ?_
  refine hS'.2 _ _ _ _ (fun r' υ hr2 => ?_) hr
  obtain ⟨rfl, hiv2⟩ := hr2
  refine And.intro (fun _ => ?_) (fun q => absurd rfl q)
  exact hK _ _ _ _ (hT υ hiv2)
theorem lw_c3 (g : mo_E) (Q : mo_Q) (x : Int32) (σ : mo_M) (h1 : vp_in (x + Int32.ofInt 1) (mo_en g.2.2.2.2 95)) (h2 : vp_in (x + Int32.ofInt 2) (mo_en g.2.2.2.2 95)) (h3 : vp_in (x + Int32.ofInt 3) (mo_en g.2.2.2.2 95)) (h4 : vp_in (x + Int32.ofInt 4) (mo_en g.2.2.2.2 95)) (hT : ∀ υ, iv υ → mo_X g t_law Q 1184 (lw_ls x) [] υ) (hiv : iv σ) : mo_X g t_law Q 289 (lw_ls x) [] σ :=
  lw_g3 g Q x σ S_X11_link S_X12_link (cs_law3_ok g 0) (cs_law3_ok g 1) h1 h2 h3 h4 hT (sh_X11_link _ _ _ (iv_link _ _ _ _ σ hiv))
set_option maxRecDepth 20000 in
set_option maxHeartbeats 2000000 in
theorem lw_g4 (g : mo_E) (Q : mo_Q) (x : Int32) (σ : mo_M) (S S' : mo_S) (hS : mo_cok g t_law (3, true, 31, 11, S) ∧ mo_mon (3, true, 31, 11, S)) (hS' : mo_cok g t_law (3, true, 35, 12, S') ∧ mo_mon (3, true, 35, 12, S')) (h1 : vp_in (x + Int32.ofInt 1) (mo_en g.2.2.2.2 95)) (h2 : vp_in (x + Int32.ofInt 2) (mo_en g.2.2.2.2 95)) (hT : ∀ υ, iv υ → mo_X g t_law Q 1184 (lw_ls x) [] υ) (hi : S [.inr (.inr (0, 0)), .inl (mo_ev g.2.2.2.2 95 (x + Int32.ofInt 1).toNatClampNeg), .inl (mo_ev g.2.2.2.2 95 (x + Int32.ofInt 2).toNatClampNeg)] σ (fun r τ => (∃ v : Int32, r = some (.inl v)) ∧ S' [.inr (.inr (50, 0)), .inl (mo_ev g.2.2.2.2 95 (x + Int32.ofInt 1).toNatClampNeg), .inl (mo_ev g.2.2.2.2 95 (x + Int32.ofInt 2).toNatClampNeg)] τ (fun r' υ => r = r' ∧ iv υ))) : mo_X g t_law Q 342 (lw_ls x) [] σ := by
  refine mo_goS ok_law4 (lw_cs_ok hS hS') [1184] 29 ?_
  intro K hK
  refine And.intro h1 ?_
  refine And.intro h2 ?_
  refine hS.2 _ _ _ _ (fun r τ hr => ?_) hi
  obtain ⟨⟨v, rfl⟩, hr⟩ := hr
  refine And.intro h1 ?_
  refine And.intro h2 ?_
  refine hS'.2 _ _ _ _ (fun r' υ hr2 => ?_) hr
  obtain ⟨rfl, hiv2⟩ := hr2
  refine And.intro (fun _ => ?_) (fun q => absurd rfl q)
  exact hK _ _ _ _ (hT υ hiv2)
theorem lw_c4 (g : mo_E) (Q : mo_Q) (x : Int32) (σ : mo_M) (h1 : vp_in (x + Int32.ofInt 1) (mo_en g.2.2.2.2 95)) (h2 : vp_in (x + Int32.ofInt 2) (mo_en g.2.2.2.2 95)) (hT : ∀ υ, iv υ → mo_X g t_law Q 1184 (lw_ls x) [] υ) (hiv : iv σ) : mo_X g t_law Q 342 (lw_ls x) [] σ :=
  lw_g4 g Q x σ S_X11_cut S_X12_cut (cs_law4_ok g 0) (cs_law4_ok g 1) h1 h2 hT (sh_X11_cut _ _ _ (iv_cut _ _ σ hiv))
set_option maxRecDepth 20000 in
set_option maxHeartbeats 2000000 in
theorem lw_g5 (g : mo_E) (Q : mo_Q) (x : Int32) (σ : mo_M) (S S' : mo_S) (hS : mo_cok g t_law (3, true, 36, 11, S) ∧ mo_mon (3, true, 36, 11, S)) (hS' : mo_cok g t_law (3, true, 39, 12, S') ∧ mo_mon (3, true, 39, 12, S')) (h1 : vp_in (x + Int32.ofInt 1) (mo_en g.2.2.2.2 95)) (h2 : vp_in (x + Int32.ofInt 2) (mo_en g.2.2.2.2 95)) (hT : ∀ υ, iv υ → mo_X g t_law Q 1184 (lw_ls x) [] υ) (hi : S [.inr (.inr (0, 0)), .inl (mo_ev g.2.2.2.2 95 (x + Int32.ofInt 1).toNatClampNeg), .inl (mo_ev g.2.2.2.2 95 (x + Int32.ofInt 2).toNatClampNeg)] σ (fun r τ => (∃ v : Int32, r = some (.inl v)) ∧ S' [.inr (.inr (50, 0)), .inl (mo_ev g.2.2.2.2 95 (x + Int32.ofInt 1).toNatClampNeg), .inl (mo_ev g.2.2.2.2 95 (x + Int32.ofInt 2).toNatClampNeg)] τ (fun r' υ => r = r' ∧ iv υ))) : mo_X g t_law Q 375 (lw_ls x) [] σ := by
  refine mo_goS ok_law5 (lw_cs_ok hS hS') [1184] 29 ?_
  intro K hK
  refine And.intro h1 ?_
  refine And.intro h2 ?_
  refine hS.2 _ _ _ _ (fun r τ hr => ?_) hi
  obtain ⟨⟨v, rfl⟩, hr⟩ := hr
  refine And.intro h1 ?_
  refine And.intro h2 ?_
  refine hS'.2 _ _ _ _ (fun r' υ hr2 => ?_) hr
  obtain ⟨rfl, hiv2⟩ := hr2
  refine And.intro (fun _ => ?_) (fun q => absurd rfl q)
  exact hK _ _ _ _ (hT υ hiv2)
theorem lw_c5 (g : mo_E) (Q : mo_Q) (x : Int32) (σ : mo_M) (h1 : vp_in (x + Int32.ofInt 1) (mo_en g.2.2.2.2 95)) (h2 : vp_in (x + Int32.ofInt 2) (mo_en g.2.2.2.2 95)) (hT : ∀ υ, iv υ → mo_X g t_law Q 1184 (lw_ls x) [] υ) (hiv : iv σ) : mo_X g t_law Q 375 (lw_ls x) [] σ :=
  lw_g5 g Q x σ S_X11_counts S_X12_counts (cs_law5_ok g 0) (cs_law5_ok g 1) h1 h2 hT (sh_X11_counts _ _ _ (iv_counts _ _ σ hiv))
set_option maxRecDepth 20000 in
set_option maxHeartbeats 2000000 in
theorem lw_g6 (g : mo_E) (Q : mo_Q) (x : Int32) (σ : mo_M) (S S' : mo_S) (hS : mo_cok g t_law (6, true, 40, 11, S) ∧ mo_mon (6, true, 40, 11, S)) (hS' : mo_cok g t_law (6, true, 44, 12, S') ∧ mo_mon (6, true, 44, 12, S')) (h1 : vp_in (x + Int32.ofInt 1) (mo_en g.2.2.2.2 95)) (h2 : vp_in (x + Int32.ofInt 2) (mo_en g.2.2.2.2 95)) (h3 : vp_in (x + Int32.ofInt 3) (mo_en g.2.2.2.2 95)) (h4 : vp_in (x + Int32.ofInt 4) (mo_en g.2.2.2.2 95)) (h5 : vp_in (x + Int32.ofInt 5) (mo_en g.2.2.2.2 95)) (hT : ∀ υ, iv υ → mo_X g t_law Q 1184 (lw_ls x) [] υ) (hi : S [.inr (.inr (0, 0)), .inl (mo_ev g.2.2.2.2 95 (x + Int32.ofInt 1).toNatClampNeg), .inl (mo_ev g.2.2.2.2 95 (x + Int32.ofInt 2).toNatClampNeg), .inl (mo_ev g.2.2.2.2 95 (x + Int32.ofInt 3).toNatClampNeg), .inl (mo_ev g.2.2.2.2 95 (x + Int32.ofInt 4).toNatClampNeg), .inl (mo_ev g.2.2.2.2 95 (x + Int32.ofInt 5).toNatClampNeg)] σ (fun r τ => (∃ v : Int32, r = some (.inl v)) ∧ S' [.inr (.inr (50, 0)), .inl (mo_ev g.2.2.2.2 95 (x + Int32.ofInt 1).toNatClampNeg), .inl (mo_ev g.2.2.2.2 95 (x + Int32.ofInt 2).toNatClampNeg), .inl (mo_ev g.2.2.2.2 95 (x + Int32.ofInt 3).toNatClampNeg), .inl (mo_ev g.2.2.2.2 95 (x + Int32.ofInt 4).toNatClampNeg), .inl (mo_ev g.2.2.2.2 95 (x + Int32.ofInt 5).toNatClampNeg)] τ (fun r' υ => r = r' ∧ iv υ))) : mo_X g t_law Q 408 (lw_ls x) [] σ := by
  refine mo_goS ok_law6 (lw_cs_ok hS hS') [1184] 59 ?_
  intro K hK
  refine And.intro h1 ?_
  refine And.intro h2 ?_
  refine And.intro h3 ?_
  refine And.intro h4 ?_
  refine And.intro h5 ?_
  refine hS.2 _ _ _ _ (fun r τ hr => ?_) hi
  obtain ⟨⟨v, rfl⟩, hr⟩ := hr
  refine And.intro h1 ?_
  refine And.intro h2 ?_
  refine And.intro h3 ?_
  refine And.intro h4 ?_
  refine And.intro h5 ?_
  refine hS'.2 _ _ _ _ (fun r' υ hr2 => ?_) hr
  obtain ⟨rfl, hiv2⟩ := hr2
  refine And.intro (fun _ => ?_) (fun q => absurd rfl q)
  exact hK _ _ _ _ (hT υ hiv2)
theorem lw_c6 (g : mo_E) (Q : mo_Q) (x : Int32) (σ : mo_M) (h1 : vp_in (x + Int32.ofInt 1) (mo_en g.2.2.2.2 95)) (h2 : vp_in (x + Int32.ofInt 2) (mo_en g.2.2.2.2 95)) (h3 : vp_in (x + Int32.ofInt 3) (mo_en g.2.2.2.2 95)) (h4 : vp_in (x + Int32.ofInt 4) (mo_en g.2.2.2.2 95)) (h5 : vp_in (x + Int32.ofInt 5) (mo_en g.2.2.2.2 95)) (hT : ∀ υ, iv υ → mo_X g t_law Q 1184 (lw_ls x) [] υ) (hiv : iv σ) : mo_X g t_law Q 408 (lw_ls x) [] σ :=
  lw_g6 g Q x σ S_X11_hold S_X12_hold (cs_law6_ok g 0) (cs_law6_ok g 1) h1 h2 h3 h4 h5 hT (sh_X11_hold _ _ _ (iv_hold _ _ _ _ _ σ hiv))
set_option maxRecDepth 20000 in
set_option maxHeartbeats 2000000 in
theorem lw_g7 (g : mo_E) (Q : mo_Q) (x : Int32) (σ : mo_M) (S S' : mo_S) (hS : mo_cok g t_law (4, true, 45, 11, S) ∧ mo_mon (4, true, 45, 11, S)) (hS' : mo_cok g t_law (4, true, 49, 12, S') ∧ mo_mon (4, true, 49, 12, S')) (h1 : vp_in (x + Int32.ofInt 1) (mo_en g.2.2.2.2 95)) (h2 : vp_in (x + Int32.ofInt 2) (mo_en g.2.2.2.2 95)) (h3 : vp_in (x + Int32.ofInt 3) (mo_en g.2.2.2.2 95)) (hT : ∀ υ, iv υ → mo_X g t_law Q 1184 (lw_ls x) [] υ) (hi : S [.inr (.inr (0, 0)), .inl (mo_ev g.2.2.2.2 95 (x + Int32.ofInt 1).toNatClampNeg), .inl (mo_ev g.2.2.2.2 95 (x + Int32.ofInt 2).toNatClampNeg), .inl (mo_ev g.2.2.2.2 95 (x + Int32.ofInt 3).toNatClampNeg)] σ (fun r τ => (∃ v : Int32, r = some (.inl v)) ∧ S' [.inr (.inr (50, 0)), .inl (mo_ev g.2.2.2.2 95 (x + Int32.ofInt 1).toNatClampNeg), .inl (mo_ev g.2.2.2.2 95 (x + Int32.ofInt 2).toNatClampNeg), .inl (mo_ev g.2.2.2.2 95 (x + Int32.ofInt 3).toNatClampNeg)] τ (fun r' υ => r = r' ∧ iv υ))) : mo_X g t_law Q 471 (lw_ls x) [] σ := by
  refine mo_goS ok_law7 (lw_cs_ok hS hS') [1184] 39 ?_
  intro K hK
  refine And.intro h1 ?_
  refine And.intro h2 ?_
  refine And.intro h3 ?_
  refine hS.2 _ _ _ _ (fun r τ hr => ?_) hi
  obtain ⟨⟨v, rfl⟩, hr⟩ := hr
  refine And.intro h1 ?_
  refine And.intro h2 ?_
  refine And.intro h3 ?_
  refine hS'.2 _ _ _ _ (fun r' υ hr2 => ?_) hr
  obtain ⟨rfl, hiv2⟩ := hr2
  refine And.intro (fun _ => ?_) (fun q => absurd rfl q)
  exact hK _ _ _ _ (hT υ hiv2)
theorem lw_c7 (g : mo_E) (Q : mo_Q) (x : Int32) (σ : mo_M) (h1 : vp_in (x + Int32.ofInt 1) (mo_en g.2.2.2.2 95)) (h2 : vp_in (x + Int32.ofInt 2) (mo_en g.2.2.2.2 95)) (h3 : vp_in (x + Int32.ofInt 3) (mo_en g.2.2.2.2 95)) (hT : ∀ υ, iv υ → mo_X g t_law Q 1184 (lw_ls x) [] υ) (hiv : iv σ) : mo_X g t_law Q 471 (lw_ls x) [] σ :=
  lw_g7 g Q x σ S_X11_join S_X12_join (cs_law7_ok g 0) (cs_law7_ok g 1) h1 h2 h3 hT (sh_X11_join _ _ _ (iv_join _ _ _ σ hiv))
set_option maxRecDepth 20000 in
set_option maxHeartbeats 2000000 in
theorem lw_g8 (g : mo_E) (Q : mo_Q) (x : Int32) (σ : mo_M) (S S' : mo_S) (hS : mo_cok g t_law (2, true, 50, 11, S) ∧ mo_mon (2, true, 50, 11, S)) (hS' : mo_cok g t_law (2, true, 53, 12, S') ∧ mo_mon (2, true, 53, 12, S')) (h1 : vp_in (x + Int32.ofInt 1) (mo_en g.2.2.2.2 95)) (hT : ∀ υ, iv υ → mo_X g t_law Q 1184 (lw_ls x) [] υ) (hi : S [.inr (.inr (0, 0)), .inl (mo_ev g.2.2.2.2 95 (x + Int32.ofInt 1).toNatClampNeg)] σ (fun r τ => (∃ v : Int32, r = some (.inl v)) ∧ S' [.inr (.inr (50, 0)), .inl (mo_ev g.2.2.2.2 95 (x + Int32.ofInt 1).toNatClampNeg)] τ (fun r' υ => r = r' ∧ iv υ))) : mo_X g t_law Q 514 (lw_ls x) [] σ := by
  refine mo_goS ok_law8 (lw_cs_ok hS hS') [1184] 19 ?_
  intro K hK
  refine And.intro h1 ?_
  refine hS.2 _ _ _ _ (fun r τ hr => ?_) hi
  obtain ⟨⟨v, rfl⟩, hr⟩ := hr
  refine And.intro h1 ?_
  refine hS'.2 _ _ _ _ (fun r' υ hr2 => ?_) hr
  obtain ⟨rfl, hiv2⟩ := hr2
  refine And.intro (fun _ => ?_) (fun q => absurd rfl q)
  exact hK _ _ _ _ (hT υ hiv2)
theorem lw_c8 (g : mo_E) (Q : mo_Q) (x : Int32) (σ : mo_M) (h1 : vp_in (x + Int32.ofInt 1) (mo_en g.2.2.2.2 95)) (hT : ∀ υ, iv υ → mo_X g t_law Q 1184 (lw_ls x) [] υ) (hiv : iv σ) : mo_X g t_law Q 514 (lw_ls x) [] σ :=
  lw_g8 g Q x σ S_X11_undo S_X12_undo (cs_law8_ok g 0) (cs_law8_ok g 1) h1 hT (sh_X11_undo _ _ _ (iv_undo _ σ hiv))
set_option maxRecDepth 20000 in
set_option maxHeartbeats 2000000 in
theorem lw_g9 (g : mo_E) (Q : mo_Q) (x : Int32) (σ : mo_M) (S S' : mo_S) (hS : mo_cok g t_law (4, true, 54, 11, S) ∧ mo_mon (4, true, 54, 11, S)) (hS' : mo_cok g t_law (4, true, 57, 12, S') ∧ mo_mon (4, true, 57, 12, S')) (h1 : vp_in (x + Int32.ofInt 1) (mo_en g.2.2.2.2 95)) (h2 : vp_in (x + Int32.ofInt 2) (mo_en g.2.2.2.2 95)) (h3 : vp_in (x + Int32.ofInt 3) (mo_en g.2.2.2.2 95)) (hT : ∀ υ, iv υ → mo_X g t_law Q 1184 (lw_ls x) [] υ) (hi : S [.inr (.inr (0, 0)), .inl (mo_ev g.2.2.2.2 95 (x + Int32.ofInt 1).toNatClampNeg), .inl (mo_ev g.2.2.2.2 95 (x + Int32.ofInt 2).toNatClampNeg), .inl (mo_ev g.2.2.2.2 95 (x + Int32.ofInt 3).toNatClampNeg)] σ (fun r τ => (∃ v : Int32, r = some (.inl v)) ∧ S' [.inr (.inr (50, 0)), .inl (mo_ev g.2.2.2.2 95 (x + Int32.ofInt 1).toNatClampNeg), .inl (mo_ev g.2.2.2.2 95 (x + Int32.ofInt 2).toNatClampNeg), .inl (mo_ev g.2.2.2.2 95 (x + Int32.ofInt 3).toNatClampNeg)] τ (fun r' υ => r = r' ∧ iv υ))) : mo_X g t_law Q 537 (lw_ls x) [] σ := by
  refine mo_goS ok_law9 (lw_cs_ok hS hS') [1184] 39 ?_
  intro K hK
  refine And.intro h1 ?_
  refine And.intro h2 ?_
  refine And.intro h3 ?_
  refine hS.2 _ _ _ _ (fun r τ hr => ?_) hi
  obtain ⟨⟨v, rfl⟩, hr⟩ := hr
  refine And.intro h1 ?_
  refine And.intro h2 ?_
  refine And.intro h3 ?_
  refine hS'.2 _ _ _ _ (fun r' υ hr2 => ?_) hr
  obtain ⟨rfl, hiv2⟩ := hr2
  refine And.intro (fun _ => ?_) (fun q => absurd rfl q)
  exact hK _ _ _ _ (hT υ hiv2)
theorem lw_c9 (g : mo_E) (Q : mo_Q) (x : Int32) (σ : mo_M) (h1 : vp_in (x + Int32.ofInt 1) (mo_en g.2.2.2.2 95)) (h2 : vp_in (x + Int32.ofInt 2) (mo_en g.2.2.2.2 95)) (h3 : vp_in (x + Int32.ofInt 3) (mo_en g.2.2.2.2 95)) (hT : ∀ υ, iv υ → mo_X g t_law Q 1184 (lw_ls x) [] υ) (hiv : iv σ) : mo_X g t_law Q 537 (lw_ls x) [] σ :=
  lw_g9 g Q x σ S_X11_unlike S_X12_unlike (cs_law9_ok g 0) (cs_law9_ok g 1) h1 h2 h3 hT (sh_X11_unlike _ _ _ (iv_unlike _ _ _ σ hiv))
set_option maxRecDepth 20000 in
set_option maxHeartbeats 2000000 in
theorem lw_g10 (g : mo_E) (Q : mo_Q) (x : Int32) (σ : mo_M) (S S' : mo_S) (hS : mo_cok g t_law (3, true, 58, 11, S) ∧ mo_mon (3, true, 58, 11, S)) (hS' : mo_cok g t_law (3, true, 61, 12, S') ∧ mo_mon (3, true, 61, 12, S')) (h1 : vp_in (x + Int32.ofInt 1) (mo_en g.2.2.2.2 95)) (h2 : vp_in (x + Int32.ofInt 2) (mo_en g.2.2.2.2 95)) (hT : ∀ υ, iv υ → mo_X g t_law Q 1184 (lw_ls x) [] υ) (hi : S [.inr (.inr (0, 0)), .inl (mo_ev g.2.2.2.2 95 (x + Int32.ofInt 1).toNatClampNeg), .inl (mo_ev g.2.2.2.2 95 (x + Int32.ofInt 2).toNatClampNeg)] σ (fun r τ => (∃ v : Int32, r = some (.inl v)) ∧ S' [.inr (.inr (50, 0)), .inl (mo_ev g.2.2.2.2 95 (x + Int32.ofInt 1).toNatClampNeg), .inl (mo_ev g.2.2.2.2 95 (x + Int32.ofInt 2).toNatClampNeg)] τ (fun r' υ => r = r' ∧ iv υ))) : mo_X g t_law Q 580 (lw_ls x) [] σ := by
  refine mo_goS ok_law10 (lw_cs_ok hS hS') [1184] 29 ?_
  intro K hK
  refine And.intro h1 ?_
  refine And.intro h2 ?_
  refine hS.2 _ _ _ _ (fun r τ hr => ?_) hi
  obtain ⟨⟨v, rfl⟩, hr⟩ := hr
  refine And.intro h1 ?_
  refine And.intro h2 ?_
  refine hS'.2 _ _ _ _ (fun r' υ hr2 => ?_) hr
  obtain ⟨rfl, hiv2⟩ := hr2
  refine And.intro (fun _ => ?_) (fun q => absurd rfl q)
  exact hK _ _ _ _ (hT υ hiv2)
theorem lw_c10 (g : mo_E) (Q : mo_Q) (x : Int32) (σ : mo_M) (h1 : vp_in (x + Int32.ofInt 1) (mo_en g.2.2.2.2 95)) (h2 : vp_in (x + Int32.ofInt 2) (mo_en g.2.2.2.2 95)) (hT : ∀ υ, iv υ → mo_X g t_law Q 1184 (lw_ls x) [] υ) (hiv : iv σ) : mo_X g t_law Q 580 (lw_ls x) [] σ :=
  lw_g10 g Q x σ S_X11_group S_X12_group (cs_law10_ok g 0) (cs_law10_ok g 1) h1 h2 hT (sh_X11_group _ _ _ (iv_group _ _ σ hiv))
set_option maxRecDepth 20000 in
set_option maxHeartbeats 2000000 in
theorem lw_g11 (g : mo_E) (Q : mo_Q) (x : Int32) (σ : mo_M) (S S' : mo_S) (hS : mo_cok g t_law (2, true, 62, 11, S) ∧ mo_mon (2, true, 62, 11, S)) (hS' : mo_cok g t_law (2, true, 65, 12, S') ∧ mo_mon (2, true, 65, 12, S')) (h1 : vp_in (x + Int32.ofInt 1) (mo_en g.2.2.2.2 95)) (hT : ∀ υ, iv υ → mo_X g t_law Q 1184 (lw_ls x) [] υ) (hi : S [.inr (.inr (0, 0)), .inl (mo_ev g.2.2.2.2 95 (x + Int32.ofInt 1).toNatClampNeg)] σ (fun r τ => (∃ v : Int32, r = some (.inl v)) ∧ S' [.inr (.inr (50, 0)), .inl (mo_ev g.2.2.2.2 95 (x + Int32.ofInt 1).toNatClampNeg)] τ (fun r' υ => r = r' ∧ iv υ))) : mo_X g t_law Q 613 (lw_ls x) [] σ := by
  refine mo_goS ok_law11 (lw_cs_ok hS hS') [1184] 19 ?_
  intro K hK
  refine And.intro h1 ?_
  refine hS.2 _ _ _ _ (fun r τ hr => ?_) hi
  obtain ⟨⟨v, rfl⟩, hr⟩ := hr
  refine And.intro h1 ?_
  refine hS'.2 _ _ _ _ (fun r' υ hr2 => ?_) hr
  obtain ⟨rfl, hiv2⟩ := hr2
  refine And.intro (fun _ => ?_) (fun q => absurd rfl q)
  exact hK _ _ _ _ (hT υ hiv2)
theorem lw_c11 (g : mo_E) (Q : mo_Q) (x : Int32) (σ : mo_M) (h1 : vp_in (x + Int32.ofInt 1) (mo_en g.2.2.2.2 95)) (hT : ∀ υ, iv υ → mo_X g t_law Q 1184 (lw_ls x) [] υ) (hiv : iv σ) : mo_X g t_law Q 613 (lw_ls x) [] σ :=
  lw_g11 g Q x σ S_X11_quarrels S_X12_quarrels (cs_law11_ok g 0) (cs_law11_ok g 1) h1 hT (sh_X11_quarrels _ _ _ (iv_quarrels _ σ hiv))
set_option maxRecDepth 20000 in
set_option maxHeartbeats 2000000 in
theorem lw_g12 (g : mo_E) (Q : mo_Q) (x : Int32) (σ : mo_M) (S S' : mo_S) (hS : mo_cok g t_law (6, true, 66, 11, S) ∧ mo_mon (6, true, 66, 11, S)) (hS' : mo_cok g t_law (6, true, 69, 12, S') ∧ mo_mon (6, true, 69, 12, S')) (h1 : vp_in (x + Int32.ofInt 1) (mo_en g.2.2.2.2 95)) (h2 : vp_in (x + Int32.ofInt 2) (mo_en g.2.2.2.2 95)) (h3 : vp_in (x + Int32.ofInt 3) (mo_en g.2.2.2.2 95)) (h4 : vp_in (x + Int32.ofInt 4) (mo_en g.2.2.2.2 95)) (h5 : vp_in (x + Int32.ofInt 5) (mo_en g.2.2.2.2 95)) (hT : ∀ υ, iv υ → mo_X g t_law Q 1184 (lw_ls x) [] υ) (hi : S [.inr (.inr (0, 0)), .inl (mo_ev g.2.2.2.2 95 (x + Int32.ofInt 1).toNatClampNeg), .inl (mo_ev g.2.2.2.2 95 (x + Int32.ofInt 2).toNatClampNeg), .inl (mo_ev g.2.2.2.2 95 (x + Int32.ofInt 3).toNatClampNeg), .inl (mo_ev g.2.2.2.2 95 (x + Int32.ofInt 4).toNatClampNeg), .inl (mo_ev g.2.2.2.2 95 (x + Int32.ofInt 5).toNatClampNeg)] σ (fun r τ => (∃ v : Int32, r = some (.inl v)) ∧ S' [.inr (.inr (50, 0)), .inl (mo_ev g.2.2.2.2 95 (x + Int32.ofInt 1).toNatClampNeg), .inl (mo_ev g.2.2.2.2 95 (x + Int32.ofInt 2).toNatClampNeg), .inl (mo_ev g.2.2.2.2 95 (x + Int32.ofInt 3).toNatClampNeg), .inl (mo_ev g.2.2.2.2 95 (x + Int32.ofInt 4).toNatClampNeg), .inl (mo_ev g.2.2.2.2 95 (x + Int32.ofInt 5).toNatClampNeg)] τ (fun r' υ => r = r' ∧ iv υ))) : mo_X g t_law Q 636 (lw_ls x) [] σ := by
  refine mo_goS ok_law12 (lw_cs_ok hS hS') [1184] 59 ?_
  intro K hK
  refine And.intro h1 ?_
  refine And.intro h2 ?_
  refine And.intro h3 ?_
  refine And.intro h4 ?_
  refine And.intro h5 ?_
  refine hS.2 _ _ _ _ (fun r τ hr => ?_) hi
  obtain ⟨⟨v, rfl⟩, hr⟩ := hr
  refine And.intro h1 ?_
  refine And.intro h2 ?_
  refine And.intro h3 ?_
  refine And.intro h4 ?_
  refine And.intro h5 ?_
  refine hS'.2 _ _ _ _ (fun r' υ hr2 => ?_) hr
  obtain ⟨rfl, hiv2⟩ := hr2
  refine And.intro (fun _ => ?_) (fun q => absurd rfl q)
  exact hK _ _ _ _ (hT υ hiv2)
theorem lw_c12 (g : mo_E) (Q : mo_Q) (x : Int32) (σ : mo_M) (h1 : vp_in (x + Int32.ofInt 1) (mo_en g.2.2.2.2 95)) (h2 : vp_in (x + Int32.ofInt 2) (mo_en g.2.2.2.2 95)) (h3 : vp_in (x + Int32.ofInt 3) (mo_en g.2.2.2.2 95)) (h4 : vp_in (x + Int32.ofInt 4) (mo_en g.2.2.2.2 95)) (h5 : vp_in (x + Int32.ofInt 5) (mo_en g.2.2.2.2 95)) (hT : ∀ υ, iv υ → mo_X g t_law Q 1184 (lw_ls x) [] υ) (hiv : iv σ) : mo_X g t_law Q 636 (lw_ls x) [] σ :=
  lw_g12 g Q x σ S_X11_feed S_X12_feed (cs_law12_ok g 0) (cs_law12_ok g 1) h1 h2 h3 h4 h5 hT (sh_X11_feed _ _ _ (iv_feed _ _ _ _ _ σ hiv))
set_option maxRecDepth 20000 in
set_option maxHeartbeats 2000000 in
theorem lw_g13 (g : mo_E) (Q : mo_Q) (x : Int32) (σ : mo_M) (S S' : mo_S) (hS : mo_cok g t_law (2, true, 70, 11, S) ∧ mo_mon (2, true, 70, 11, S)) (hS' : mo_cok g t_law (2, true, 73, 12, S') ∧ mo_mon (2, true, 73, 12, S')) (h1 : vp_in (x + Int32.ofInt 1) (mo_en g.2.2.2.2 95)) (hT : ∀ υ, iv υ → mo_X g t_law Q 1184 (lw_ls x) [] υ) (hi : S [.inr (.inr (0, 0)), .inl (mo_ev g.2.2.2.2 95 (x + Int32.ofInt 1).toNatClampNeg)] σ (fun r τ => (∃ v : Int32, r = some (.inl v)) ∧ S' [.inr (.inr (50, 0)), .inl (mo_ev g.2.2.2.2 95 (x + Int32.ofInt 1).toNatClampNeg)] τ (fun r' υ => r = r' ∧ iv υ))) : mo_X g t_law Q 699 (lw_ls x) [] σ := by
  refine mo_goS ok_law13 (lw_cs_ok hS hS') [1184] 19 ?_
  intro K hK
  refine And.intro h1 ?_
  refine hS.2 _ _ _ _ (fun r τ hr => ?_) hi
  obtain ⟨⟨v, rfl⟩, hr⟩ := hr
  refine And.intro h1 ?_
  refine hS'.2 _ _ _ _ (fun r' υ hr2 => ?_) hr
  obtain ⟨rfl, hiv2⟩ := hr2
  refine And.intro (fun _ => ?_) (fun q => absurd rfl q)
  exact hK _ _ _ _ (hT υ hiv2)
theorem lw_c13 (g : mo_E) (Q : mo_Q) (x : Int32) (σ : mo_M) (h1 : vp_in (x + Int32.ofInt 1) (mo_en g.2.2.2.2 95)) (hT : ∀ υ, iv υ → mo_X g t_law Q 1184 (lw_ls x) [] υ) (hiv : iv σ) : mo_X g t_law Q 699 (lw_ls x) [] σ :=
  lw_g13 g Q x σ S_X11_end S_X12_end (cs_law13_ok g 0) (cs_law13_ok g 1) h1 hT (sh_X11_end _ _ _ (iv_end _ σ hiv))
set_option maxRecDepth 20000 in
set_option maxHeartbeats 2000000 in
theorem lw_g14 (g : mo_E) (Q : mo_Q) (x : Int32) (σ : mo_M) (S S' : mo_S) (hS : mo_cok g t_law (1, true, 74, 11, S) ∧ mo_mon (1, true, 74, 11, S)) (hS' : mo_cok g t_law (1, true, 78, 12, S') ∧ mo_mon (1, true, 78, 12, S')) (hT : ∀ υ, iv υ → mo_X g t_law Q 1184 (lw_ls x) [] υ) (hi : S [.inr (.inr (0, 0))] σ (fun r τ => (∃ v : Int32, r = some (.inl v)) ∧ S' [.inr (.inr (50, 0))] τ (fun r' υ => r = r' ∧ iv υ))) : mo_X g t_law Q 722 (lw_ls x) [] σ := by
  refine mo_goS ok_law14 (lw_cs_ok hS hS') [1184] 9 ?_
  intro K hK
  refine hS.2 _ _ _ _ (fun r τ hr => ?_) hi
  obtain ⟨⟨v, rfl⟩, hr⟩ := hr
  refine hS'.2 _ _ _ _ (fun r' υ hr2 => ?_) hr
  obtain ⟨rfl, hiv2⟩ := hr2
  refine And.intro (fun _ => ?_) (fun q => absurd rfl q)
  exact hK _ _ _ _ (hT υ hiv2)
theorem lw_c14 (g : mo_E) (Q : mo_Q) (x : Int32) (σ : mo_M) (hT : ∀ υ, iv υ → mo_X g t_law Q 1184 (lw_ls x) [] υ) (hiv : iv σ) : mo_X g t_law Q 722 (lw_ls x) [] σ :=
  lw_g14 g Q x σ S_X11_warning S_X12_warning (cs_law14_ok g 0) (cs_law14_ok g 1) hT (sh_X11_warning _ _ _ (iv_warning σ hiv))
set_option maxRecDepth 20000 in
set_option maxHeartbeats 2000000 in
theorem lw_g15 (g : mo_E) (Q : mo_Q) (x : Int32) (σ : mo_M) (S S' : mo_S) (hS : mo_cok g t_law (1, true, 79, 11, S) ∧ mo_mon (1, true, 79, 11, S)) (hS' : mo_cok g t_law (1, true, 82, 12, S') ∧ mo_mon (1, true, 82, 12, S')) (hT : ∀ υ, iv υ → mo_X g t_law Q 1184 (lw_ls x) [] υ) (hi : S [.inr (.inr (0, 0))] σ (fun r τ => (∃ v : Int32, r = some (.inl v)) ∧ S' [.inr (.inr (50, 0))] τ (fun r' υ => r = r' ∧ iv υ))) : mo_X g t_law Q 735 (lw_ls x) [] σ := by
  refine mo_goS ok_law15 (lw_cs_ok hS hS') [1184] 9 ?_
  intro K hK
  refine hS.2 _ _ _ _ (fun r τ hr => ?_) hi
  obtain ⟨⟨v, rfl⟩, hr⟩ := hr
  refine hS'.2 _ _ _ _ (fun r' υ hr2 => ?_) hr
  obtain ⟨rfl, hiv2⟩ := hr2
  refine And.intro (fun _ => ?_) (fun q => absurd rfl q)
  exact hK _ _ _ _ (hT υ hiv2)
theorem lw_c15 (g : mo_E) (Q : mo_Q) (x : Int32) (σ : mo_M) (hT : ∀ υ, iv υ → mo_X g t_law Q 1184 (lw_ls x) [] υ) (hiv : iv σ) : mo_X g t_law Q 735 (lw_ls x) [] σ :=
  lw_g15 g Q x σ S_X11_fault S_X12_fault (cs_law15_ok g 0) (cs_law15_ok g 1) hT (sh_X11_fault _ _ _ (iv_fault σ hiv))
set_option maxRecDepth 20000 in
set_option maxHeartbeats 2000000 in
theorem lw_g16 (g : mo_E) (Q : mo_Q) (x : Int32) (σ : mo_M) (S S' : mo_S) (hS : mo_cok g t_law (4, true, 83, 11, S) ∧ mo_mon (4, true, 83, 11, S)) (hS' : mo_cok g t_law (4, true, 86, 12, S') ∧ mo_mon (4, true, 86, 12, S')) (h1 : vp_in (x + Int32.ofInt 1) (mo_en g.2.2.2.2 95)) (h2 : vp_in (x + Int32.ofInt 2) (mo_en g.2.2.2.2 95)) (h3 : vp_in (x + Int32.ofInt 3) (mo_en g.2.2.2.2 95)) (hT : ∀ υ, iv υ → mo_X g t_law Q 1184 (lw_ls x) [] υ) (hi : S [.inr (.inr (0, 0)), .inl (mo_ev g.2.2.2.2 95 (x + Int32.ofInt 1).toNatClampNeg), .inl (mo_ev g.2.2.2.2 95 (x + Int32.ofInt 2).toNatClampNeg), .inl (mo_ev g.2.2.2.2 95 (x + Int32.ofInt 3).toNatClampNeg)] σ (fun r τ => (∃ v : Int32, r = some (.inl v)) ∧ S' [.inr (.inr (50, 0)), .inl (mo_ev g.2.2.2.2 95 (x + Int32.ofInt 1).toNatClampNeg), .inl (mo_ev g.2.2.2.2 95 (x + Int32.ofInt 2).toNatClampNeg), .inl (mo_ev g.2.2.2.2 95 (x + Int32.ofInt 3).toNatClampNeg)] τ (fun r' υ => r = r' ∧ iv υ))) : mo_X g t_law Q 748 (lw_ls x) [] σ := by
  refine mo_goS ok_law16 (lw_cs_ok hS hS') [1184] 39 ?_
  intro K hK
  refine And.intro h1 ?_
  refine And.intro h2 ?_
  refine And.intro h3 ?_
  refine hS.2 _ _ _ _ (fun r τ hr => ?_) hi
  obtain ⟨⟨v, rfl⟩, hr⟩ := hr
  refine And.intro h1 ?_
  refine And.intro h2 ?_
  refine And.intro h3 ?_
  refine hS'.2 _ _ _ _ (fun r' υ hr2 => ?_) hr
  obtain ⟨rfl, hiv2⟩ := hr2
  refine And.intro (fun _ => ?_) (fun q => absurd rfl q)
  exact hK _ _ _ _ (hT υ hiv2)
theorem lw_c16 (g : mo_E) (Q : mo_Q) (x : Int32) (σ : mo_M) (h1 : vp_in (x + Int32.ofInt 1) (mo_en g.2.2.2.2 95)) (h2 : vp_in (x + Int32.ofInt 2) (mo_en g.2.2.2.2 95)) (h3 : vp_in (x + Int32.ofInt 3) (mo_en g.2.2.2.2 95)) (hT : ∀ υ, iv υ → mo_X g t_law Q 1184 (lw_ls x) [] υ) (hiv : iv σ) : mo_X g t_law Q 748 (lw_ls x) [] σ :=
  lw_g16 g Q x σ S_X11_bad S_X12_bad (cs_law16_ok g 0) (cs_law16_ok g 1) h1 h2 h3 hT (sh_X11_bad _ _ _ (iv_bad _ _ _ σ hiv))
set_option maxRecDepth 20000 in
set_option maxHeartbeats 2000000 in
theorem lw_g17 (g : mo_E) (Q : mo_Q) (x : Int32) (σ : mo_M) (S S' : mo_S) (hS : mo_cok g t_law (4, true, 87, 11, S) ∧ mo_mon (4, true, 87, 11, S)) (hS' : mo_cok g t_law (4, true, 90, 12, S') ∧ mo_mon (4, true, 90, 12, S')) (h1 : vp_in (x + Int32.ofInt 1) (mo_en g.2.2.2.2 95)) (h2 : vp_in (x + Int32.ofInt 2) (mo_en g.2.2.2.2 95)) (h3 : vp_in (x + Int32.ofInt 3) (mo_en g.2.2.2.2 95)) (hT : ∀ υ, iv υ → mo_X g t_law Q 1184 (lw_ls x) [] υ) (hi : S [.inr (.inr (0, 0)), .inl (mo_ev g.2.2.2.2 95 (x + Int32.ofInt 1).toNatClampNeg), .inl (mo_ev g.2.2.2.2 95 (x + Int32.ofInt 2).toNatClampNeg), .inl (mo_ev g.2.2.2.2 95 (x + Int32.ofInt 3).toNatClampNeg)] σ (fun r τ => (∃ v : Int32, r = some (.inl v)) ∧ S' [.inr (.inr (50, 0)), .inl (mo_ev g.2.2.2.2 95 (x + Int32.ofInt 1).toNatClampNeg), .inl (mo_ev g.2.2.2.2 95 (x + Int32.ofInt 2).toNatClampNeg), .inl (mo_ev g.2.2.2.2 95 (x + Int32.ofInt 3).toNatClampNeg)] τ (fun r' υ => r = r' ∧ iv υ))) : mo_X g t_law Q 791 (lw_ls x) [] σ := by
  refine mo_goS ok_law17 (lw_cs_ok hS hS') [1184] 39 ?_
  intro K hK
  refine And.intro h1 ?_
  refine And.intro h2 ?_
  refine And.intro h3 ?_
  refine hS.2 _ _ _ _ (fun r τ hr => ?_) hi
  obtain ⟨⟨v, rfl⟩, hr⟩ := hr
  refine And.intro h1 ?_
  refine And.intro h2 ?_
  refine And.intro h3 ?_
  refine hS'.2 _ _ _ _ (fun r' υ hr2 => ?_) hr
  obtain ⟨rfl, hiv2⟩ := hr2
  refine And.intro (fun _ => ?_) (fun q => absurd rfl q)
  exact hK _ _ _ _ (hT υ hiv2)
theorem lw_c17 (g : mo_E) (Q : mo_Q) (x : Int32) (σ : mo_M) (h1 : vp_in (x + Int32.ofInt 1) (mo_en g.2.2.2.2 95)) (h2 : vp_in (x + Int32.ofInt 2) (mo_en g.2.2.2.2 95)) (h3 : vp_in (x + Int32.ofInt 3) (mo_en g.2.2.2.2 95)) (hT : ∀ υ, iv υ → mo_X g t_law Q 1184 (lw_ls x) [] υ) (hiv : iv σ) : mo_X g t_law Q 791 (lw_ls x) [] σ :=
  lw_g17 g Q x σ S_X11_hit S_X12_hit (cs_law17_ok g 0) (cs_law17_ok g 1) h1 h2 h3 hT (sh_X11_hit _ _ _ (iv_hit _ _ _ σ hiv))
set_option maxRecDepth 20000 in
set_option maxHeartbeats 2000000 in
theorem lw_g18 (g : mo_E) (Q : mo_Q) (x : Int32) (σ : mo_M) (S S' : mo_S) (hS : mo_cok g t_law (5, true, 91, 11, S) ∧ mo_mon (5, true, 91, 11, S)) (hS' : mo_cok g t_law (5, true, 94, 12, S') ∧ mo_mon (5, true, 94, 12, S')) (h1 : vp_in (x + Int32.ofInt 1) (mo_en g.2.2.2.2 95)) (h2 : vp_in (x + Int32.ofInt 2) (mo_en g.2.2.2.2 95)) (h3 : vp_in (x + Int32.ofInt 3) (mo_en g.2.2.2.2 95)) (h4 : vp_in (x + Int32.ofInt 4) (mo_en g.2.2.2.2 95)) (hT : ∀ υ, iv υ → mo_X g t_law Q 1184 (lw_ls x) [] υ) (hi : S [.inr (.inr (0, 0)), .inl (mo_ev g.2.2.2.2 95 (x + Int32.ofInt 1).toNatClampNeg), .inl (mo_ev g.2.2.2.2 95 (x + Int32.ofInt 2).toNatClampNeg), .inl (mo_ev g.2.2.2.2 95 (x + Int32.ofInt 3).toNatClampNeg), .inl (mo_ev g.2.2.2.2 95 (x + Int32.ofInt 4).toNatClampNeg)] σ (fun r τ => (∃ v : Int32, r = some (.inl v)) ∧ S' [.inr (.inr (50, 0)), .inl (mo_ev g.2.2.2.2 95 (x + Int32.ofInt 1).toNatClampNeg), .inl (mo_ev g.2.2.2.2 95 (x + Int32.ofInt 2).toNatClampNeg), .inl (mo_ev g.2.2.2.2 95 (x + Int32.ofInt 3).toNatClampNeg), .inl (mo_ev g.2.2.2.2 95 (x + Int32.ofInt 4).toNatClampNeg)] τ (fun r' υ => r = r' ∧ iv υ))) : mo_X g t_law Q 834 (lw_ls x) [] σ := by
  refine mo_goS ok_law18 (lw_cs_ok hS hS') [1184] 49 ?_
  intro K hK
  refine And.intro h1 ?_
  refine And.intro h2 ?_
  refine And.intro h3 ?_
  refine And.intro h4 ?_
  refine hS.2 _ _ _ _ (fun r τ hr => ?_) hi
  obtain ⟨⟨v, rfl⟩, hr⟩ := hr
  refine And.intro h1 ?_
  refine And.intro h2 ?_
  refine And.intro h3 ?_
  refine And.intro h4 ?_
  refine hS'.2 _ _ _ _ (fun r' υ hr2 => ?_) hr
  obtain ⟨rfl, hiv2⟩ := hr2
  refine And.intro (fun _ => ?_) (fun q => absurd rfl q)
  exact hK _ _ _ _ (hT υ hiv2)
theorem lw_c18 (g : mo_E) (Q : mo_Q) (x : Int32) (σ : mo_M) (h1 : vp_in (x + Int32.ofInt 1) (mo_en g.2.2.2.2 95)) (h2 : vp_in (x + Int32.ofInt 2) (mo_en g.2.2.2.2 95)) (h3 : vp_in (x + Int32.ofInt 3) (mo_en g.2.2.2.2 95)) (h4 : vp_in (x + Int32.ofInt 4) (mo_en g.2.2.2.2 95)) (hT : ∀ υ, iv υ → mo_X g t_law Q 1184 (lw_ls x) [] υ) (hiv : iv σ) : mo_X g t_law Q 834 (lw_ls x) [] σ :=
  lw_g18 g Q x σ S_X11_way S_X12_way (cs_law18_ok g 0) (cs_law18_ok g 1) h1 h2 h3 h4 hT (sh_X11_way _ _ _ (iv_way _ _ _ _ σ hiv))
set_option maxRecDepth 20000 in
set_option maxHeartbeats 2000000 in
theorem lw_g19 (g : mo_E) (Q : mo_Q) (x : Int32) (σ : mo_M) (S S' : mo_S) (hS : mo_cok g t_law (5, true, 95, 11, S) ∧ mo_mon (5, true, 95, 11, S)) (hS' : mo_cok g t_law (5, true, 98, 12, S') ∧ mo_mon (5, true, 98, 12, S')) (h1 : vp_in (x + Int32.ofInt 1) (mo_en g.2.2.2.2 95)) (h2 : vp_in (x + Int32.ofInt 2) (mo_en g.2.2.2.2 95)) (h3 : vp_in (x + Int32.ofInt 3) (mo_en g.2.2.2.2 95)) (h4 : vp_in (x + Int32.ofInt 4) (mo_en g.2.2.2.2 95)) (hT : ∀ υ, iv υ → mo_X g t_law Q 1184 (lw_ls x) [] υ) (hi : S [.inr (.inr (0, 0)), .inl (mo_ev g.2.2.2.2 95 (x + Int32.ofInt 1).toNatClampNeg), .inl (mo_ev g.2.2.2.2 95 (x + Int32.ofInt 2).toNatClampNeg), .inl (mo_ev g.2.2.2.2 95 (x + Int32.ofInt 3).toNatClampNeg), .inl (mo_ev g.2.2.2.2 95 (x + Int32.ofInt 4).toNatClampNeg)] σ (fun r τ => (∃ v : Int32, r = some (.inl v)) ∧ S' [.inr (.inr (50, 0)), .inl (mo_ev g.2.2.2.2 95 (x + Int32.ofInt 1).toNatClampNeg), .inl (mo_ev g.2.2.2.2 95 (x + Int32.ofInt 2).toNatClampNeg), .inl (mo_ev g.2.2.2.2 95 (x + Int32.ofInt 3).toNatClampNeg), .inl (mo_ev g.2.2.2.2 95 (x + Int32.ofInt 4).toNatClampNeg)] τ (fun r' υ => r = r' ∧ iv υ))) : mo_X g t_law Q 887 (lw_ls x) [] σ := by
  refine mo_goS ok_law19 (lw_cs_ok hS hS') [1184] 49 ?_
  intro K hK
  refine And.intro h1 ?_
  refine And.intro h2 ?_
  refine And.intro h3 ?_
  refine And.intro h4 ?_
  refine hS.2 _ _ _ _ (fun r τ hr => ?_) hi
  obtain ⟨⟨v, rfl⟩, hr⟩ := hr
  refine And.intro h1 ?_
  refine And.intro h2 ?_
  refine And.intro h3 ?_
  refine And.intro h4 ?_
  refine hS'.2 _ _ _ _ (fun r' υ hr2 => ?_) hr
  obtain ⟨rfl, hiv2⟩ := hr2
  refine And.intro (fun _ => ?_) (fun q => absurd rfl q)
  exact hK _ _ _ _ (hT υ hiv2)
theorem lw_c19 (g : mo_E) (Q : mo_Q) (x : Int32) (σ : mo_M) (h1 : vp_in (x + Int32.ofInt 1) (mo_en g.2.2.2.2 95)) (h2 : vp_in (x + Int32.ofInt 2) (mo_en g.2.2.2.2 95)) (h3 : vp_in (x + Int32.ofInt 3) (mo_en g.2.2.2.2 95)) (h4 : vp_in (x + Int32.ofInt 4) (mo_en g.2.2.2.2 95)) (hT : ∀ υ, iv υ → mo_X g t_law Q 1184 (lw_ls x) [] υ) (hiv : iv σ) : mo_X g t_law Q 887 (lw_ls x) [] σ :=
  lw_g19 g Q x σ S_X11_has S_X12_has (cs_law19_ok g 0) (cs_law19_ok g 1) h1 h2 h3 h4 hT (sh_X11_has _ _ _ (iv_has _ _ _ _ σ hiv))
set_option maxRecDepth 20000 in
set_option maxHeartbeats 2000000 in
theorem lw_g20 (g : mo_E) (Q : mo_Q) (x : Int32) (σ : mo_M) (S S' : mo_S) (hS : mo_cok g t_law (4, true, 99, 11, S) ∧ mo_mon (4, true, 99, 11, S)) (hS' : mo_cok g t_law (4, true, 102, 12, S') ∧ mo_mon (4, true, 102, 12, S')) (h1 : vp_in (x + Int32.ofInt 1) (mo_en g.2.2.2.2 95)) (h2 : vp_in (x + Int32.ofInt 2) (mo_en g.2.2.2.2 95)) (h3 : vp_in (x + Int32.ofInt 3) (mo_en g.2.2.2.2 95)) (hT : ∀ υ, iv υ → mo_X g t_law Q 1184 (lw_ls x) [] υ) (hi : S [.inr (.inr (0, 0)), .inl (mo_ev g.2.2.2.2 95 (x + Int32.ofInt 1).toNatClampNeg), .inl (mo_ev g.2.2.2.2 95 (x + Int32.ofInt 2).toNatClampNeg), .inl (mo_ev g.2.2.2.2 95 (x + Int32.ofInt 3).toNatClampNeg)] σ (fun r τ => (∃ v : Int32, r = some (.inl v)) ∧ S' [.inr (.inr (50, 0)), .inl (mo_ev g.2.2.2.2 95 (x + Int32.ofInt 1).toNatClampNeg), .inl (mo_ev g.2.2.2.2 95 (x + Int32.ofInt 2).toNatClampNeg), .inl (mo_ev g.2.2.2.2 95 (x + Int32.ofInt 3).toNatClampNeg)] τ (fun r' υ => r = r' ∧ iv υ))) : mo_X g t_law Q 940 (lw_ls x) [] σ := by
  refine mo_goS ok_law20 (lw_cs_ok hS hS') [1184] 39 ?_
  intro K hK
  refine And.intro h1 ?_
  refine And.intro h2 ?_
  refine And.intro h3 ?_
  refine hS.2 _ _ _ _ (fun r τ hr => ?_) hi
  obtain ⟨⟨v, rfl⟩, hr⟩ := hr
  refine And.intro h1 ?_
  refine And.intro h2 ?_
  refine And.intro h3 ?_
  refine hS'.2 _ _ _ _ (fun r' υ hr2 => ?_) hr
  obtain ⟨rfl, hiv2⟩ := hr2
  refine And.intro (fun _ => ?_) (fun q => absurd rfl q)
  exact hK _ _ _ _ (hT υ hiv2)
theorem lw_c20 (g : mo_E) (Q : mo_Q) (x : Int32) (σ : mo_M) (h1 : vp_in (x + Int32.ofInt 1) (mo_en g.2.2.2.2 95)) (h2 : vp_in (x + Int32.ofInt 2) (mo_en g.2.2.2.2 95)) (h3 : vp_in (x + Int32.ofInt 3) (mo_en g.2.2.2.2 95)) (hT : ∀ υ, iv υ → mo_X g t_law Q 1184 (lw_ls x) [] υ) (hiv : iv σ) : mo_X g t_law Q 940 (lw_ls x) [] σ :=
  lw_g20 g Q x σ S_X11_since S_X12_since (cs_law20_ok g 0) (cs_law20_ok g 1) h1 h2 h3 hT (sh_X11_since _ _ _ (iv_since _ _ _ σ hiv))
set_option maxRecDepth 20000 in
set_option maxHeartbeats 2000000 in
theorem lw_g21 (g : mo_E) (Q : mo_Q) (x : Int32) (σ : mo_M) (S S' : mo_S) (hS : mo_cok g t_law (4, true, 103, 11, S) ∧ mo_mon (4, true, 103, 11, S)) (hS' : mo_cok g t_law (4, true, 106, 12, S') ∧ mo_mon (4, true, 106, 12, S')) (h1 : vp_in (x + Int32.ofInt 1) (mo_en g.2.2.2.2 95)) (h2 : vp_in (x + Int32.ofInt 2) (mo_en g.2.2.2.2 95)) (h3 : vp_in (x + Int32.ofInt 3) (mo_en g.2.2.2.2 95)) (hT : ∀ υ, iv υ → mo_X g t_law Q 1184 (lw_ls x) [] υ) (hi : S [.inr (.inr (0, 0)), .inl (mo_ev g.2.2.2.2 95 (x + Int32.ofInt 1).toNatClampNeg), .inl (mo_ev g.2.2.2.2 95 (x + Int32.ofInt 2).toNatClampNeg), .inl (mo_ev g.2.2.2.2 95 (x + Int32.ofInt 3).toNatClampNeg)] σ (fun r τ => (∃ v : Int32, r = some (.inl v)) ∧ S' [.inr (.inr (50, 0)), .inl (mo_ev g.2.2.2.2 95 (x + Int32.ofInt 1).toNatClampNeg), .inl (mo_ev g.2.2.2.2 95 (x + Int32.ofInt 2).toNatClampNeg), .inl (mo_ev g.2.2.2.2 95 (x + Int32.ofInt 3).toNatClampNeg)] τ (fun r' υ => r = r' ∧ iv υ))) : mo_X g t_law Q 983 (lw_ls x) [] σ := by
  refine mo_goS ok_law21 (lw_cs_ok hS hS') [1184] 39 ?_
  intro K hK
  refine And.intro h1 ?_
  refine And.intro h2 ?_
  refine And.intro h3 ?_
  refine hS.2 _ _ _ _ (fun r τ hr => ?_) hi
  obtain ⟨⟨v, rfl⟩, hr⟩ := hr
  refine And.intro h1 ?_
  refine And.intro h2 ?_
  refine And.intro h3 ?_
  refine hS'.2 _ _ _ _ (fun r' υ hr2 => ?_) hr
  obtain ⟨rfl, hiv2⟩ := hr2
  refine And.intro (fun _ => ?_) (fun q => absurd rfl q)
  exact hK _ _ _ _ (hT υ hiv2)
theorem lw_c21 (g : mo_E) (Q : mo_Q) (x : Int32) (σ : mo_M) (h1 : vp_in (x + Int32.ofInt 1) (mo_en g.2.2.2.2 95)) (h2 : vp_in (x + Int32.ofInt 2) (mo_en g.2.2.2.2 95)) (h3 : vp_in (x + Int32.ofInt 3) (mo_en g.2.2.2.2 95)) (hT : ∀ υ, iv υ → mo_X g t_law Q 1184 (lw_ls x) [] υ) (hiv : iv σ) : mo_X g t_law Q 983 (lw_ls x) [] σ :=
  lw_g21 g Q x σ S_X11_gaps S_X12_gaps (cs_law21_ok g 0) (cs_law21_ok g 1) h1 h2 h3 hT (sh_X11_gaps _ _ _ (iv_gaps _ _ _ σ hiv))
set_option maxRecDepth 20000 in
set_option maxHeartbeats 2000000 in
theorem lw_g22 (g : mo_E) (Q : mo_Q) (x : Int32) (σ : mo_M) (S S' : mo_S) (hS : mo_cok g t_law (3, true, 107, 11, S) ∧ mo_mon (3, true, 107, 11, S)) (hS' : mo_cok g t_law (3, true, 110, 12, S') ∧ mo_mon (3, true, 110, 12, S')) (h1 : vp_in (x + Int32.ofInt 1) (mo_en g.2.2.2.2 95)) (h2 : vp_in (x + Int32.ofInt 2) (mo_en g.2.2.2.2 95)) (hT : ∀ υ, iv υ → mo_X g t_law Q 1184 (lw_ls x) [] υ) (hi : S [.inr (.inr (0, 0)), .inl (mo_ev g.2.2.2.2 95 (x + Int32.ofInt 1).toNatClampNeg), .inl (mo_ev g.2.2.2.2 95 (x + Int32.ofInt 2).toNatClampNeg)] σ (fun r τ => (∃ v : Int32, r = some (.inl v)) ∧ S' [.inr (.inr (50, 0)), .inl (mo_ev g.2.2.2.2 95 (x + Int32.ofInt 1).toNatClampNeg), .inl (mo_ev g.2.2.2.2 95 (x + Int32.ofInt 2).toNatClampNeg)] τ (fun r' υ => r = r' ∧ iv υ))) : mo_X g t_law Q 1026 (lw_ls x) [] σ := by
  refine mo_goS ok_law22 (lw_cs_ok hS hS') [1184] 29 ?_
  intro K hK
  refine And.intro h1 ?_
  refine And.intro h2 ?_
  refine hS.2 _ _ _ _ (fun r τ hr => ?_) hi
  obtain ⟨⟨v, rfl⟩, hr⟩ := hr
  refine And.intro h1 ?_
  refine And.intro h2 ?_
  refine hS'.2 _ _ _ _ (fun r' υ hr2 => ?_) hr
  obtain ⟨rfl, hiv2⟩ := hr2
  refine And.intro (fun _ => ?_) (fun q => absurd rfl q)
  exact hK _ _ _ _ (hT υ hiv2)
theorem lw_c22 (g : mo_E) (Q : mo_Q) (x : Int32) (σ : mo_M) (h1 : vp_in (x + Int32.ofInt 1) (mo_en g.2.2.2.2 95)) (h2 : vp_in (x + Int32.ofInt 2) (mo_en g.2.2.2.2 95)) (hT : ∀ υ, iv υ → mo_X g t_law Q 1184 (lw_ls x) [] υ) (hiv : iv σ) : mo_X g t_law Q 1026 (lw_ls x) [] σ :=
  lw_g22 g Q x σ S_X11_ring S_X12_ring (cs_law22_ok g 0) (cs_law22_ok g 1) h1 h2 hT (sh_X11_ring _ _ _ (iv_ring _ _ σ hiv))
set_option maxRecDepth 20000 in
set_option maxHeartbeats 2000000 in
theorem lw_g23 (g : mo_E) (Q : mo_Q) (x : Int32) (σ : mo_M) (S S' : mo_S) (hS : mo_cok g t_law (2, true, 111, 11, S) ∧ mo_mon (2, true, 111, 11, S)) (hS' : mo_cok g t_law (2, true, 114, 12, S') ∧ mo_mon (2, true, 114, 12, S')) (h1 : vp_in (x + Int32.ofInt 1) (mo_en g.2.2.2.2 95)) (hT : ∀ υ, iv υ → mo_X g t_law Q 1184 (lw_ls x) [] υ) (hi : S [.inr (.inr (0, 0)), .inl (mo_ev g.2.2.2.2 95 (x + Int32.ofInt 1).toNatClampNeg)] σ (fun r τ => (∃ v : Int32, r = some (.inl v)) ∧ S' [.inr (.inr (50, 0)), .inl (mo_ev g.2.2.2.2 95 (x + Int32.ofInt 1).toNatClampNeg)] τ (fun r' υ => r = r' ∧ iv υ))) : mo_X g t_law Q 1059 (lw_ls x) [] σ := by
  refine mo_goS ok_law23 (lw_cs_ok hS hS') [1184] 19 ?_
  intro K hK
  refine And.intro h1 ?_
  refine hS.2 _ _ _ _ (fun r τ hr => ?_) hi
  obtain ⟨⟨v, rfl⟩, hr⟩ := hr
  refine And.intro h1 ?_
  refine hS'.2 _ _ _ _ (fun r' υ hr2 => ?_) hr
  obtain ⟨rfl, hiv2⟩ := hr2
  refine And.intro (fun _ => ?_) (fun q => absurd rfl q)
  exact hK _ _ _ _ (hT υ hiv2)
theorem lw_c23 (g : mo_E) (Q : mo_Q) (x : Int32) (σ : mo_M) (h1 : vp_in (x + Int32.ofInt 1) (mo_en g.2.2.2.2 95)) (hT : ∀ υ, iv υ → mo_X g t_law Q 1184 (lw_ls x) [] υ) (hiv : iv σ) : mo_X g t_law Q 1059 (lw_ls x) [] σ :=
  lw_g23 g Q x σ S_X11_calls S_X12_calls (cs_law23_ok g 0) (cs_law23_ok g 1) h1 hT (sh_X11_calls _ _ _ (iv_calls _ σ hiv))
set_option maxRecDepth 20000 in
set_option maxHeartbeats 2000000 in
theorem lw_g24 (g : mo_E) (Q : mo_Q) (x : Int32) (σ : mo_M) (S S' : mo_S) (hS : mo_cok g t_law (4, true, 115, 11, S) ∧ mo_mon (4, true, 115, 11, S)) (hS' : mo_cok g t_law (4, true, 118, 12, S') ∧ mo_mon (4, true, 118, 12, S')) (h1 : vp_in (x + Int32.ofInt 1) (mo_en g.2.2.2.2 95)) (h2 : vp_in (x + Int32.ofInt 2) (mo_en g.2.2.2.2 95)) (h3 : vp_in (x + Int32.ofInt 3) (mo_en g.2.2.2.2 95)) (hT : ∀ υ, iv υ → mo_X g t_law Q 1184 (lw_ls x) [] υ) (hi : S [.inr (.inr (0, 0)), .inl (mo_ev g.2.2.2.2 95 (x + Int32.ofInt 1).toNatClampNeg), .inl (mo_ev g.2.2.2.2 95 (x + Int32.ofInt 2).toNatClampNeg), .inl (mo_ev g.2.2.2.2 95 (x + Int32.ofInt 3).toNatClampNeg)] σ (fun r τ => (∃ v : Int32, r = some (.inl v)) ∧ S' [.inr (.inr (50, 0)), .inl (mo_ev g.2.2.2.2 95 (x + Int32.ofInt 1).toNatClampNeg), .inl (mo_ev g.2.2.2.2 95 (x + Int32.ofInt 2).toNatClampNeg), .inl (mo_ev g.2.2.2.2 95 (x + Int32.ofInt 3).toNatClampNeg)] τ (fun r' υ => r = r' ∧ iv υ))) : mo_X g t_law Q 1082 (lw_ls x) [] σ := by
  refine mo_goS ok_law24 (lw_cs_ok hS hS') [1184] 39 ?_
  intro K hK
  refine And.intro h1 ?_
  refine And.intro h2 ?_
  refine And.intro h3 ?_
  refine hS.2 _ _ _ _ (fun r τ hr => ?_) hi
  obtain ⟨⟨v, rfl⟩, hr⟩ := hr
  refine And.intro h1 ?_
  refine And.intro h2 ?_
  refine And.intro h3 ?_
  refine hS'.2 _ _ _ _ (fun r' υ hr2 => ?_) hr
  obtain ⟨rfl, hiv2⟩ := hr2
  refine And.intro (fun _ => ?_) (fun q => absurd rfl q)
  exact hK _ _ _ _ (hT υ hiv2)
theorem lw_c24 (g : mo_E) (Q : mo_Q) (x : Int32) (σ : mo_M) (h1 : vp_in (x + Int32.ofInt 1) (mo_en g.2.2.2.2 95)) (h2 : vp_in (x + Int32.ofInt 2) (mo_en g.2.2.2.2 95)) (h3 : vp_in (x + Int32.ofInt 3) (mo_en g.2.2.2.2 95)) (hT : ∀ υ, iv υ → mo_X g t_law Q 1184 (lw_ls x) [] υ) (hiv : iv σ) : mo_X g t_law Q 1082 (lw_ls x) [] σ :=
  lw_g24 g Q x σ S_X11_recall S_X12_recall (cs_law24_ok g 0) (cs_law24_ok g 1) h1 h2 h3 hT (sh_X11_recall _ _ _ (iv_recall _ _ _ σ hiv))
set_option maxRecDepth 20000 in
set_option maxHeartbeats 2000000 in
theorem lw_g25 (g : mo_E) (Q : mo_Q) (x : Int32) (σ : mo_M) (S S' : mo_S) (hS : mo_cok g t_law (2, true, 119, 11, S) ∧ mo_mon (2, true, 119, 11, S)) (hS' : mo_cok g t_law (2, true, 122, 12, S') ∧ mo_mon (2, true, 122, 12, S')) (h1 : vp_in (x + Int32.ofInt 1) (mo_en g.2.2.2.2 95)) (hT : ∀ υ, iv υ → mo_X g t_law Q 1184 (lw_ls x) [] υ) (hi : S [.inr (.inr (0, 0)), .inl (mo_ev g.2.2.2.2 95 (x + Int32.ofInt 1).toNatClampNeg)] σ (fun r τ => (∃ v : Int32, r = some (.inl v)) ∧ S' [.inr (.inr (50, 0)), .inl (mo_ev g.2.2.2.2 95 (x + Int32.ofInt 1).toNatClampNeg)] τ (fun r' υ => r = r' ∧ iv υ))) : mo_X g t_law Q 1125 (lw_ls x) [] σ := by
  refine mo_goS ok_law25 (lw_cs_ok hS hS') [1184] 19 ?_
  intro K hK
  refine And.intro h1 ?_
  refine hS.2 _ _ _ _ (fun r τ hr => ?_) hi
  obtain ⟨⟨v, rfl⟩, hr⟩ := hr
  refine And.intro h1 ?_
  refine hS'.2 _ _ _ _ (fun r' υ hr2 => ?_) hr
  obtain ⟨rfl, hiv2⟩ := hr2
  refine And.intro (fun _ => ?_) (fun q => absurd rfl q)
  exact hK _ _ _ _ (hT υ hiv2)
theorem lw_c25 (g : mo_E) (Q : mo_Q) (x : Int32) (σ : mo_M) (h1 : vp_in (x + Int32.ofInt 1) (mo_en g.2.2.2.2 95)) (hT : ∀ υ, iv υ → mo_X g t_law Q 1184 (lw_ls x) [] υ) (hiv : iv σ) : mo_X g t_law Q 1125 (lw_ls x) [] σ :=
  lw_g25 g Q x σ S_X11_told S_X12_told (cs_law25_ok g 0) (cs_law25_ok g 1) h1 hT (sh_X11_told _ _ _ (iv_told _ σ hiv))
set_option maxRecDepth 20000 in
set_option maxHeartbeats 2000000 in
theorem lw_g26 (g : mo_E) (Q : mo_Q) (x : Int32) (σ : mo_M) (S S' : mo_S) (hS : mo_cok g t_law (2, true, 123, 11, S) ∧ mo_mon (2, true, 123, 11, S)) (hS' : mo_cok g t_law (2, true, 126, 12, S') ∧ mo_mon (2, true, 126, 12, S')) (h1 : vp_in (x + Int32.ofInt 1) (mo_en g.2.2.2.2 95)) (hT : ∀ υ, iv υ → mo_X g t_law Q 1184 (lw_ls x) [] υ) (hi : S [.inr (.inr (0, 0)), .inl (mo_ev g.2.2.2.2 95 (x + Int32.ofInt 1).toNatClampNeg)] σ (fun r τ => (∃ v : Int32, r = some (.inl v)) ∧ S' [.inr (.inr (50, 0)), .inl (mo_ev g.2.2.2.2 95 (x + Int32.ofInt 1).toNatClampNeg)] τ (fun r' υ => r = r' ∧ iv υ))) : mo_X g t_law Q 1148 (lw_ls x) [] σ := by
  refine mo_goS ok_law26 (lw_cs_ok hS hS') [1184] 19 ?_
  intro K hK
  refine And.intro h1 ?_
  refine hS.2 _ _ _ _ (fun r τ hr => ?_) hi
  obtain ⟨⟨v, rfl⟩, hr⟩ := hr
  refine And.intro h1 ?_
  refine hS'.2 _ _ _ _ (fun r' υ hr2 => ?_) hr
  obtain ⟨rfl, hiv2⟩ := hr2
  refine And.intro (fun _ => ?_) (fun q => absurd rfl q)
  exact hK _ _ _ _ (hT υ hiv2)
theorem lw_c26 (g : mo_E) (Q : mo_Q) (x : Int32) (σ : mo_M) (h1 : vp_in (x + Int32.ofInt 1) (mo_en g.2.2.2.2 95)) (hT : ∀ υ, iv υ → mo_X g t_law Q 1184 (lw_ls x) [] υ) (hiv : iv σ) : mo_X g t_law Q 1148 (lw_ls x) [] σ :=
  lw_g26 g Q x σ S_X11_count S_X12_count (cs_law26_ok g 0) (cs_law26_ok g 1) h1 hT (sh_X11_count _ _ _ (iv_count _ σ hiv))
set_option maxRecDepth 20000 in
set_option maxHeartbeats 2000000 in
theorem lw_g27 (g : mo_E) (Q : mo_Q) (x : Int32) (σ : mo_M) (S S' : mo_S) (hS : mo_cok g t_law (1, true, 127, 11, S) ∧ mo_mon (1, true, 127, 11, S)) (hS' : mo_cok g t_law (1, true, 130, 12, S') ∧ mo_mon (1, true, 130, 12, S')) (hT : ∀ υ, iv υ → mo_X g t_law Q 1184 (lw_ls x) [] υ) (hi : S [.inr (.inr (0, 0))] σ (fun r τ => (∃ v : Int32, r = some (.inl v)) ∧ S' [.inr (.inr (50, 0))] τ (fun r' υ => r = r' ∧ iv υ))) : mo_X g t_law Q 1171 (lw_ls x) [] σ := by
  refine mo_goS ok_law27 (lw_cs_ok hS hS') [1184] 9 ?_
  intro K hK
  refine hS.2 _ _ _ _ (fun r τ hr => ?_) hi
  obtain ⟨⟨v, rfl⟩, hr⟩ := hr
  refine hS'.2 _ _ _ _ (fun r' υ hr2 => ?_) hr
  obtain ⟨rfl, hiv2⟩ := hr2
  refine And.intro (fun _ => ?_) (fun q => absurd rfl q)
  exact hK _ _ _ _ (hT υ hiv2)
theorem lw_c27 (g : mo_E) (Q : mo_Q) (x : Int32) (σ : mo_M) (hT : ∀ υ, iv υ → mo_X g t_law Q 1184 (lw_ls x) [] υ) (hiv : iv σ) : mo_X g t_law Q 1171 (lw_ls x) [] σ :=
  lw_g27 g Q x σ S_X11_status S_X12_status (cs_law27_ok g 0) (cs_law27_ok g 1) hT (sh_X11_status _ _ _ (iv_status σ hiv))
