def S_J9_max_7cf53 : mo_S := fun as σ Q => ∃ a : Int32, ∃ b : Int32, as = [.inl a, .inl b] ∧ (True) ∧ Q (some (.inl (if a < b then b else a))) (σ)
theorem m_J9_max_7cf53 : ∀ (as : List mo_V) (σ : mo_M) (P P' : mo_Q), (∀ x τ, P x τ → P' x τ) → S_J9_max_7cf53 as σ P → S_J9_max_7cf53 as σ P' := by
  rintro as σ P P' h ⟨a, b, e, hp, hq⟩
  exact ⟨a, b, e, hp, h _ _ hq⟩
def mo_mmax (own : String) (R : Room) (i : Nat) : Bool := (mo_gB (.methodLink own i yJ9_max_7cf53) && (mo_gB (.static yJ9_max_7cf53) && (mo_gB (.initialized "java/lang/Math") && mo_gB (.code yJ9_max_7cf53 cJ9_max_7cf53 2 (some .int))))) && decide (1 ≤ R.frames ∧ 21 ≤ R.locals)
set_option maxHeartbeats 2000000 in
theorem ck_J9_max_7cf53 {g : mo_E} {mt : mo_T} {i : Nat} (h : mo_mmax mt.2.1 mt.2.2.2.2 i = true) : mo_cok g mt (2, false, i, 50, S_J9_max_7cf53) := by
  unfold mo_mmax at h
  simp only [Bool.and_eq_true, decide_eq_true_eq] at h
  obtain ⟨⟨h1, h2, h3, h4⟩, h5, h6⟩ := h
  intro pc hd Q ls as rest σ hn hcat hrc hsp
  obtain ⟨a, b, rfl, -, hX⟩ := hsp
  intro p l e s m args below meth c cells slots QQ C H locs A hP hS hl
  obtain ⟨hx, hb, hml, hown, hw, hok, hcs, hret⟩ := id C
  exact va_mmax (rest := rest.map (mo_cv g.2.2.1)) hx hb (hml.trans hl.1.symm) hown (hw _ (mo_gB_of h1)) (hw _ (mo_gB_of h2)) (hw _ (mo_gB_of h3)) (hw _ (mo_gB_of h4)) h5 (by rw [mo_catv]; omega) hcs.1 hcs.2 hd (hX p l e s m args below meth c cells slots QQ C H locs A hP hS hl)
def S_J9_min_7cf53 : mo_S := fun as σ Q => ∃ a : Int32, ∃ b : Int32, as = [.inl a, .inl b] ∧ (True) ∧ Q (some (.inl (if b < a then b else a))) (σ)
theorem m_J9_min_7cf53 : ∀ (as : List mo_V) (σ : mo_M) (P P' : mo_Q), (∀ x τ, P x τ → P' x τ) → S_J9_min_7cf53 as σ P → S_J9_min_7cf53 as σ P' := by
  rintro as σ P P' h ⟨a, b, e, hp, hq⟩
  exact ⟨a, b, e, hp, h _ _ hq⟩
def mo_mmin (own : String) (R : Room) (i : Nat) : Bool := (mo_gB (.methodLink own i yJ9_min_7cf53) && (mo_gB (.static yJ9_min_7cf53) && (mo_gB (.initialized "java/lang/Math") && mo_gB (.code yJ9_min_7cf53 cJ9_min_7cf53 2 (some .int))))) && decide (1 ≤ R.frames ∧ 21 ≤ R.locals)
set_option maxHeartbeats 2000000 in
theorem ck_J9_min_7cf53 {g : mo_E} {mt : mo_T} {i : Nat} (h : mo_mmin mt.2.1 mt.2.2.2.2 i = true) : mo_cok g mt (2, false, i, 50, S_J9_min_7cf53) := by
  unfold mo_mmin at h
  simp only [Bool.and_eq_true, decide_eq_true_eq] at h
  obtain ⟨⟨h1, h2, h3, h4⟩, h5, h6⟩ := h
  intro pc hd Q ls as rest σ hn hcat hrc hsp
  obtain ⟨a, b, rfl, -, hX⟩ := hsp
  intro p l e s m args below meth c cells slots QQ C H locs A hP hS hl
  obtain ⟨hx, hb, hml, hown, hw, hok, hcs, hret⟩ := id C
  exact va_mmin (rest := rest.map (mo_cv g.2.2.1)) hx hb (hml.trans hl.1.symm) hown (hw _ (mo_gB_of h1)) (hw _ (mo_gB_of h2)) (hw _ (mo_gB_of h3)) (hw _ (mo_gB_of h4)) h5 (by rw [mo_catv]; omega) hcs.1 hcs.2 hd (hX p l e s m args below meth c cells slots QQ C H locs A hP hS hl)
def S_X9_narrow : mo_S := fun as σ Q => ∃ w : Nat, ∃ a : Int32, ∃ b : Int32, as = [.inr (.inr (39, w)), .inl a, .inl b] ∧ (w < 20 ∧ (((σ.1 39 w 2) ≤ 0 → Q (none) (σ)) ∧ (¬ (σ.1 39 w 2) ≤ 0 → (w < 20 ∧ (w < 20 ∧ (w < 20 ∧ (w < 20 ∧ (w < 20 ∧ (vp_in ((σ.1 39 w 2) - (1 : Int32)) 30 ∧ (w < 20 ∧ (vp_in ((σ.1 39 w 2) - (1 : Int32)) 30 ∧ (w < 20 ∧ (w < 20 ∧ (w < 20 ∧ (w < 20 ∧ (w < 20 ∧ (vp_in ((σ.1 39 w 2) - (1 : Int32)) 30 ∧ (w < 20 ∧ (vp_in ((σ.1 39 w 2) - (1 : Int32)) 30 ∧ Q (none) (mo_wI (mo_wI σ 40 w (((σ.1 39 w 2) - (1 : Int32)).toNatClampNeg) (if (σ.1 40 w (((σ.1 39 w 2) - (1 : Int32)).toNatClampNeg)) < a then a else (σ.1 40 w (((σ.1 39 w 2) - (1 : Int32)).toNatClampNeg)))) 41 w (((σ.1 39 w 2) - (1 : Int32)).toNatClampNeg) (if b < (σ.1 41 w (((σ.1 39 w 2) - (1 : Int32)).toNatClampNeg)) then b else (σ.1 41 w (((σ.1 39 w 2) - (1 : Int32)).toNatClampNeg)))))))))))))))))))))))
theorem m_X9_narrow : ∀ (as : List mo_V) (σ : mo_M) (P P' : mo_Q), (∀ x τ, P x τ → P' x τ) → S_X9_narrow as σ P → S_X9_narrow as σ P' := by
  rintro as σ P P' hm ⟨w, a, b, e, hq⟩
  exact ⟨w, a, b, e, ⟨hq.1, ⟨fun c1 => hm _ _ (hq.2.1 c1), fun c1 => ⟨(hq.2.2 c1).1, ⟨(hq.2.2 c1).2.1, ⟨(hq.2.2 c1).2.2.1, ⟨(hq.2.2 c1).2.2.2.1, ⟨(hq.2.2 c1).2.2.2.2.1, ⟨(hq.2.2 c1).2.2.2.2.2.1, ⟨(hq.2.2 c1).2.2.2.2.2.2.1, ⟨(hq.2.2 c1).2.2.2.2.2.2.2.1, ⟨(hq.2.2 c1).2.2.2.2.2.2.2.2.1, ⟨(hq.2.2 c1).2.2.2.2.2.2.2.2.2.1, ⟨(hq.2.2 c1).2.2.2.2.2.2.2.2.2.2.1, ⟨(hq.2.2 c1).2.2.2.2.2.2.2.2.2.2.2.1, ⟨(hq.2.2 c1).2.2.2.2.2.2.2.2.2.2.2.2.1, ⟨(hq.2.2 c1).2.2.2.2.2.2.2.2.2.2.2.2.2.1, ⟨(hq.2.2 c1).2.2.2.2.2.2.2.2.2.2.2.2.2.2.1, ⟨(hq.2.2 c1).2.2.2.2.2.2.2.2.2.2.2.2.2.2.2.1, hm _ _ (hq.2.2 c1).2.2.2.2.2.2.2.2.2.2.2.2.2.2.2.2⟩⟩⟩⟩⟩⟩⟩⟩⟩⟩⟩⟩⟩⟩⟩⟩⟩⟩⟩
def cs_X9_narrow : Nat → mo_C := fun j => match j with
  | 0 => (2, false, 32, 50, S_J9_max_7cf53)
  | 1 => (2, false, 38, 50, S_J9_min_7cf53)
  | _ => (0, false, 0, 50, fun _ _ _ => False)
theorem cs_X9_narrow_ok (g : mo_E) : ∀ j, mo_cok g t_X9_narrow (cs_X9_narrow j) ∧ mo_mon (cs_X9_narrow j) := by
  intro j
  unfold cs_X9_narrow
  split
  · exact ⟨ck_J9_max_7cf53 (by decide +kernel), m_J9_max_7cf53⟩
  · exact ⟨ck_J9_min_7cf53 (by decide +kernel), m_J9_min_7cf53⟩
  · exact ⟨mo_cok0 g _, mo_mon0⟩
set_option maxRecDepth 20000 in
set_option maxHeartbeats 2000000 in
theorem ct_X9_narrow : mo_ct yX9_narrow t_X9_narrow S_X9_narrow := by
  refine mo_ct_of (by decide) rfl ?_
  rintro g as σ Q ⟨w, a, b, rfl, hQ⟩
  refine ⟨Nat.le_of_ble_eq_true rfl, mo_go ok_X9_narrow (cs_X9_narrow_ok g) [] 37 ?_⟩
  intro K hK
  refine And.intro (show w < 20 from hQ.1) ?_
  refine And.intro (fun (c1 : (σ.1 39 w 2) ≤ 0) => ?_) (fun (c1 : ¬ (σ.1 39 w 2) ≤ 0) => ?_)
  · exact (hQ.2.1 c1)
  · refine And.intro (show w < 20 from (hQ.2.2 c1).1) ?_
    refine And.intro (show w < 20 from (hQ.2.2 c1).2.1) ?_
    refine And.intro (show w < 20 from (hQ.2.2 c1).2.2.1) ?_
    refine And.intro (show w < 20 from (hQ.2.2 c1).2.2.2.1) ?_
    refine And.intro (show w < 20 from (hQ.2.2 c1).2.2.2.2.1) ?_
    refine And.intro (show vp_in ((σ.1 39 w 2) - (1 : Int32)) 30 from (hQ.2.2 c1).2.2.2.2.2.1) ?_
    refine Exists.intro (σ.1 40 w (((σ.1 39 w 2) - (1 : Int32)).toNatClampNeg)) (Exists.intro a (And.intro rfl (And.intro trivial ?_)))
    refine And.intro (show w < 20 from (hQ.2.2 c1).2.2.2.2.2.2.1) ?_
    refine And.intro (show vp_in ((σ.1 39 w 2) - (1 : Int32)) 30 from (hQ.2.2 c1).2.2.2.2.2.2.2.1) ?_
    refine And.intro (show w < 20 from (hQ.2.2 c1).2.2.2.2.2.2.2.2.1) ?_
    refine And.intro (show w < 20 from (hQ.2.2 c1).2.2.2.2.2.2.2.2.2.1) ?_
    refine And.intro (show w < 20 from (hQ.2.2 c1).2.2.2.2.2.2.2.2.2.2.1) ?_
    refine And.intro (show w < 20 from (hQ.2.2 c1).2.2.2.2.2.2.2.2.2.2.2.1) ?_
    refine And.intro (show w < 20 from (hQ.2.2 c1).2.2.2.2.2.2.2.2.2.2.2.2.1) ?_
    refine And.intro (show vp_in ((σ.1 39 w 2) - (1 : Int32)) 30 from (hQ.2.2 c1).2.2.2.2.2.2.2.2.2.2.2.2.2.1) ?_
    refine Exists.intro (σ.1 41 w (((σ.1 39 w 2) - (1 : Int32)).toNatClampNeg)) (Exists.intro b (And.intro rfl (And.intro trivial ?_)))
    refine And.intro (show w < 20 from (hQ.2.2 c1).2.2.2.2.2.2.2.2.2.2.2.2.2.2.1) ?_
    refine And.intro (show vp_in ((σ.1 39 w 2) - (1 : Int32)) 30 from (hQ.2.2 c1).2.2.2.2.2.2.2.2.2.2.2.2.2.2.2.1) ?_
    exact (hQ.2.2 c1).2.2.2.2.2.2.2.2.2.2.2.2.2.2.2.2
