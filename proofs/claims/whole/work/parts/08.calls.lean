/-! contracts in the words of the picture -/
def mo_rty : Nat → Option FieldType
  | 0 => none
  | 1 => some .int
  | 2 => some .long
  | _ => some .boolean
def mo_wsm (y : MethodName) (mt : mo_T) : List Cond := .code y mt.1 mt.2.2.1 (mo_rty mt.2.2.2.1) :: mo_gw
def mo_Pc (g : mo_E) (as : List mo_V) (σ : mo_M) : Array Value → State → Prop := va_Pc (as.map (mo_cv g.2.2.1)) (fun U => mo_ok g U ∧ va_P g.1 vwCl (mo_wd g σ) U.heap)
def mo_Qc (g : mo_E) (Q : mo_Q) : Array Value → State → Outcome → State → Prop := fun _ st oc t => (∃ (r : Option mo_V) (σ : mo_M), oc = .returned (r.map (mo_cv g.2.2.1)) ∧ Q r σ ∧ va_P g.1 vwCl (mo_wd g σ) t.heap) ∧ va_F g.2.2.2.1 st t
def mo_ct (y : MethodName) (mt : mo_T) (S : mo_S) : Prop := ∀ (g : mo_E) (l : Launch) (as : List mo_V) (σ : mo_M) (Q : mo_Q), S as σ Q → Met l y (mo_wsm y mt) mt.2.2.2.2 (mo_Pc g as σ) (mo_Qc g Q) 0 0 g.2.2.2.1
def mo_es : List mo_V → mo_L
  | [] => []
  | .inr (.inl x) :: r => some (.inr (.inl x)) :: none :: mo_es r
  | v :: r => some v :: mo_es r
def mo_pad : Nat → mo_L → mo_L
  | 0, l => l
  | n + 1, [] => none :: mo_pad n []
  | n + 1, a :: l => a :: mo_pad n l
theorem mo_lk_pad : ∀ (n : Nat) (l : mo_L) (j : Nat), mo_lk (mo_pad n l) j = mo_lk l j
  | 0, l, j => rfl
  | n + 1, [], 0 => rfl
  | n + 1, [], j + 1 => by rw [mo_pad]; exact (mo_lk_pad n [] j).trans rfl
  | n + 1, a :: l, 0 => rfl
  | n + 1, a :: l, j + 1 => mo_lk_pad n l j
theorem mo_es_in (ad : Nat → Nat → Nat) : ∀ (as : List mo_V) (i j : Nat) (v : mo_V), mo_lk (mo_es as) j = some v → (i + j, mo_cv ad v) ∈ lv_args i (as.map (mo_cv ad))
  | [], i, j, v, h => by cases h
  | .inr (.inl x) :: r, i, j, v, h => by
    rw [List.map_cons, lv_args]
    match j with
    | 0 => cases h; exact List.mem_cons_self
    | 1 => cases h
    | j + 2 =>
      refine List.mem_cons_of_mem _ ?_
      rw [if_pos (by rw [mo_cv_cat]; rfl), show i + (j + 2) = i + 2 + j by omega]
      exact mo_es_in ad r (i + 2) j v h
  | .inl x :: r, i, j, v, h => by
    rw [List.map_cons, lv_args]
    match j with
    | 0 => cases h; exact List.mem_cons_self
    | j + 1 =>
      refine List.mem_cons_of_mem _ ?_
      rw [if_neg (by rw [mo_cv_cat]; simp [mo_wide]), show i + (j + 1) = i + 1 + j by omega]
      exact mo_es_in ad r (i + 1) j v h
  | .inr (.inr q) :: r, i, j, v, h => by
    rw [List.map_cons, lv_args]
    match j with
    | 0 => cases h; exact List.mem_cons_self
    | j + 1 =>
      refine List.mem_cons_of_mem _ ?_
      rw [if_neg (by rw [mo_cv_cat]; simp [mo_wide]), show i + (j + 1) = i + 1 + j by omega]
      exact mo_es_in ad r (i + 1) j v h
theorem mo_es_len (ad : Nat → Nat → Nat) : ∀ as : List mo_V, (lg_sl (as.map (mo_cv ad))).length = (mo_es as).length
  | [] => rfl
  | .inr (.inl x) :: r => by
    have h := mo_es_len ad r
    simp only [lg_sl, List.map_cons, List.flatMap_cons, List.length_append, mo_es, List.length_cons] at h ⊢
    rw [h, if_pos (by rw [mo_cv_cat]; rfl)]
    simp; omega
  | .inl x :: r => by
    have h := mo_es_len ad r
    simp only [lg_sl, List.map_cons, List.flatMap_cons, List.length_append, mo_es, List.length_cons] at h ⊢
    rw [h, if_neg (by rw [mo_cv_cat]; simp [mo_wide])]
    simp; omega
  | .inr (.inr q) :: r => by
    have h := mo_es_len ad r
    simp only [lg_sl, List.map_cons, List.flatMap_cons, List.length_append, mo_es, List.length_cons] at h ⊢
    rw [h, if_neg (by rw [mo_cv_cat]; simp [mo_wide])]
    simp; omega
set_option maxHeartbeats 4000000 in
/-- a contract out of a walk of the small machine -/
theorem mo_ct_of {y : MethodName} {mt : mo_T} {S : mo_S} (hy : plainName y.cls = true) (hc : y.cls = mt.2.1) (h : ∀ (g : mo_E) (as : List mo_V) (σ : mo_M) (Q : mo_Q), S as σ Q → (mo_es as).length ≤ mt.2.2.1 ∧ mo_X g mt Q 0 (mo_pad mt.2.2.1 (mo_es as)) [] σ) : mo_ct y mt S := by
  intro g l as σ Q hS
  obtain ⟨hlen, hX⟩ := h g as σ Q hS
  refine Met.ofW (cc := mt.1) (maxL := mt.2.2.1) (ret := mo_rty mt.2.2.2.1) hy rfl ?_
  intro p e s m args below meth c s₁ B hml hv
  obtain ⟨rfl, hok, hP⟩ := hv
  have hx := B.exec
  have hb := B.bytes
  have hr := B.returns
  have hts := atoms_spec (ws := mo_wsm y mt) B.pre
  have hown : s.vm.findClass mt.2.1 = some m.cls := by rw [← hc]; exact findClass_of_methodNamed B.named
  have hlocks := B.notSynchronized
  rw [lg_entry_eq]
  have hl := lv_entry (as.map (mo_cv g.2.2.1)) (n := mt.2.2.1) (by rw [mo_es_len]; exact hlen)
  have hl2 : lv_has ((lg_sl (as.map (mo_cv g.2.2.1)) ++ List.replicate (mt.2.2.1 - (lg_sl (as.map (mo_cv g.2.2.1))).length) Slot.unset).toArray) mt.2.2.1 (mo_lp g.2.2.1 0 (mo_pad mt.2.2.1 (mo_es as))) := by
    refine ⟨hl.1, hl.2.1, fun q hq => hl.2.2 q ?_⟩
    obtain ⟨j, v, hj, rfl⟩ := (mo_lp_mem g.2.2.1 _ 0 q).mp hq
    rw [mo_lk_pad] at hj
    exact mo_es_in g.2.2.1 as 0 j v hj
  refine hX p l e s m _ below meth c 0 0 _ ⟨hx, hb, hml, hown, fun w hw => hts w (List.mem_cons_of_mem _ hw), hok, ⟨Nat.zero_le _, Nat.zero_le _⟩, ?_⟩ s.heap [] _ hP va_S.rf hl2
  intro r σ' H locs ls pc hq hro hd hP' hS'
  have hQ : ∀ t : State, t.heap = H → s.WarmedH t.vm → mo_Qc g Q (as.map (mo_cv g.2.2.1)).toArray s (.returned (r.map (mo_cv g.2.2.1))) t := fun t ht _ => ⟨⟨r, σ', rfl, hq, by rw [ht]; exact hP'⟩, hS'.F ht⟩
  match r, hro with
  | none, hro =>
    exact W.vret hx hb (by rw [hr]; show mo_rty mt.2.2.2.1 = _; rw [show mt.2.2.2.1 = 0 from hro]; rfl) hQ hS'.2.2 hd
  | some (.inl v), Or.inl hro =>
    exact W.iret hx hb (by rw [hr]; show mo_rty mt.2.2.2.1 = _; rw [hro]; rfl) hQ hS'.2.2 hd
  | some (.inl v), Or.inr hro =>
    exact W.zret (ty := .boolean) hx hb (by rw [hr]; show mo_rty mt.2.2.2.1 = _; rw [hro.1]; rfl) (by rcases hro.2 with rfl | rfl <;> rfl) hQ hS'.2.2 hd
  | some (.inr (.inl v)), hro =>
    exact W.lret hx hb (by rw [hr]; show mo_rty mt.2.2.2.1 = _; rw [show mt.2.2.2.1 = 2 from hro]; rfl) hQ hS'.2.2 hd
/-! calls -/
theorem mo_blind (g : mo_E) (as : List mo_V) (σ : mo_M) : FrameBlind (mo_Pc g as σ) := by
  intro a U fr mk h
  obtain ⟨h0, ⟨h1, h2, h3, h4, h5⟩, hP⟩ := h
  refine ⟨h0, ⟨va_K.moved (u := U) (U := U.calling fr mk a) (Vm.Alike.refl U.vm) h1, h2, h3, fun w hw => ?_, ?_⟩, hP⟩
  · have hz := h4 w hw
    have ht : w.onTables = true := by
      simp only [mo_nw, List.mem_cons, List.not_mem_nil, or_false] at hw
      rcases hw with rfl | rfl | rfl | rfl | rfl | rfl | rfl <;> rfl
    exact va_Nw.same ht (u := U) (U := U.calling fr mk a) rfl hz
  · obtain ⟨q1, q2, q3, q4, ⟨v, q5⟩, q6, q7⟩ := h5
    exact ⟨va_Z.moved (U := U.calling fr mk a) (Vm.Alike.refl U.vm) q1, va_T.moved (U := U.calling fr mk a) (Vm.Alike.refl U.vm) q2, va_T.moved (U := U.calling fr mk a) (Vm.Alike.refl U.vm) q3, fun x hx => vk_R.same rfl (q4 x hx), ⟨v, vk_S.moved (U := U.calling fr mk a) (Vm.Alike.refl U.vm) q5⟩, va_Z.moved (U := U.calling fr mk a) (Vm.Alike.refl U.vm) q6, va_Zq.moved (U := U.calling fr mk a) (Vm.Alike.refl U.vm) q7⟩
set_option maxHeartbeats 4000000 in
/-- behind a call -/
theorem mo_back {g : mo_E} {mt : mo_T} {Q Q' : mo_Q} {p : Program} {l : Launch} {e : Env} {s : State} {m : MethodId} {args : Array Value} {below : List Frame} {meth : Method} {c : Code} {cells slots : Nat} {QQ : State → Prop} {H : Heap} {locs : List Loc} {pc : Nat} {A : Array Slot} {ls : mo_L} {rest : List mo_V} {st0 : List Value} {a : Array Value} (C : mo_cx g mt Q p l e s m args below meth c cells slots QQ)
    (hr : va_Run p l e mt.2.2.2.2 s m args below meth c H locs cells slots 0 0 (F0 m pc A st0) (rest.map (mo_cv g.2.2.1)) (mo_Qc g Q' a) g.2.2.2.1) (hS : va_S g.2.2.2.1 s.heap H locs) (hl : lv_has A mt.2.2.1 (mo_lp g.2.2.1 0 ls))
    (kk : ∀ (x : Option mo_V) (σ' : mo_M), Q' x σ' → mo_X g mt Q (pc + 3) ls (mo_psh x rest) σ') : W p l e mt.2.2.2.2 s m args below meth c H locs cells slots QQ (F0 m pc A st0) := by
  intro T hT X
  obtain ⟨v, st₀, t, T', L, h0, X', hL, e1, e2, ⟨⟨r, σ', hv, hq, hP⟩, hz, hk⟩, st⟩ := hr T hT X
  cases hv
  rw [h0] at hz hk
  have hS2 : va_S g.2.2.2.1 s.heap T'.heap (locs ++ L) := ⟨Nat.le_trans hS.1 (by rw [e1]; exact hz), fun q h1 h2 => by rw [e1, hk q (Nat.lt_of_lt_of_le h1 hS.1) h2]; exact hS.2.1 q h1 h2, fun q hq => by
      rcases List.mem_append.mp hq with h | h
      · exact hS.2.2 q h
      · exact hL q h⟩
  obtain ⟨t2, a1, b1⟩ := kk r σ' hq p l e s m args below meth c cells slots QQ C T'.heap (locs ++ L) A (by rw [e1]; exact hP) hS2 hl T' rfl X'
  refine ⟨t2, st t2 ?_, b1⟩
  have hst : (mo_psh r rest).map (mo_cv g.2.2.1) = (r.map (mo_cv g.2.2.1)).toList ++ rest.map (mo_cv g.2.2.1) := by cases r <;> rfl
  rw [hst] at a1
  exact a1
theorem mo_catv (ad : Nat → Nat → Nat) : ∀ r : List mo_V, ((r.map (mo_cv ad)).map fun v => v.category).sum = mo_cat r
  | [] => rfl
  | .inl x :: r => by rw [List.map_cons, List.map_cons, List.sum_cons, mo_catv ad r, mo_cv_cat]; simp [mo_wide, mo_cat]; omega
  | .inr (.inl x) :: r => by rw [List.map_cons, List.map_cons, List.sum_cons, mo_catv ad r, mo_cv_cat]; simp [mo_wide, mo_cat]; omega
  | .inr (.inr q) :: r => by rw [List.map_cons, List.map_cons, List.sum_cons, mo_catv ad r, mo_cv_cat]; simp [mo_wide, mo_cat]; omega
theorem mo_gi {c : List Cond} (h : ∀ w ∈ c, w ∈ mo_gw) : GoodIn mo_gw c := fun w hw => ⟨h w hw, good_of_word (mo_gw_good (h w hw))⟩
/-- what a caller must know of a callee, all of it decided: words, name, room -/
def mo_lkB (own : String) (R : Room) (y : MethodName) (mz : mo_T) (n : Nat) (ws : List Cond) : Bool :=
  ((Cond.code y mz.1 mz.2.2.1 (mo_rty mz.2.2.2.1) :: Cond.initialized y.cls :: ws).all mo_gB && decide (y.cls ≠ "java/lang/invoke/MethodHandle" ∧ y.cls ≠ "java/lang/invoke/VarHandle" ∧ (parseMethodDescriptor y.desc).map (fun d => d.parameters.length) = some n)) && decide (mz.2.2.2.2.cells = 0 ∧ mz.2.2.2.2.slots = 0 ∧ mz.2.2.2.2.frames + 1 ≤ R.frames ∧ 8 + (mz.2.2.1 + 11) + mz.2.2.2.2.locals ≤ R.locals)
theorem mo_lkB_of {own : String} {R : Room} {y : MethodName} {mz : mo_T} {n : Nat} {ws : List Cond} (h : mo_lkB own R y mz n ws = true) : (∀ w ∈ mo_wsm y mz, w ∈ mo_gw) ∧ Cond.initialized y.cls ∈ mo_gw ∧ (∀ w ∈ ws, w ∈ mo_gw) ∧ (y.cls ≠ "java/lang/invoke/MethodHandle" ∧ y.cls ≠ "java/lang/invoke/VarHandle" ∧ (parseMethodDescriptor y.desc).map (fun d => d.parameters.length) = some n) ∧ mz.2.2.2.2.cells = 0 ∧ mz.2.2.2.2.slots = 0 ∧ mz.2.2.2.2.frames + 1 ≤ R.frames ∧ 8 + (mz.2.2.1 + 11) + mz.2.2.2.2.locals ≤ R.locals := by
  unfold mo_lkB at h
  simp only [Bool.and_eq_true, decide_eq_true_eq] at h
  obtain ⟨⟨h1, h2⟩, h3⟩ := h
  have h1 := List.all_eq_true.mp h1
  refine ⟨fun w hw => ?_, mo_gB_of (h1 _ (by simp)), fun w hw => mo_gB_of (h1 w (by simp [hw])), h2, h3⟩
  rcases List.mem_cons.mp hw with rfl | hw
  · exact mo_gB_of (h1 _ (by simp))
  · exact hw
set_option maxHeartbeats 4000000 in
/-- a call of a method of the picture's own classes, by its receiver -/
theorem mo_cokV {g : mo_E} {mt mz : mo_T} {y : MethodName} {S : mo_S} {n i ci : Nat} (hct : mo_ct y mz S) (hci : ci < 13) (hcl : ∃ T N, vwCl[ci]? = some (y.cls, T, N)) (h : mo_lkB mt.2.1 mt.2.2.2.2 y mz n [.methodLink mt.2.1 i y, .instanceMethod y, .selects y.cls y y] = true) : mo_cok g mt (n + 1, true, i, ci, S) := by
  intro pc hd Q ls as rest σ hn hcat hrc hsp
  obtain ⟨h1, h2, h3, h4, h5, h6, h7, h8⟩ := mo_lkB_of h
  obtain ⟨o, w, r, rfl, ho, hps⟩ := hrc (by simp only [Bool.true_and]; exact Nat.ble_eq.mpr (by omega))
  intro p l e s m args below meth c cells slots QQ C H locs A hP hS hl
  obtain ⟨hx, hb, hml, hown, hw, hok, hcs, hret⟩ := id C
  obtain ⟨T, N, hT⟩ := hcl
  obtain ⟨q0, hq0⟩ := mo_ps_ix hps
  have he := mo_wd_at g σ hq0
  rw [mo_cell_o σ (mo_isO_of ho)] at he
  have hrv := va_recv hok.1 hP hT he
  have hcb : CallB mt.2.2.2.2 s args mt.2.1 i y mz.1 mz.2.2.1 (mo_rty mz.2.2.2.1) (mo_wsm y mz) mz.2.2.2.2 0 0 n :=
    callB_of n hw (mo_gi h1) rfl h5 h6 (hw _ h2) (hw _ (h3 _ (by simp))) h4 ⟨h7, h8⟩
  rw [List.map_append]
  refine mo_back (rest := rest) (a := (Value.ref (g.2.2.1 o w) :: r.map (mo_cv g.2.2.1)).toArray) C ?_ hS hl (fun x σ' q => q)
  refine va_runV (C := y.cls) (b := g.2.2.1 o w) (As := r.map (mo_cv g.2.2.1)) (Ts := mo_gw) ⟨hx, hb, hml, hown, hw⟩ (hct g l _ σ _ hsp) ⟨hcb, hw _ (h3 _ (by simp)), hw _ (h3 _ (by simp))⟩ ⟨mo_blind g _ σ, hrv, fun U hU hW => ⟨rfl, mo_ok_moved hW (fun a h1 h2 => by rw [hU]; exact hS.2.1 a h1 h2) hok, by rw [hU]; exact hP⟩⟩ rfl ?_ hl.1 ?_ (lv_room (by rw [mo_catv]; exact hcat)) hd ⟨by simpa using hcs.1, by simpa using hcs.2⟩
  · simp at hn ⊢; omega
  · simp [mo_cv]
set_option maxHeartbeats 4000000 in
/-- a call of a static method -/
theorem mo_cokS {g : mo_E} {mt mz : mo_T} {y : MethodName} {S : mo_S} {n i : Nat} (hct : mo_ct y mz S) (h : mo_lkB mt.2.1 mt.2.2.2.2 y mz n [.methodLink mt.2.1 i y, .static y] = true) : mo_cok g mt (n, false, i, 50, S) := by
  intro pc hd Q ls as rest σ hn hcat hrc hsp
  obtain ⟨h1, h2, h3, h4, h5, h6, h7, h8⟩ := mo_lkB_of h
  intro p l e s m args below meth c cells slots QQ C H locs A hP hS hl
  obtain ⟨hx, hb, hml, hown, hw, hok, hcs, hret⟩ := id C
  have hcb : CallB mt.2.2.2.2 s args mt.2.1 i y mz.1 mz.2.2.1 (mo_rty mz.2.2.2.1) (mo_wsm y mz) mz.2.2.2.2 0 0 n :=
    callB_of n hw (mo_gi h1) rfl h5 h6 (hw _ h2) (hw _ (h3 _ (by simp))) h4 ⟨h7, h8⟩
  rw [List.map_append]
  refine mo_back (rest := rest) (a := (as.map (mo_cv g.2.2.1)).toArray) C ?_ hS hl (fun x σ' q => q)
  refine va_runS (As := as.map (mo_cv g.2.2.1)) (Ts := mo_gw) ⟨hx, hb, hml, hown, hw⟩ (hct g l _ σ _ hsp) ⟨hcb, hw _ (h3 _ (by simp))⟩ ⟨mo_blind g _ σ, fun U hU hW => ⟨rfl, mo_ok_moved hW (fun a h1 h2 => by rw [hU]; exact hS.2.1 a h1 h2) hok, by rw [hU]; exact hP⟩⟩ rfl ?_ hl.1 ?_ (lv_room (by rw [mo_catv]; exact hcat)) hd ⟨by simpa using hcs.1, by simpa using hcs.2⟩
  · simp at hn ⊢; omega
  · simp
set_option maxHeartbeats 4000000 in
/-- a call of a private static method of the host -/
theorem mo_cokN {g : mo_E} {mt mz : mo_T} {y : MethodName} {S : mo_S} {n i : Nat} (hct : mo_ct y mz S) (hnw : Cond.methodLinkNest mt.2.1 i y RX11 ∈ mo_nw) (h : mo_lkB mt.2.1 mt.2.2.2.2 y mz n [.static y] = true) : mo_cok g mt (n, false, i, 50, S) := by
  intro pc hd Q ls as rest σ hn hcat hrc hsp
  obtain ⟨h1, h2, h3, h4, h5, h6, h7, h8⟩ := mo_lkB_of h
  intro p l e s m args below meth c cells slots QQ C H locs A hP hS hl
  obtain ⟨hx, hb, hml, hown, hw, hok, hcs, hret⟩ := id C
  have hcb : va_CN mt.2.2.2.2 s args mt.2.1 i y RX11 mz.1 mz.2.2.1 (mo_rty mz.2.2.2.1) (mo_wsm y mz) mz.2.2.2.2 0 0 n :=
    va_cnB n hw (mo_gi h1) rfl h5 h6 (hok.2.2.2.1 _ hnw) (hw _ h2) h4 ⟨h7, h8⟩
  rw [List.map_append]
  refine mo_back (rest := rest) (a := (as.map (mo_cv g.2.2.1)).toArray) C ?_ hS hl (fun x σ' q => q)
  refine va_runSN (As := as.map (mo_cv g.2.2.1)) (Ts := mo_gw) ⟨hx, hb, hml, hown, hw⟩ (hct g l _ σ _ hsp) ⟨hcb, hw _ (h3 _ (by simp)), trivial⟩ ⟨mo_blind g _ σ, fun U hU hW => ⟨rfl, mo_ok_moved hW (fun a h1 h2 => by rw [hU]; exact hS.2.1 a h1 h2) hok, by rw [hU]; exact hP⟩⟩ rfl ?_ hl.1 ?_ (lv_room (by rw [mo_catv]; exact hcat)) hd ⟨by simpa using hcs.1, by simpa using hcs.2⟩
  · simp at hn ⊢; omega
  · simp
/-- the callee that nobody calls -/
theorem mo_cok0 (g : mo_E) (mt : mo_T) : mo_cok g mt (0, false, 0, 50, fun _ _ _ => False) := fun _ _ _ _ _ _ _ _ _ _ h => h.elim
theorem mo_mon0 : mo_mon (0, false, 0, 50, fun _ _ _ => False) := fun _ _ _ _ _ h => h
