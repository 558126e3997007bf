/-! the judgement: from here the method comes to an end with Q -/
def mo_ro (rt : Nat) : Option mo_V → Prop
  | none => rt = 0
  | some (.inl v) => rt = 1 ∨ (rt = 3 ∧ (v = 0 ∨ v = 1))
  | some (.inr (.inl _)) => rt = 2
  | _ => False
def mo_rn : Option mo_V → Instr
  | none => .return_
  | some (.inl _) => .ireturn
  | some (.inr (.inl _)) => .lreturn
  | _ => .areturn
def mo_cx (g : mo_E) (mt : mo_T) (Q : mo_Q) (p : Program) (l : Launch) (e : Env) (s : State) (m : MethodId) (args : Array Value) (below : List Frame) (meth : Method) (c : Code) (cells slots : Nat) (QQ : State → Prop) : Prop :=
  p.tables.exec = Jvm.exec ∧ c.code = mt.1 ∧ c.maxLocals = mt.2.2.1 ∧ s.vm.findClass mt.2.1 = some m.cls ∧ (∀ w ∈ mo_gw, w.before args s = true) ∧ mo_ok g s ∧ (cells ≤ mt.2.2.2.2.cells ∧ slots ≤ mt.2.2.2.2.slots) ∧
  ∀ (r : Option mo_V) (σ : mo_M) (H : Heap) (locs : List Loc) (ls : Array Slot) (pc : Nat), Q r σ → mo_ro mt.2.2.2.1 r → decode mt.1 pc = .ok (mo_rn r, 1) → va_P g.1 vwCl (mo_wd g σ) H → va_S g.2.2.2.1 s.heap H locs → W p l e mt.2.2.2.2 s m args below meth c H locs cells slots QQ (F0 m pc ls ((r.map (mo_cv g.2.2.1)).toList))
def mo_X (g : mo_E) (mt : mo_T) (Q : mo_Q) : mo_K := fun pc ls st σ =>
  ∀ (p : Program) (l : Launch) (e : Env) (s : State) (m : MethodId) (args : Array Value) (below : List Frame) (meth : Method) (c : Code) (cells slots : Nat) (QQ : State → Prop), mo_cx g mt Q p l e s m args below meth c cells slots QQ →
  ∀ (H : Heap) (locs : List Loc) (A : Array Slot), va_P g.1 vwCl (mo_wd g σ) H → va_S g.2.2.2.1 s.heap H locs → lv_has A mt.2.2.1 (mo_lp g.2.2.1 0 ls) → W p l e mt.2.2.2.2 s m args below meth c H locs cells slots QQ (F0 m pc A (st.map (mo_cv g.2.2.1)))
def mo_tbs : List u_T := [TX0, TX1, TX2, TX3, TX4, TX5, TX6, TX7, TX8, TX9, TX10, TX11, TX12]
def mo_fl (own : String) (i a b : Nat) : Cond := match mo_at mo_tbs a with
  | some T => .fieldLink own i (T b).1 (T b).2.1 (T b).2.2.1
  | none => .initialized ""
def mo_gB (w : Cond) : Bool := decide (w ∈ lw_tbl) && goodWord w
theorem mo_gB_of {w : Cond} (h : mo_gB w = true) : w ∈ mo_gw := by
  unfold mo_gB at h
  rw [Bool.and_eq_true] at h
  exact mo_gw_of (of_decide_eq_true h.1) h.2
def mo_ck (own : String) (q : mo_I) : Bool := match q.2.2.1 with
  | .iconst n => Nat.beq q.2.1 1 && decide (n = q.2.2.2.2.2)
  | .bipush n => Nat.beq q.2.1 2 && decide ((Int8.ofInt n).toInt32 = Int32.ofInt q.2.2.2.2.2)
  | .sipush n => Nat.beq q.2.1 3 && decide ((Int16.ofInt n).toInt32 = Int32.ofInt q.2.2.2.2.2)
  | .ldc i => Nat.beq q.2.1 2 && (bif Nat.beq q.2.2.2.1 0 then mo_gB (.constant own i (Int32.ofInt q.2.2.2.2.2)) else decide (own = RX7) && mo_sr.any (fun x => Nat.beq x.1 i && Nat.beq x.2.2 q.2.2.2.1))
  | .ldc_w i => Nat.beq q.2.1 3 && mo_gB (.constant own i (Int32.ofInt q.2.2.2.2.2))
  | .ldc2_w i => Nat.beq q.2.1 3 && mo_gB (.constantLong own i (Int64.ofInt q.2.2.2.2.2))
  | .lconst n => Nat.beq q.2.1 1 && decide (Int64.ofNat n.val = Int64.ofInt q.2.2.2.2.2)
  | .iload i => Nat.beq q.2.1 2 && Nat.beq i q.2.2.2.1
  | .lload i => Nat.beq q.2.1 2 && Nat.beq i q.2.2.2.1
  | .aload i => Nat.beq q.2.1 2 && Nat.beq i q.2.2.2.1
  | .istore i => Nat.beq q.2.1 2 && Nat.beq i q.2.2.2.1
  | .lstore i => Nat.beq q.2.1 2 && Nat.beq i q.2.2.2.1
  | .astore i => Nat.beq q.2.1 2 && Nat.beq i q.2.2.2.1
  | .iload_n i => Nat.beq q.2.1 1 && Nat.beq i.val q.2.2.2.1
  | .lload_n i => Nat.beq q.2.1 1 && Nat.beq i.val q.2.2.2.1
  | .aload_n i => Nat.beq q.2.1 1 && Nat.beq i.val q.2.2.2.1
  | .istore_n i => Nat.beq q.2.1 1 && Nat.beq i.val q.2.2.2.1
  | .lstore_n i => Nat.beq q.2.1 1 && Nat.beq i.val q.2.2.2.1
  | .astore_n i => Nat.beq q.2.1 1 && Nat.beq i.val q.2.2.2.1
  | .iinc i n => Nat.beq q.2.1 3 && (Nat.beq i q.2.2.2.1 && decide (n = q.2.2.2.2.2))
  | .getfield i => Nat.beq q.2.1 3 && (Nat.blt q.2.2.2.1 13 && (Nat.blt q.2.2.2.2.1 (mo_num q.2.2.2.1) && mo_gB (mo_fl own i q.2.2.2.1 q.2.2.2.2.1)))
  | .putfield i => Nat.beq q.2.1 3 && (Nat.blt q.2.2.2.1 13 && (Nat.blt q.2.2.2.2.1 (mo_num q.2.2.2.1) && mo_gB (mo_fl own i q.2.2.2.1 q.2.2.2.2.1)))
  | .getstatic i => Nat.beq q.2.1 3 && (mo_gB (.fieldLink own i "MadeOf" "VERSION_SCALE" "[I") || (decide (own = RX7) && Nat.beq i 76))
  | .ifCond _ f => Nat.beq q.2.1 3 && decide ((q.1 : Int) + f = (q.2.2.2.1 : Int))
  | .if_icmp _ f => Nat.beq q.2.1 3 && decide ((q.1 : Int) + f = (q.2.2.2.1 : Int))
  | .goto f => Nat.beq q.2.1 3 && decide ((q.1 : Int) + f = (q.2.2.2.1 : Int))
  | .tableswitch d lo hi offs => decide ((hi - lo).toNat < offs.size ∧ 0 ≤ (q.1 : Int) + d ∧ ∀ o ∈ offs.toList, 0 ≤ (q.1 : Int) + o)
  | .invokevirtual _ => Nat.beq q.2.1 3
  | .invokestatic _ => Nat.beq q.2.1 3
  | _ => Nat.beq q.2.1 1
/-- what a call's contract gives its caller -/
def mo_cok (g : mo_E) (mt : mo_T) (C : mo_C) : Prop := ∀ (pc : Nat), decode mt.1 pc = .ok (bif C.2.1 then .invokevirtual C.2.2.1 else .invokestatic C.2.2.1, 3) → ∀ (Q : mo_Q) (ls : mo_L) (as rest : List mo_V) (σ : mo_M), as.length = C.1 → mo_cat rest ≤ 8 →
  ((C.2.1 && Nat.blt C.2.2.2.1 50) = true → ∃ (o w : Nat) (r : List mo_V), as = .inr (.inr (o, w)) :: r ∧ mo_isO o C.2.2.2.1 = true ∧ (o, w) ∈ mo_ps) →
  C.2.2.2.2 as σ (fun x σ' => mo_X g mt Q (pc + 3) ls (mo_psh x rest) σ') → mo_X g mt Q pc ls (as.reverse ++ rest) σ
-- shapes
theorem mo_1i_of {st : List mo_V} {f : Int32 → List mo_V → Prop} (h : mo_1i st f) : ∃ x r, st = .inl x :: r ∧ f x r := by
  unfold mo_1i at h
  split at h
  · exact ⟨_, _, rfl, h⟩
  · exact h.elim
theorem mo_2i_of {st : List mo_V} {f : Int32 → Int32 → List mo_V → Prop} (h : mo_2i st f) : ∃ x y r, st = .inl y :: .inl x :: r ∧ f x y r := by
  unfold mo_2i at h
  split at h
  · exact ⟨_, _, _, rfl, h⟩
  · exact h.elim
theorem mo_1l_of {st : List mo_V} {f : Int64 → List mo_V → Prop} (h : mo_1l st f) : ∃ x r, st = .inr (.inl x) :: r ∧ f x r := by
  unfold mo_1l at h
  split at h
  · exact ⟨_, _, rfl, h⟩
  · exact h.elim
theorem mo_2l_of {st : List mo_V} {f : Int64 → Int64 → List mo_V → Prop} (h : mo_2l st f) : ∃ x y r, st = .inr (.inl y) :: .inr (.inl x) :: r ∧ f x y r := by
  unfold mo_2l at h
  split at h
  · exact ⟨_, _, _, rfl, h⟩
  · exact h.elim
theorem mo_li_of {st : List mo_V} {f : Int64 → Int32 → List mo_V → Prop} (h : mo_li st f) : ∃ x y r, st = .inl y :: .inr (.inl x) :: r ∧ f x y r := by
  unfold mo_li at h
  split at h
  · exact ⟨_, _, _, rfl, h⟩
  · exact h.elim
theorem mo_1r_of {st : List mo_V} {f : Nat → Nat → List mo_V → Prop} (h : mo_1r st f) : ∃ o w r, st = .inr (.inr (o, w)) :: r ∧ f o w r := by
  unfold mo_1r at h
  split at h
  · exact ⟨_, _, _, rfl, h⟩
  · exact h.elim
theorem mo_ri_of {st : List mo_V} {f : Nat → Nat → Int32 → List mo_V → Prop} (h : mo_ri st f) : ∃ o w i r, st = .inl i :: .inr (.inr (o, w)) :: r ∧ f o w i r := by
  unfold mo_ri at h
  split at h
  · exact ⟨_, _, _, _, rfl, h⟩
  · exact h.elim
theorem mo_rii_of {st : List mo_V} {f : Nat → Nat → Int32 → Int32 → List mo_V → Prop} (h : mo_rii st f) : ∃ o w i x r, st = .inl x :: .inl i :: .inr (.inr (o, w)) :: r ∧ f o w i x r := by
  unfold mo_rii at h
  split at h
  · exact ⟨_, _, _, _, _, rfl, h⟩
  · exact h.elim
theorem mo_ril_of {st : List mo_V} {f : Nat → Nat → Int32 → Int64 → List mo_V → Prop} (h : mo_ril st f) : ∃ o w i x r, st = .inr (.inl x) :: .inl i :: .inr (.inr (o, w)) :: r ∧ f o w i x r := by
  unfold mo_ril at h
  split at h
  · exact ⟨_, _, _, _, _, rfl, h⟩
  · exact h.elim
theorem mo_ldi_of {ls : mo_L} {i : Nat} {f : Int32 → Prop} (h : mo_ldi ls i f) : ∃ x, mo_lk ls i = some (.inl x) ∧ f x := by
  unfold mo_ldi at h
  split at h
  next x e => exact ⟨x, e, h⟩
  next => exact h.elim
theorem mo_ldl_of {ls : mo_L} {i : Nat} {f : Int64 → Prop} (h : mo_ldl ls i f) : ∃ x, mo_lk ls i = some (.inr (.inl x)) ∧ f x := by
  unfold mo_ldl at h
  split at h
  next x e => exact ⟨x, e, h⟩
  next => exact h.elim
theorem mo_ldr_of {ls : mo_L} {i : Nat} {f : Nat → Nat → Prop} (h : mo_ldr ls i f) : ∃ o w, mo_lk ls i = some (.inr (.inr (o, w))) ∧ f o w := by
  unfold mo_ldr at h
  split at h
  next o w e => exact ⟨o, w, e, h⟩
  next => exact h.elim
theorem mo_isO_of {o ci : Nat} (h : mo_isO o ci = true) : mo_kd o = (0, ci) := by
  unfold mo_isO at h
  rw [Bool.and_eq_true] at h
  have h1 := Nat.eq_of_beq_eq_true h.1
  have h2 := Nat.eq_of_beq_eq_true h.2
  exact Prod.ext h1 h2
theorem mo_kd_of {o f : Nat} (h : Nat.beq (mo_kd o).1 f = true) : mo_kd o = (f, (mo_kd o).2) := Prod.ext (Nat.eq_of_beq_eq_true h) rfl
/-- of each class: its table is among the words, its ints may be written -/
def mo_clB (r : vw_C) (n ci : Nat) : Bool := decide (r.2.2 = n) && ((u_ws r.1 r.2.1 r.2.2).all mo_gB && (List.range n).all fun k => mo_ref ci k || (decide ((r.2.1 k).2.2.1 = "I") && !(r.2.1 k).2.2.2))
theorem mo_cl_ok : ∀ ci, ci < 13 → (match vwCl[ci]?, mo_at mo_tbs ci with
    | some r, some _ => mo_clB r (mo_num ci) ci
    | _, _ => false) = true := by decide +kernel
theorem mo_nm : ∀ ci, ci < 13 → ∀ r, vwCl[ci]? = some r → mo_at mo_tbs ci = some r.2.1 ∧ (∃ ty : Nat → FieldType, ∀ k, k < r.2.2 → parseFieldDescriptor (r.2.1 k).2.2.1 = some (ty k)) ∧ ∀ a, a < r.2.2 → ∀ b, b < r.2.2 → a ≠ b → (r.2.1 a).2.1 ≠ (r.2.1 b).2.1 := by
  intro ci h r hr
  rcases (show ci = 0 ∨ ci = 1 ∨ ci = 2 ∨ ci = 3 ∨ ci = 4 ∨ ci = 5 ∨ ci = 6 ∨ ci = 7 ∨ ci = 8 ∨ ci = 9 ∨ ci = 10 ∨ ci = 11 ∨ ci = 12 by omega) with rfl | rfl | rfl | rfl | rfl | rfl | rfl | rfl | rfl | rfl | rfl | rfl | rfl
  · cases hr; exact ⟨rfl, ⟨tyX0, tyX0_ok⟩, nmX0⟩
  · cases hr; exact ⟨rfl, ⟨tyX1, tyX1_ok⟩, nmX1⟩
  · cases hr; exact ⟨rfl, ⟨tyX2, tyX2_ok⟩, nmX2⟩
  · cases hr; exact ⟨rfl, ⟨tyX3, tyX3_ok⟩, nmX3⟩
  · cases hr; exact ⟨rfl, ⟨tyX4, tyX4_ok⟩, nmX4⟩
  · cases hr; exact ⟨rfl, ⟨tyX5, tyX5_ok⟩, nmX5⟩
  · cases hr; exact ⟨rfl, ⟨tyX6, tyX6_ok⟩, nmX6⟩
  · cases hr; exact ⟨rfl, ⟨tyX7, tyX7_ok⟩, nmX7⟩
  · cases hr; exact ⟨rfl, ⟨tyX8, tyX8_ok⟩, nmX8⟩
  · cases hr; exact ⟨rfl, ⟨tyX9, tyX9_ok⟩, nmX9⟩
  · cases hr; exact ⟨rfl, ⟨tyX10, tyX10_ok⟩, nmX10⟩
  · cases hr; exact ⟨rfl, ⟨tyX11, tyX11_ok⟩, nmX11⟩
  · cases hr; exact ⟨rfl, ⟨tyX12, tyX12_ok⟩, nmX12⟩
theorem mo_cls {ci : Nat} (h : ci < 13) : ∃ (C : String) (T : u_T) (ty : Nat → FieldType), vwCl[ci]? = some (C, T, mo_num ci) ∧ mo_at mo_tbs ci = some T ∧ (∀ w ∈ u_ws C T (mo_num ci), w ∈ mo_gw) ∧ (∀ k, k < mo_num ci → parseFieldDescriptor (T k).2.2.1 = some (ty k)) ∧ (∀ a, a < mo_num ci → ∀ b, b < mo_num ci → a ≠ b → (T a).2.1 ≠ (T b).2.1) ∧ ∀ k, k < mo_num ci → mo_ref ci k = false → (T k).2.2.1 = "I" ∧ (T k).2.2.2 = false := by
  have h0 := mo_cl_ok ci h
  cases hr : vwCl[ci]? with
  | none => rw [hr] at h0; cases h0
  | some r =>
    obtain ⟨h1, ⟨ty, h2⟩, h3⟩ := mo_nm ci h r hr
    rw [hr, h1] at h0
    obtain ⟨C, T, N⟩ := r
    dsimp only at h0 h1 h2 h3
    unfold mo_clB at h0
    simp only [Bool.and_eq_true] at h0
    obtain ⟨e, h4, h5⟩ := h0
    have e := of_decide_eq_true e
    subst e
    refine ⟨C, T, ty, rfl, h1, fun w hw => mo_gB_of (List.all_eq_true.mp h4 w hw), h2, h3, fun k hk hf => ?_⟩
    have h6 := List.all_eq_true.mp h5 k (List.mem_range.mpr hk)
    rw [hf] at h6
    simp only [Bool.false_or, Bool.and_eq_true, Bool.not_eq_true'] at h6
    exact ⟨of_decide_eq_true h6.1, h6.2⟩
theorem mo_fl_of {own : String} {i a b : Nat} {T : u_T} (h : mo_at mo_tbs a = some T) (hw : mo_gB (mo_fl own i a b) = true) : Cond.fieldLink own i (T b).1 (T b).2.1 (T b).2.2.1 ∈ mo_gw := by
  unfold mo_fl at hw
  rw [h] at hw
  exact mo_gB_of hw
set_option maxHeartbeats 4000000 in
theorem mo_o_iconst {g : mo_E} {mt : mo_T} {Q : mo_Q} {cs : Nat → mo_C} {K : mo_K} {k : mo_k} {pc len a b : Nat} {ci : Int} {ls : mo_L} {st : List mo_V} {σ : mo_M} {n : Int} (hd : decode mt.1 pc = .ok (.iconst n, len)) (hc : mo_ck mt.2.1 (pc, len, .iconst n, a, b, ci) = true) (hK : ∀ pc ls st σ, K pc ls st σ → mo_X g mt Q pc ls st σ) (hk : ∀ ls st σ, k ls st σ → mo_X g mt Q (pc + len) ls st σ) (h : mo_op g.2.2.2.2 mt.2.2.1 mt.2.2.2.1 cs K Q (pc, len, .iconst n, a, b, ci) k ls st σ) : mo_X g mt Q pc ls st σ := by
  simp only [mo_ck, Bool.and_eq_true] at hc
  simp only [mo_op] at h
  have hlen : len = 1 := Nat.eq_of_beq_eq_true hc.1
  subst hlen
  have hv : n = ci := of_decide_eq_true hc.2
  subst hv
  intro p l e s m args below meth c cells slots QQ C H locs A hP hS hl
  obtain ⟨hx, hb, hml, hown, hw, hok, hcs, hret⟩ := id C
  exact lv_iconst hx hb hd rfl (hk _ _ _ h p l e s m args below meth c cells slots QQ C H locs A hP hS hl)
set_option maxHeartbeats 4000000 in
theorem mo_o_bipush {g : mo_E} {mt : mo_T} {Q : mo_Q} {cs : Nat → mo_C} {K : mo_K} {k : mo_k} {pc len a b : Nat} {ci : Int} {ls : mo_L} {st : List mo_V} {σ : mo_M} {n : Int} (hd : decode mt.1 pc = .ok (.bipush n, len)) (hc : mo_ck mt.2.1 (pc, len, .bipush n, a, b, ci) = true) (hK : ∀ pc ls st σ, K pc ls st σ → mo_X g mt Q pc ls st σ) (hk : ∀ ls st σ, k ls st σ → mo_X g mt Q (pc + len) ls st σ) (h : mo_op g.2.2.2.2 mt.2.2.1 mt.2.2.2.1 cs K Q (pc, len, .bipush n, a, b, ci) k ls st σ) : mo_X g mt Q pc ls st σ := by
  simp only [mo_ck, Bool.and_eq_true] at hc
  simp only [mo_op] at h
  have hlen : len = 2 := Nat.eq_of_beq_eq_true hc.1
  subst hlen
  intro p l e s m args below meth c cells slots QQ C H locs A hP hS hl
  obtain ⟨hx, hb, hml, hown, hw, hok, hcs, hret⟩ := id C
  exact lv_bipush hx hb hd (of_decide_eq_true hc.2) (hk _ _ _ h p l e s m args below meth c cells slots QQ C H locs A hP hS hl)
set_option maxHeartbeats 4000000 in
theorem mo_o_sipush {g : mo_E} {mt : mo_T} {Q : mo_Q} {cs : Nat → mo_C} {K : mo_K} {k : mo_k} {pc len a b : Nat} {ci : Int} {ls : mo_L} {st : List mo_V} {σ : mo_M} {n : Int} (hd : decode mt.1 pc = .ok (.sipush n, len)) (hc : mo_ck mt.2.1 (pc, len, .sipush n, a, b, ci) = true) (hK : ∀ pc ls st σ, K pc ls st σ → mo_X g mt Q pc ls st σ) (hk : ∀ ls st σ, k ls st σ → mo_X g mt Q (pc + len) ls st σ) (h : mo_op g.2.2.2.2 mt.2.2.1 mt.2.2.2.1 cs K Q (pc, len, .sipush n, a, b, ci) k ls st σ) : mo_X g mt Q pc ls st σ := by
  simp only [mo_ck, Bool.and_eq_true] at hc
  simp only [mo_op] at h
  have hlen : len = 3 := Nat.eq_of_beq_eq_true hc.1
  subst hlen
  intro p l e s m args below meth c cells slots QQ C H locs A hP hS hl
  obtain ⟨hx, hb, hml, hown, hw, hok, hcs, hret⟩ := id C
  exact lv_sipush hx hb hd (of_decide_eq_true hc.2) (hk _ _ _ h p l e s m args below meth c cells slots QQ C H locs A hP hS hl)
set_option maxHeartbeats 4000000 in
theorem mo_o_lconst {g : mo_E} {mt : mo_T} {Q : mo_Q} {cs : Nat → mo_C} {K : mo_K} {k : mo_k} {pc len a b : Nat} {ci : Int} {ls : mo_L} {st : List mo_V} {σ : mo_M} {n : Fin 2} (hd : decode mt.1 pc = .ok (.lconst n, len)) (hc : mo_ck mt.2.1 (pc, len, .lconst n, a, b, ci) = true) (hK : ∀ pc ls st σ, K pc ls st σ → mo_X g mt Q pc ls st σ) (hk : ∀ ls st σ, k ls st σ → mo_X g mt Q (pc + len) ls st σ) (h : mo_op g.2.2.2.2 mt.2.2.1 mt.2.2.2.1 cs K Q (pc, len, .lconst n, a, b, ci) k ls st σ) : mo_X g mt Q pc ls st σ := by
  simp only [mo_ck, Bool.and_eq_true] at hc
  simp only [mo_op] at h
  have hlen : len = 1 := Nat.eq_of_beq_eq_true hc.1
  subst hlen
  intro p l e s m args below meth c cells slots QQ C H locs A hP hS hl
  obtain ⟨hx, hb, hml, hown, hw, hok, hcs, hret⟩ := id C
  exact lv_lconst hx hb hd (of_decide_eq_true hc.2) (hk _ _ _ h p l e s m args below meth c cells slots QQ C H locs A hP hS hl)
set_option maxHeartbeats 4000000 in
theorem mo_o_ldc {g : mo_E} {mt : mo_T} {Q : mo_Q} {cs : Nat → mo_C} {K : mo_K} {k : mo_k} {pc len a b : Nat} {ci : Int} {ls : mo_L} {st : List mo_V} {σ : mo_M} {i : Nat} (hd : decode mt.1 pc = .ok (.ldc i, len)) (hc : mo_ck mt.2.1 (pc, len, .ldc i, a, b, ci) = true) (hK : ∀ pc ls st σ, K pc ls st σ → mo_X g mt Q pc ls st σ) (hk : ∀ ls st σ, k ls st σ → mo_X g mt Q (pc + len) ls st σ) (h : mo_op g.2.2.2.2 mt.2.2.1 mt.2.2.2.1 cs K Q (pc, len, .ldc i, a, b, ci) k ls st σ) : mo_X g mt Q pc ls st σ := by
  simp only [mo_ck, Bool.and_eq_true] at hc
  simp only [mo_op] at h
  have hlen : len = 2 := Nat.eq_of_beq_eq_true hc.1
  subst hlen
  intro p l e s m args below meth c cells slots QQ C H locs A hP hS hl
  obtain ⟨hx, hb, hml, hown, hw, hok, hcs, hret⟩ := id C
  have hc2 := hc.2
  cases ha : Nat.beq a 0 with
  | true =>
    rw [ha] at h hc2
    simp only [cond_true] at hc2
    exact lv_ldc hx hb hown (hw _ (mo_gB_of hc2)) hd (hk _ _ _ h p l e s m args below meth c cells slots QQ C H locs A hP hS hl)
  | false =>
    rw [ha] at h hc2
    simp only [cond_false, Bool.and_eq_true] at hc2
    obtain ⟨x, hx1, hx2⟩ := List.any_eq_true.mp hc2.2
    rw [Bool.and_eq_true] at hx2
    have e1 := Nat.eq_of_beq_eq_true hx2.1
    have e2 := Nat.eq_of_beq_eq_true hx2.2
    subst e1; subst e2
    have hz := hok.2.2.2.2.2.2.2.1 x hx1
    have ho : s.vm.findClass RX7 = some m.cls := by rw [← of_decide_eq_true hc2.1]; exact hown
    exact va_ldcS hx hb ho hz hd (hk _ _ _ h p l e s m args below meth c cells slots QQ C H locs A hP hS hl)
set_option maxHeartbeats 4000000 in
theorem mo_o_ldc_w {g : mo_E} {mt : mo_T} {Q : mo_Q} {cs : Nat → mo_C} {K : mo_K} {k : mo_k} {pc len a b : Nat} {ci : Int} {ls : mo_L} {st : List mo_V} {σ : mo_M} {i : Nat} (hd : decode mt.1 pc = .ok (.ldc_w i, len)) (hc : mo_ck mt.2.1 (pc, len, .ldc_w i, a, b, ci) = true) (hK : ∀ pc ls st σ, K pc ls st σ → mo_X g mt Q pc ls st σ) (hk : ∀ ls st σ, k ls st σ → mo_X g mt Q (pc + len) ls st σ) (h : mo_op g.2.2.2.2 mt.2.2.1 mt.2.2.2.1 cs K Q (pc, len, .ldc_w i, a, b, ci) k ls st σ) : mo_X g mt Q pc ls st σ := by
  simp only [mo_ck, Bool.and_eq_true] at hc
  simp only [mo_op] at h
  have hlen : len = 3 := Nat.eq_of_beq_eq_true hc.1
  subst hlen
  intro p l e s m args below meth c cells slots QQ C H locs A hP hS hl
  obtain ⟨hx, hb, hml, hown, hw, hok, hcs, hret⟩ := id C
  exact lv_ldcw hx hb hown (hw _ (mo_gB_of hc.2)) hd (hk _ _ _ h p l e s m args below meth c cells slots QQ C H locs A hP hS hl)
set_option maxHeartbeats 4000000 in
theorem mo_o_ldc2_w {g : mo_E} {mt : mo_T} {Q : mo_Q} {cs : Nat → mo_C} {K : mo_K} {k : mo_k} {pc len a b : Nat} {ci : Int} {ls : mo_L} {st : List mo_V} {σ : mo_M} {i : Nat} (hd : decode mt.1 pc = .ok (.ldc2_w i, len)) (hc : mo_ck mt.2.1 (pc, len, .ldc2_w i, a, b, ci) = true) (hK : ∀ pc ls st σ, K pc ls st σ → mo_X g mt Q pc ls st σ) (hk : ∀ ls st σ, k ls st σ → mo_X g mt Q (pc + len) ls st σ) (h : mo_op g.2.2.2.2 mt.2.2.1 mt.2.2.2.1 cs K Q (pc, len, .ldc2_w i, a, b, ci) k ls st σ) : mo_X g mt Q pc ls st σ := by
  simp only [mo_ck, Bool.and_eq_true] at hc
  simp only [mo_op] at h
  have hlen : len = 3 := Nat.eq_of_beq_eq_true hc.1
  subst hlen
  intro p l e s m args below meth c cells slots QQ C H locs A hP hS hl
  obtain ⟨hx, hb, hml, hown, hw, hok, hcs, hret⟩ := id C
  exact lv_ldc2 hx hb hown (hw _ (mo_gB_of hc.2)) hd (hk _ _ _ h p l e s m args below meth c cells slots QQ C H locs A hP hS hl)
set_option maxHeartbeats 4000000 in
theorem mo_o_iload {g : mo_E} {mt : mo_T} {Q : mo_Q} {cs : Nat → mo_C} {K : mo_K} {k : mo_k} {pc len a b : Nat} {ci : Int} {ls : mo_L} {st : List mo_V} {σ : mo_M} {i : Nat} (hd : decode mt.1 pc = .ok (.iload i, len)) (hc : mo_ck mt.2.1 (pc, len, .iload i, a, b, ci) = true) (hK : ∀ pc ls st σ, K pc ls st σ → mo_X g mt Q pc ls st σ) (hk : ∀ ls st σ, k ls st σ → mo_X g mt Q (pc + len) ls st σ) (h : mo_op g.2.2.2.2 mt.2.2.1 mt.2.2.2.1 cs K Q (pc, len, .iload i, a, b, ci) k ls st σ) : mo_X g mt Q pc ls st σ := by
  simp only [mo_ck, Bool.and_eq_true] at hc
  simp only [mo_op] at h
  have hlen : len = 2 := Nat.eq_of_beq_eq_true hc.1
  subst hlen
  have hv := Nat.eq_of_beq_eq_true hc.2
  subst hv
  obtain ⟨x, hy, h⟩ := mo_ldi_of h
  intro p l e s m args below meth c cells slots QQ C H locs A hP hS hl
  obtain ⟨hx, hb, hml, hown, hw, hok, hcs, hret⟩ := id C
  exact lv_iload hx hb hd (mo_lv hl hy) (hk _ _ _ h p l e s m args below meth c cells slots QQ C H locs A hP hS hl)
set_option maxHeartbeats 4000000 in
theorem mo_o_iload_n {g : mo_E} {mt : mo_T} {Q : mo_Q} {cs : Nat → mo_C} {K : mo_K} {k : mo_k} {pc len a b : Nat} {ci : Int} {ls : mo_L} {st : List mo_V} {σ : mo_M} {i : Fin 4} (hd : decode mt.1 pc = .ok (.iload_n i, len)) (hc : mo_ck mt.2.1 (pc, len, .iload_n i, a, b, ci) = true) (hK : ∀ pc ls st σ, K pc ls st σ → mo_X g mt Q pc ls st σ) (hk : ∀ ls st σ, k ls st σ → mo_X g mt Q (pc + len) ls st σ) (h : mo_op g.2.2.2.2 mt.2.2.1 mt.2.2.2.1 cs K Q (pc, len, .iload_n i, a, b, ci) k ls st σ) : mo_X g mt Q pc ls st σ := by
  simp only [mo_ck, Bool.and_eq_true] at hc
  simp only [mo_op] at h
  have hlen : len = 1 := Nat.eq_of_beq_eq_true hc.1
  subst hlen
  have hv := Nat.eq_of_beq_eq_true hc.2
  subst hv
  obtain ⟨x, hy, h⟩ := mo_ldi_of h
  intro p l e s m args below meth c cells slots QQ C H locs A hP hS hl
  obtain ⟨hx, hb, hml, hown, hw, hok, hcs, hret⟩ := id C
  exact lv_iload_n hx hb hd rfl (mo_lv hl hy) (hk _ _ _ h p l e s m args below meth c cells slots QQ C H locs A hP hS hl)
set_option maxHeartbeats 4000000 in
theorem mo_o_lload {g : mo_E} {mt : mo_T} {Q : mo_Q} {cs : Nat → mo_C} {K : mo_K} {k : mo_k} {pc len a b : Nat} {ci : Int} {ls : mo_L} {st : List mo_V} {σ : mo_M} {i : Nat} (hd : decode mt.1 pc = .ok (.lload i, len)) (hc : mo_ck mt.2.1 (pc, len, .lload i, a, b, ci) = true) (hK : ∀ pc ls st σ, K pc ls st σ → mo_X g mt Q pc ls st σ) (hk : ∀ ls st σ, k ls st σ → mo_X g mt Q (pc + len) ls st σ) (h : mo_op g.2.2.2.2 mt.2.2.1 mt.2.2.2.1 cs K Q (pc, len, .lload i, a, b, ci) k ls st σ) : mo_X g mt Q pc ls st σ := by
  simp only [mo_ck, Bool.and_eq_true] at hc
  simp only [mo_op] at h
  have hlen : len = 2 := Nat.eq_of_beq_eq_true hc.1
  subst hlen
  have hv := Nat.eq_of_beq_eq_true hc.2
  subst hv
  obtain ⟨x, hy, h⟩ := mo_ldl_of h
  intro p l e s m args below meth c cells slots QQ C H locs A hP hS hl
  obtain ⟨hx, hb, hml, hown, hw, hok, hcs, hret⟩ := id C
  exact lv_lload hx hb hd (mo_lv hl hy) (hk _ _ _ h p l e s m args below meth c cells slots QQ C H locs A hP hS hl)
set_option maxHeartbeats 4000000 in
theorem mo_o_lload_n {g : mo_E} {mt : mo_T} {Q : mo_Q} {cs : Nat → mo_C} {K : mo_K} {k : mo_k} {pc len a b : Nat} {ci : Int} {ls : mo_L} {st : List mo_V} {σ : mo_M} {i : Fin 4} (hd : decode mt.1 pc = .ok (.lload_n i, len)) (hc : mo_ck mt.2.1 (pc, len, .lload_n i, a, b, ci) = true) (hK : ∀ pc ls st σ, K pc ls st σ → mo_X g mt Q pc ls st σ) (hk : ∀ ls st σ, k ls st σ → mo_X g mt Q (pc + len) ls st σ) (h : mo_op g.2.2.2.2 mt.2.2.1 mt.2.2.2.1 cs K Q (pc, len, .lload_n i, a, b, ci) k ls st σ) : mo_X g mt Q pc ls st σ := by
  simp only [mo_ck, Bool.and_eq_true] at hc
  simp only [mo_op] at h
  have hlen : len = 1 := Nat.eq_of_beq_eq_true hc.1
  subst hlen
  have hv := Nat.eq_of_beq_eq_true hc.2
  subst hv
  obtain ⟨x, hy, h⟩ := mo_ldl_of h
  intro p l e s m args below meth c cells slots QQ C H locs A hP hS hl
  obtain ⟨hx, hb, hml, hown, hw, hok, hcs, hret⟩ := id C
  exact lv_lload_n hx hb hd rfl (mo_lv hl hy) (hk _ _ _ h p l e s m args below meth c cells slots QQ C H locs A hP hS hl)
set_option maxHeartbeats 4000000 in
theorem mo_o_aload {g : mo_E} {mt : mo_T} {Q : mo_Q} {cs : Nat → mo_C} {K : mo_K} {k : mo_k} {pc len a b : Nat} {ci : Int} {ls : mo_L} {st : List mo_V} {σ : mo_M} {i : Nat} (hd : decode mt.1 pc = .ok (.aload i, len)) (hc : mo_ck mt.2.1 (pc, len, .aload i, a, b, ci) = true) (hK : ∀ pc ls st σ, K pc ls st σ → mo_X g mt Q pc ls st σ) (hk : ∀ ls st σ, k ls st σ → mo_X g mt Q (pc + len) ls st σ) (h : mo_op g.2.2.2.2 mt.2.2.1 mt.2.2.2.1 cs K Q (pc, len, .aload i, a, b, ci) k ls st σ) : mo_X g mt Q pc ls st σ := by
  simp only [mo_ck, Bool.and_eq_true] at hc
  simp only [mo_op] at h
  have hlen : len = 2 := Nat.eq_of_beq_eq_true hc.1
  subst hlen
  have hv := Nat.eq_of_beq_eq_true hc.2
  subst hv
  obtain ⟨o, w, hy, h⟩ := mo_ldr_of h
  intro p l e s m args below meth c cells slots QQ C H locs A hP hS hl
  obtain ⟨hx, hb, hml, hown, hw, hok, hcs, hret⟩ := id C
  exact lv_aload hx hb hd (mo_lv hl hy) (hk _ _ _ h p l e s m args below meth c cells slots QQ C H locs A hP hS hl)
set_option maxHeartbeats 4000000 in
theorem mo_o_aload_n {g : mo_E} {mt : mo_T} {Q : mo_Q} {cs : Nat → mo_C} {K : mo_K} {k : mo_k} {pc len a b : Nat} {ci : Int} {ls : mo_L} {st : List mo_V} {σ : mo_M} {i : Fin 4} (hd : decode mt.1 pc = .ok (.aload_n i, len)) (hc : mo_ck mt.2.1 (pc, len, .aload_n i, a, b, ci) = true) (hK : ∀ pc ls st σ, K pc ls st σ → mo_X g mt Q pc ls st σ) (hk : ∀ ls st σ, k ls st σ → mo_X g mt Q (pc + len) ls st σ) (h : mo_op g.2.2.2.2 mt.2.2.1 mt.2.2.2.1 cs K Q (pc, len, .aload_n i, a, b, ci) k ls st σ) : mo_X g mt Q pc ls st σ := by
  simp only [mo_ck, Bool.and_eq_true] at hc
  simp only [mo_op] at h
  have hlen : len = 1 := Nat.eq_of_beq_eq_true hc.1
  subst hlen
  have hv := Nat.eq_of_beq_eq_true hc.2
  subst hv
  obtain ⟨o, w, hy, h⟩ := mo_ldr_of h
  intro p l e s m args below meth c cells slots QQ C H locs A hP hS hl
  obtain ⟨hx, hb, hml, hown, hw, hok, hcs, hret⟩ := id C
  exact lv_aload_n hx hb hd rfl (mo_lv hl hy) (hk _ _ _ h p l e s m args below meth c cells slots QQ C H locs A hP hS hl)
set_option maxHeartbeats 4000000 in
theorem mo_o_istore {g : mo_E} {mt : mo_T} {Q : mo_Q} {cs : Nat → mo_C} {K : mo_K} {k : mo_k} {pc len a b : Nat} {ci : Int} {ls : mo_L} {st : List mo_V} {σ : mo_M} {i : Nat} (hd : decode mt.1 pc = .ok (.istore i, len)) (hc : mo_ck mt.2.1 (pc, len, .istore i, a, b, ci) = true) (hK : ∀ pc ls st σ, K pc ls st σ → mo_X g mt Q pc ls st σ) (hk : ∀ ls st σ, k ls st σ → mo_X g mt Q (pc + len) ls st σ) (h : mo_op g.2.2.2.2 mt.2.2.1 mt.2.2.2.1 cs K Q (pc, len, .istore i, a, b, ci) k ls st σ) : mo_X g mt Q pc ls st σ := by
  simp only [mo_ck, Bool.and_eq_true] at hc
  simp only [mo_op] at h
  have hlen : len = 2 := Nat.eq_of_beq_eq_true hc.1
  subst hlen
  have hv := Nat.eq_of_beq_eq_true hc.2
  subst hv
  obtain ⟨hlt, h⟩ := mo_b_of h
  have hlt := Nat.le_of_ble_eq_true hlt
  obtain ⟨x, r, rfl, h⟩ := mo_1i_of h
  intro p l e s m args below meth c cells slots QQ C H locs A hP hS hl
  obtain ⟨hx, hb, hml, hown, hw, hok, hcs, hret⟩ := id C
  exact lv_istore hx hb hd hl hlt rfl (fun A2 hl2 => hk _ _ _ h p l e s m args below meth c cells slots QQ C H locs A2 hP hS (mo_lst (v := .inl x) hl2))
set_option maxHeartbeats 4000000 in
theorem mo_o_istore_n {g : mo_E} {mt : mo_T} {Q : mo_Q} {cs : Nat → mo_C} {K : mo_K} {k : mo_k} {pc len a b : Nat} {ci : Int} {ls : mo_L} {st : List mo_V} {σ : mo_M} {i : Fin 4} (hd : decode mt.1 pc = .ok (.istore_n i, len)) (hc : mo_ck mt.2.1 (pc, len, .istore_n i, a, b, ci) = true) (hK : ∀ pc ls st σ, K pc ls st σ → mo_X g mt Q pc ls st σ) (hk : ∀ ls st σ, k ls st σ → mo_X g mt Q (pc + len) ls st σ) (h : mo_op g.2.2.2.2 mt.2.2.1 mt.2.2.2.1 cs K Q (pc, len, .istore_n i, a, b, ci) k ls st σ) : mo_X g mt Q pc ls st σ := by
  simp only [mo_ck, Bool.and_eq_true] at hc
  simp only [mo_op] at h
  have hlen : len = 1 := Nat.eq_of_beq_eq_true hc.1
  subst hlen
  have hv := Nat.eq_of_beq_eq_true hc.2
  subst hv
  obtain ⟨hlt, h⟩ := mo_b_of h
  have hlt := Nat.le_of_ble_eq_true hlt
  obtain ⟨x, r, rfl, h⟩ := mo_1i_of h
  intro p l e s m args below meth c cells slots QQ C H locs A hP hS hl
  obtain ⟨hx, hb, hml, hown, hw, hok, hcs, hret⟩ := id C
  exact lv_istore_n hx hb hd rfl hl hlt rfl (fun A2 hl2 => hk _ _ _ h p l e s m args below meth c cells slots QQ C H locs A2 hP hS (mo_lst (v := .inl x) hl2))
set_option maxHeartbeats 4000000 in
theorem mo_o_lstore {g : mo_E} {mt : mo_T} {Q : mo_Q} {cs : Nat → mo_C} {K : mo_K} {k : mo_k} {pc len a b : Nat} {ci : Int} {ls : mo_L} {st : List mo_V} {σ : mo_M} {i : Nat} (hd : decode mt.1 pc = .ok (.lstore i, len)) (hc : mo_ck mt.2.1 (pc, len, .lstore i, a, b, ci) = true) (hK : ∀ pc ls st σ, K pc ls st σ → mo_X g mt Q pc ls st σ) (hk : ∀ ls st σ, k ls st σ → mo_X g mt Q (pc + len) ls st σ) (h : mo_op g.2.2.2.2 mt.2.2.1 mt.2.2.2.1 cs K Q (pc, len, .lstore i, a, b, ci) k ls st σ) : mo_X g mt Q pc ls st σ := by
  simp only [mo_ck, Bool.and_eq_true] at hc
  simp only [mo_op] at h
  have hlen : len = 2 := Nat.eq_of_beq_eq_true hc.1
  subst hlen
  have hv := Nat.eq_of_beq_eq_true hc.2
  subst hv
  obtain ⟨hlt, h⟩ := mo_b_of h
  have hlt := Nat.le_of_ble_eq_true hlt
  obtain ⟨x, r, rfl, h⟩ := mo_1l_of h
  intro p l e s m args below meth c cells slots QQ C H locs A hP hS hl
  obtain ⟨hx, hb, hml, hown, hw, hok, hcs, hret⟩ := id C
  exact lv_lstore hx hb hd hl hlt rfl (fun A2 hl2 => hk _ _ _ h p l e s m args below meth c cells slots QQ C H locs A2 hP hS (mo_lst2 (v := .inr (.inl x)) hl2))
set_option maxHeartbeats 4000000 in
theorem mo_o_lstore_n {g : mo_E} {mt : mo_T} {Q : mo_Q} {cs : Nat → mo_C} {K : mo_K} {k : mo_k} {pc len a b : Nat} {ci : Int} {ls : mo_L} {st : List mo_V} {σ : mo_M} {i : Fin 4} (hd : decode mt.1 pc = .ok (.lstore_n i, len)) (hc : mo_ck mt.2.1 (pc, len, .lstore_n i, a, b, ci) = true) (hK : ∀ pc ls st σ, K pc ls st σ → mo_X g mt Q pc ls st σ) (hk : ∀ ls st σ, k ls st σ → mo_X g mt Q (pc + len) ls st σ) (h : mo_op g.2.2.2.2 mt.2.2.1 mt.2.2.2.1 cs K Q (pc, len, .lstore_n i, a, b, ci) k ls st σ) : mo_X g mt Q pc ls st σ := by
  simp only [mo_ck, Bool.and_eq_true] at hc
  simp only [mo_op] at h
  have hlen : len = 1 := Nat.eq_of_beq_eq_true hc.1
  subst hlen
  have hv := Nat.eq_of_beq_eq_true hc.2
  subst hv
  obtain ⟨hlt, h⟩ := mo_b_of h
  have hlt := Nat.le_of_ble_eq_true hlt
  obtain ⟨x, r, rfl, h⟩ := mo_1l_of h
  intro p l e s m args below meth c cells slots QQ C H locs A hP hS hl
  obtain ⟨hx, hb, hml, hown, hw, hok, hcs, hret⟩ := id C
  exact lv_lstore_n hx hb hd rfl hl hlt rfl (fun A2 hl2 => hk _ _ _ h p l e s m args below meth c cells slots QQ C H locs A2 hP hS (mo_lst2 (v := .inr (.inl x)) hl2))
set_option maxHeartbeats 4000000 in
theorem mo_o_astore {g : mo_E} {mt : mo_T} {Q : mo_Q} {cs : Nat → mo_C} {K : mo_K} {k : mo_k} {pc len a b : Nat} {ci : Int} {ls : mo_L} {st : List mo_V} {σ : mo_M} {i : Nat} (hd : decode mt.1 pc = .ok (.astore i, len)) (hc : mo_ck mt.2.1 (pc, len, .astore i, a, b, ci) = true) (hK : ∀ pc ls st σ, K pc ls st σ → mo_X g mt Q pc ls st σ) (hk : ∀ ls st σ, k ls st σ → mo_X g mt Q (pc + len) ls st σ) (h : mo_op g.2.2.2.2 mt.2.2.1 mt.2.2.2.1 cs K Q (pc, len, .astore i, a, b, ci) k ls st σ) : mo_X g mt Q pc ls st σ := by
  simp only [mo_ck, Bool.and_eq_true] at hc
  simp only [mo_op] at h
  have hlen : len = 2 := Nat.eq_of_beq_eq_true hc.1
  subst hlen
  have hv := Nat.eq_of_beq_eq_true hc.2
  subst hv
  obtain ⟨hlt, h⟩ := mo_b_of h
  have hlt := Nat.le_of_ble_eq_true hlt
  obtain ⟨o, w, r, rfl, h⟩ := mo_1r_of h
  intro p l e s m args below meth c cells slots QQ C H locs A hP hS hl
  obtain ⟨hx, hb, hml, hown, hw, hok, hcs, hret⟩ := id C
  exact lv_astore hx hb hd hl hlt rfl (fun A2 hl2 => hk _ _ _ h p l e s m args below meth c cells slots QQ C H locs A2 hP hS (mo_lst (v := .inr (.inr (o, w))) hl2))
set_option maxHeartbeats 4000000 in
theorem mo_o_astore_n {g : mo_E} {mt : mo_T} {Q : mo_Q} {cs : Nat → mo_C} {K : mo_K} {k : mo_k} {pc len a b : Nat} {ci : Int} {ls : mo_L} {st : List mo_V} {σ : mo_M} {i : Fin 4} (hd : decode mt.1 pc = .ok (.astore_n i, len)) (hc : mo_ck mt.2.1 (pc, len, .astore_n i, a, b, ci) = true) (hK : ∀ pc ls st σ, K pc ls st σ → mo_X g mt Q pc ls st σ) (hk : ∀ ls st σ, k ls st σ → mo_X g mt Q (pc + len) ls st σ) (h : mo_op g.2.2.2.2 mt.2.2.1 mt.2.2.2.1 cs K Q (pc, len, .astore_n i, a, b, ci) k ls st σ) : mo_X g mt Q pc ls st σ := by
  simp only [mo_ck, Bool.and_eq_true] at hc
  simp only [mo_op] at h
  have hlen : len = 1 := Nat.eq_of_beq_eq_true hc.1
  subst hlen
  have hv := Nat.eq_of_beq_eq_true hc.2
  subst hv
  obtain ⟨hlt, h⟩ := mo_b_of h
  have hlt := Nat.le_of_ble_eq_true hlt
  obtain ⟨o, w, r, rfl, h⟩ := mo_1r_of h
  intro p l e s m args below meth c cells slots QQ C H locs A hP hS hl
  obtain ⟨hx, hb, hml, hown, hw, hok, hcs, hret⟩ := id C
  exact lv_astore_n hx hb hd rfl hl hlt rfl (fun A2 hl2 => hk _ _ _ h p l e s m args below meth c cells slots QQ C H locs A2 hP hS (mo_lst (v := .inr (.inr (o, w))) hl2))
set_option maxHeartbeats 4000000 in
theorem mo_o_iinc {g : mo_E} {mt : mo_T} {Q : mo_Q} {cs : Nat → mo_C} {K : mo_K} {k : mo_k} {pc len a b : Nat} {ci : Int} {ls : mo_L} {st : List mo_V} {σ : mo_M} {i : Nat} {n : Int} (hd : decode mt.1 pc = .ok (.iinc i n, len)) (hc : mo_ck mt.2.1 (pc, len, .iinc i n, a, b, ci) = true) (hK : ∀ pc ls st σ, K pc ls st σ → mo_X g mt Q pc ls st σ) (hk : ∀ ls st σ, k ls st σ → mo_X g mt Q (pc + len) ls st σ) (h : mo_op g.2.2.2.2 mt.2.2.1 mt.2.2.2.1 cs K Q (pc, len, .iinc i n, a, b, ci) k ls st σ) : mo_X g mt Q pc ls st σ := by
  simp only [mo_ck, Bool.and_eq_true] at hc
  simp only [mo_op] at h
  have hlen : len = 3 := Nat.eq_of_beq_eq_true hc.1
  subst hlen
  have hv := Nat.eq_of_beq_eq_true hc.2.1
  have hn : n = ci := of_decide_eq_true hc.2.2
  subst hv; subst hn
  obtain ⟨hlt, h⟩ := mo_b_of h
  have hlt := Nat.le_of_ble_eq_true hlt
  obtain ⟨x, hy, h⟩ := mo_ldi_of h
  intro p l e s m args below meth c cells slots QQ C H locs A hP hS hl
  obtain ⟨hx, hb, hml, hown, hw, hok, hcs, hret⟩ := id C
  obtain ⟨q0, hq0⟩ := List.getElem?_of_mem ((mo_lp_mem g.2.2.1 ls 0 (i, .int x)).mpr ⟨i, .inl x, hy, by simp [mo_cv]⟩)
  exact lv_iinc hx hb hd hl hq0 rfl hlt rfl (fun A2 hl2 => hk _ _ _ h p l e s m args below meth c cells slots QQ C H locs A2 hP hS (mo_lst (v := .inl (x + Int32.ofInt n)) hl2))
set_option maxHeartbeats 4000000 in
theorem mo_o_iadd {g : mo_E} {mt : mo_T} {Q : mo_Q} {cs : Nat → mo_C} {K : mo_K} {k : mo_k} {pc len a b : Nat} {ci : Int} {ls : mo_L} {st : List mo_V} {σ : mo_M}  (hd : decode mt.1 pc = .ok (.iadd, len)) (hc : mo_ck mt.2.1 (pc, len, .iadd, a, b, ci) = true) (hK : ∀ pc ls st σ, K pc ls st σ → mo_X g mt Q pc ls st σ) (hk : ∀ ls st σ, k ls st σ → mo_X g mt Q (pc + len) ls st σ) (h : mo_op g.2.2.2.2 mt.2.2.1 mt.2.2.2.1 cs K Q (pc, len, .iadd, a, b, ci) k ls st σ) : mo_X g mt Q pc ls st σ := by
  simp only [mo_ck, Bool.and_eq_true] at hc
  simp only [mo_op] at h
  have hlen : len = 1 := Nat.eq_of_beq_eq_true hc
  subst hlen
  obtain ⟨x, y, r, rfl, h⟩ := mo_2i_of h
  intro p l e s m args below meth c cells slots QQ C H locs A hP hS hl
  obtain ⟨hx, hb, hml, hown, hw, hok, hcs, hret⟩ := id C
  exact lv_iadd hx hb hd (hk _ _ _ h p l e s m args below meth c cells slots QQ C H locs A hP hS hl)
set_option maxHeartbeats 4000000 in
theorem mo_o_isub {g : mo_E} {mt : mo_T} {Q : mo_Q} {cs : Nat → mo_C} {K : mo_K} {k : mo_k} {pc len a b : Nat} {ci : Int} {ls : mo_L} {st : List mo_V} {σ : mo_M}  (hd : decode mt.1 pc = .ok (.isub, len)) (hc : mo_ck mt.2.1 (pc, len, .isub, a, b, ci) = true) (hK : ∀ pc ls st σ, K pc ls st σ → mo_X g mt Q pc ls st σ) (hk : ∀ ls st σ, k ls st σ → mo_X g mt Q (pc + len) ls st σ) (h : mo_op g.2.2.2.2 mt.2.2.1 mt.2.2.2.1 cs K Q (pc, len, .isub, a, b, ci) k ls st σ) : mo_X g mt Q pc ls st σ := by
  simp only [mo_ck, Bool.and_eq_true] at hc
  simp only [mo_op] at h
  have hlen : len = 1 := Nat.eq_of_beq_eq_true hc
  subst hlen
  obtain ⟨x, y, r, rfl, h⟩ := mo_2i_of h
  intro p l e s m args below meth c cells slots QQ C H locs A hP hS hl
  obtain ⟨hx, hb, hml, hown, hw, hok, hcs, hret⟩ := id C
  exact lv_isub hx hb hd (hk _ _ _ h p l e s m args below meth c cells slots QQ C H locs A hP hS hl)
set_option maxHeartbeats 4000000 in
theorem mo_o_imul {g : mo_E} {mt : mo_T} {Q : mo_Q} {cs : Nat → mo_C} {K : mo_K} {k : mo_k} {pc len a b : Nat} {ci : Int} {ls : mo_L} {st : List mo_V} {σ : mo_M}  (hd : decode mt.1 pc = .ok (.imul, len)) (hc : mo_ck mt.2.1 (pc, len, .imul, a, b, ci) = true) (hK : ∀ pc ls st σ, K pc ls st σ → mo_X g mt Q pc ls st σ) (hk : ∀ ls st σ, k ls st σ → mo_X g mt Q (pc + len) ls st σ) (h : mo_op g.2.2.2.2 mt.2.2.1 mt.2.2.2.1 cs K Q (pc, len, .imul, a, b, ci) k ls st σ) : mo_X g mt Q pc ls st σ := by
  simp only [mo_ck, Bool.and_eq_true] at hc
  simp only [mo_op] at h
  have hlen : len = 1 := Nat.eq_of_beq_eq_true hc
  subst hlen
  obtain ⟨x, y, r, rfl, h⟩ := mo_2i_of h
  intro p l e s m args below meth c cells slots QQ C H locs A hP hS hl
  obtain ⟨hx, hb, hml, hown, hw, hok, hcs, hret⟩ := id C
  exact lv_imul hx hb hd (hk _ _ _ h p l e s m args below meth c cells slots QQ C H locs A hP hS hl)
set_option maxHeartbeats 4000000 in
theorem mo_o_iand {g : mo_E} {mt : mo_T} {Q : mo_Q} {cs : Nat → mo_C} {K : mo_K} {k : mo_k} {pc len a b : Nat} {ci : Int} {ls : mo_L} {st : List mo_V} {σ : mo_M}  (hd : decode mt.1 pc = .ok (.iand, len)) (hc : mo_ck mt.2.1 (pc, len, .iand, a, b, ci) = true) (hK : ∀ pc ls st σ, K pc ls st σ → mo_X g mt Q pc ls st σ) (hk : ∀ ls st σ, k ls st σ → mo_X g mt Q (pc + len) ls st σ) (h : mo_op g.2.2.2.2 mt.2.2.1 mt.2.2.2.1 cs K Q (pc, len, .iand, a, b, ci) k ls st σ) : mo_X g mt Q pc ls st σ := by
  simp only [mo_ck, Bool.and_eq_true] at hc
  simp only [mo_op] at h
  have hlen : len = 1 := Nat.eq_of_beq_eq_true hc
  subst hlen
  obtain ⟨x, y, r, rfl, h⟩ := mo_2i_of h
  intro p l e s m args below meth c cells slots QQ C H locs A hP hS hl
  obtain ⟨hx, hb, hml, hown, hw, hok, hcs, hret⟩ := id C
  exact lv_iand hx hb hd (hk _ _ _ h p l e s m args below meth c cells slots QQ C H locs A hP hS hl)
set_option maxHeartbeats 4000000 in
theorem mo_o_ior {g : mo_E} {mt : mo_T} {Q : mo_Q} {cs : Nat → mo_C} {K : mo_K} {k : mo_k} {pc len a b : Nat} {ci : Int} {ls : mo_L} {st : List mo_V} {σ : mo_M}  (hd : decode mt.1 pc = .ok (.ior, len)) (hc : mo_ck mt.2.1 (pc, len, .ior, a, b, ci) = true) (hK : ∀ pc ls st σ, K pc ls st σ → mo_X g mt Q pc ls st σ) (hk : ∀ ls st σ, k ls st σ → mo_X g mt Q (pc + len) ls st σ) (h : mo_op g.2.2.2.2 mt.2.2.1 mt.2.2.2.1 cs K Q (pc, len, .ior, a, b, ci) k ls st σ) : mo_X g mt Q pc ls st σ := by
  simp only [mo_ck, Bool.and_eq_true] at hc
  simp only [mo_op] at h
  have hlen : len = 1 := Nat.eq_of_beq_eq_true hc
  subst hlen
  obtain ⟨x, y, r, rfl, h⟩ := mo_2i_of h
  intro p l e s m args below meth c cells slots QQ C H locs A hP hS hl
  obtain ⟨hx, hb, hml, hown, hw, hok, hcs, hret⟩ := id C
  exact lv_ior hx hb hd (hk _ _ _ h p l e s m args below meth c cells slots QQ C H locs A hP hS hl)
set_option maxHeartbeats 4000000 in
theorem mo_o_ixor {g : mo_E} {mt : mo_T} {Q : mo_Q} {cs : Nat → mo_C} {K : mo_K} {k : mo_k} {pc len a b : Nat} {ci : Int} {ls : mo_L} {st : List mo_V} {σ : mo_M}  (hd : decode mt.1 pc = .ok (.ixor, len)) (hc : mo_ck mt.2.1 (pc, len, .ixor, a, b, ci) = true) (hK : ∀ pc ls st σ, K pc ls st σ → mo_X g mt Q pc ls st σ) (hk : ∀ ls st σ, k ls st σ → mo_X g mt Q (pc + len) ls st σ) (h : mo_op g.2.2.2.2 mt.2.2.1 mt.2.2.2.1 cs K Q (pc, len, .ixor, a, b, ci) k ls st σ) : mo_X g mt Q pc ls st σ := by
  simp only [mo_ck, Bool.and_eq_true] at hc
  simp only [mo_op] at h
  have hlen : len = 1 := Nat.eq_of_beq_eq_true hc
  subst hlen
  obtain ⟨x, y, r, rfl, h⟩ := mo_2i_of h
  intro p l e s m args below meth c cells slots QQ C H locs A hP hS hl
  obtain ⟨hx, hb, hml, hown, hw, hok, hcs, hret⟩ := id C
  exact lv_ixor hx hb hd (hk _ _ _ h p l e s m args below meth c cells slots QQ C H locs A hP hS hl)
set_option maxHeartbeats 4000000 in
theorem mo_o_ishl {g : mo_E} {mt : mo_T} {Q : mo_Q} {cs : Nat → mo_C} {K : mo_K} {k : mo_k} {pc len a b : Nat} {ci : Int} {ls : mo_L} {st : List mo_V} {σ : mo_M}  (hd : decode mt.1 pc = .ok (.ishl, len)) (hc : mo_ck mt.2.1 (pc, len, .ishl, a, b, ci) = true) (hK : ∀ pc ls st σ, K pc ls st σ → mo_X g mt Q pc ls st σ) (hk : ∀ ls st σ, k ls st σ → mo_X g mt Q (pc + len) ls st σ) (h : mo_op g.2.2.2.2 mt.2.2.1 mt.2.2.2.1 cs K Q (pc, len, .ishl, a, b, ci) k ls st σ) : mo_X g mt Q pc ls st σ := by
  simp only [mo_ck, Bool.and_eq_true] at hc
  simp only [mo_op] at h
  have hlen : len = 1 := Nat.eq_of_beq_eq_true hc
  subst hlen
  obtain ⟨x, y, r, rfl, h⟩ := mo_2i_of h
  intro p l e s m args below meth c cells slots QQ C H locs A hP hS hl
  obtain ⟨hx, hb, hml, hown, hw, hok, hcs, hret⟩ := id C
  exact lv_ishl hx hb hd (hk _ _ _ h p l e s m args below meth c cells slots QQ C H locs A hP hS hl)
set_option maxHeartbeats 4000000 in
theorem mo_o_ishr {g : mo_E} {mt : mo_T} {Q : mo_Q} {cs : Nat → mo_C} {K : mo_K} {k : mo_k} {pc len a b : Nat} {ci : Int} {ls : mo_L} {st : List mo_V} {σ : mo_M}  (hd : decode mt.1 pc = .ok (.ishr, len)) (hc : mo_ck mt.2.1 (pc, len, .ishr, a, b, ci) = true) (hK : ∀ pc ls st σ, K pc ls st σ → mo_X g mt Q pc ls st σ) (hk : ∀ ls st σ, k ls st σ → mo_X g mt Q (pc + len) ls st σ) (h : mo_op g.2.2.2.2 mt.2.2.1 mt.2.2.2.1 cs K Q (pc, len, .ishr, a, b, ci) k ls st σ) : mo_X g mt Q pc ls st σ := by
  simp only [mo_ck, Bool.and_eq_true] at hc
  simp only [mo_op] at h
  have hlen : len = 1 := Nat.eq_of_beq_eq_true hc
  subst hlen
  obtain ⟨x, y, r, rfl, h⟩ := mo_2i_of h
  intro p l e s m args below meth c cells slots QQ C H locs A hP hS hl
  obtain ⟨hx, hb, hml, hown, hw, hok, hcs, hret⟩ := id C
  exact lv_ishr hx hb hd (hk _ _ _ h p l e s m args below meth c cells slots QQ C H locs A hP hS hl)
set_option maxHeartbeats 4000000 in
theorem mo_o_idiv {g : mo_E} {mt : mo_T} {Q : mo_Q} {cs : Nat → mo_C} {K : mo_K} {k : mo_k} {pc len a b : Nat} {ci : Int} {ls : mo_L} {st : List mo_V} {σ : mo_M}  (hd : decode mt.1 pc = .ok (.idiv, len)) (hc : mo_ck mt.2.1 (pc, len, .idiv, a, b, ci) = true) (hK : ∀ pc ls st σ, K pc ls st σ → mo_X g mt Q pc ls st σ) (hk : ∀ ls st σ, k ls st σ → mo_X g mt Q (pc + len) ls st σ) (h : mo_op g.2.2.2.2 mt.2.2.1 mt.2.2.2.1 cs K Q (pc, len, .idiv, a, b, ci) k ls st σ) : mo_X g mt Q pc ls st σ := by
  simp only [mo_ck, Bool.and_eq_true] at hc
  simp only [mo_op] at h
  have hlen : len = 1 := Nat.eq_of_beq_eq_true hc
  subst hlen
  obtain ⟨x, y, r, rfl, hne, h⟩ := mo_2i_of h
  intro p l e s m args below meth c cells slots QQ C H locs A hP hS hl
  obtain ⟨hx, hb, hml, hown, hw, hok, hcs, hret⟩ := id C
  exact lv_idiv hx hb hd hne (hk _ _ _ h p l e s m args below meth c cells slots QQ C H locs A hP hS hl)
set_option maxHeartbeats 4000000 in
theorem mo_o_irem {g : mo_E} {mt : mo_T} {Q : mo_Q} {cs : Nat → mo_C} {K : mo_K} {k : mo_k} {pc len a b : Nat} {ci : Int} {ls : mo_L} {st : List mo_V} {σ : mo_M}  (hd : decode mt.1 pc = .ok (.irem, len)) (hc : mo_ck mt.2.1 (pc, len, .irem, a, b, ci) = true) (hK : ∀ pc ls st σ, K pc ls st σ → mo_X g mt Q pc ls st σ) (hk : ∀ ls st σ, k ls st σ → mo_X g mt Q (pc + len) ls st σ) (h : mo_op g.2.2.2.2 mt.2.2.1 mt.2.2.2.1 cs K Q (pc, len, .irem, a, b, ci) k ls st σ) : mo_X g mt Q pc ls st σ := by
  simp only [mo_ck, Bool.and_eq_true] at hc
  simp only [mo_op] at h
  have hlen : len = 1 := Nat.eq_of_beq_eq_true hc
  subst hlen
  obtain ⟨x, y, r, rfl, hne, h⟩ := mo_2i_of h
  intro p l e s m args below meth c cells slots QQ C H locs A hP hS hl
  obtain ⟨hx, hb, hml, hown, hw, hok, hcs, hret⟩ := id C
  exact lv_irem hx hb hd hne (hk _ _ _ h p l e s m args below meth c cells slots QQ C H locs A hP hS hl)
set_option maxHeartbeats 4000000 in
theorem mo_o_iushr {g : mo_E} {mt : mo_T} {Q : mo_Q} {cs : Nat → mo_C} {K : mo_K} {k : mo_k} {pc len a b : Nat} {ci : Int} {ls : mo_L} {st : List mo_V} {σ : mo_M}  (hd : decode mt.1 pc = .ok (.iushr, len)) (hc : mo_ck mt.2.1 (pc, len, .iushr, a, b, ci) = true) (hK : ∀ pc ls st σ, K pc ls st σ → mo_X g mt Q pc ls st σ) (hk : ∀ ls st σ, k ls st σ → mo_X g mt Q (pc + len) ls st σ) (h : mo_op g.2.2.2.2 mt.2.2.1 mt.2.2.2.1 cs K Q (pc, len, .iushr, a, b, ci) k ls st σ) : mo_X g mt Q pc ls st σ := by
  simp only [mo_ck, Bool.and_eq_true] at hc
  simp only [mo_op] at h
  have hlen : len = 1 := Nat.eq_of_beq_eq_true hc
  subst hlen
  obtain ⟨x, y, r, rfl, h⟩ := mo_2i_of h
  intro p l e s m args below meth c cells slots QQ C H locs A hP hS hl
  obtain ⟨hx, hb, hml, hown, hw, hok, hcs, hret⟩ := id C
  exact lv_iushr hx hb hd rfl (hk _ _ _ h p l e s m args below meth c cells slots QQ C H locs A hP hS hl)
set_option maxHeartbeats 4000000 in
theorem mo_o_ineg {g : mo_E} {mt : mo_T} {Q : mo_Q} {cs : Nat → mo_C} {K : mo_K} {k : mo_k} {pc len a b : Nat} {ci : Int} {ls : mo_L} {st : List mo_V} {σ : mo_M}  (hd : decode mt.1 pc = .ok (.ineg, len)) (hc : mo_ck mt.2.1 (pc, len, .ineg, a, b, ci) = true) (hK : ∀ pc ls st σ, K pc ls st σ → mo_X g mt Q pc ls st σ) (hk : ∀ ls st σ, k ls st σ → mo_X g mt Q (pc + len) ls st σ) (h : mo_op g.2.2.2.2 mt.2.2.1 mt.2.2.2.1 cs K Q (pc, len, .ineg, a, b, ci) k ls st σ) : mo_X g mt Q pc ls st σ := by
  simp only [mo_ck, Bool.and_eq_true] at hc
  simp only [mo_op] at h
  have hlen : len = 1 := Nat.eq_of_beq_eq_true hc
  subst hlen
  obtain ⟨x, r, rfl, h⟩ := mo_1i_of h
  intro p l e s m args below meth c cells slots QQ C H locs A hP hS hl
  obtain ⟨hx, hb, hml, hown, hw, hok, hcs, hret⟩ := id C
  exact lv_ineg hx hb hd (hk _ _ _ h p l e s m args below meth c cells slots QQ C H locs A hP hS hl)
set_option maxHeartbeats 4000000 in
theorem mo_o_ladd {g : mo_E} {mt : mo_T} {Q : mo_Q} {cs : Nat → mo_C} {K : mo_K} {k : mo_k} {pc len a b : Nat} {ci : Int} {ls : mo_L} {st : List mo_V} {σ : mo_M}  (hd : decode mt.1 pc = .ok (.ladd, len)) (hc : mo_ck mt.2.1 (pc, len, .ladd, a, b, ci) = true) (hK : ∀ pc ls st σ, K pc ls st σ → mo_X g mt Q pc ls st σ) (hk : ∀ ls st σ, k ls st σ → mo_X g mt Q (pc + len) ls st σ) (h : mo_op g.2.2.2.2 mt.2.2.1 mt.2.2.2.1 cs K Q (pc, len, .ladd, a, b, ci) k ls st σ) : mo_X g mt Q pc ls st σ := by
  simp only [mo_ck, Bool.and_eq_true] at hc
  simp only [mo_op] at h
  have hlen : len = 1 := Nat.eq_of_beq_eq_true hc
  subst hlen
  obtain ⟨x, y, r, rfl, h⟩ := mo_2l_of h
  intro p l e s m args below meth c cells slots QQ C H locs A hP hS hl
  obtain ⟨hx, hb, hml, hown, hw, hok, hcs, hret⟩ := id C
  exact lv_ladd hx hb hd (hk _ _ _ h p l e s m args below meth c cells slots QQ C H locs A hP hS hl)
set_option maxHeartbeats 4000000 in
theorem mo_o_land {g : mo_E} {mt : mo_T} {Q : mo_Q} {cs : Nat → mo_C} {K : mo_K} {k : mo_k} {pc len a b : Nat} {ci : Int} {ls : mo_L} {st : List mo_V} {σ : mo_M}  (hd : decode mt.1 pc = .ok (.land, len)) (hc : mo_ck mt.2.1 (pc, len, .land, a, b, ci) = true) (hK : ∀ pc ls st σ, K pc ls st σ → mo_X g mt Q pc ls st σ) (hk : ∀ ls st σ, k ls st σ → mo_X g mt Q (pc + len) ls st σ) (h : mo_op g.2.2.2.2 mt.2.2.1 mt.2.2.2.1 cs K Q (pc, len, .land, a, b, ci) k ls st σ) : mo_X g mt Q pc ls st σ := by
  simp only [mo_ck, Bool.and_eq_true] at hc
  simp only [mo_op] at h
  have hlen : len = 1 := Nat.eq_of_beq_eq_true hc
  subst hlen
  obtain ⟨x, y, r, rfl, h⟩ := mo_2l_of h
  intro p l e s m args below meth c cells slots QQ C H locs A hP hS hl
  obtain ⟨hx, hb, hml, hown, hw, hok, hcs, hret⟩ := id C
  exact lv_land hx hb hd (hk _ _ _ h p l e s m args below meth c cells slots QQ C H locs A hP hS hl)
set_option maxHeartbeats 4000000 in
theorem mo_o_lor {g : mo_E} {mt : mo_T} {Q : mo_Q} {cs : Nat → mo_C} {K : mo_K} {k : mo_k} {pc len a b : Nat} {ci : Int} {ls : mo_L} {st : List mo_V} {σ : mo_M}  (hd : decode mt.1 pc = .ok (.lor, len)) (hc : mo_ck mt.2.1 (pc, len, .lor, a, b, ci) = true) (hK : ∀ pc ls st σ, K pc ls st σ → mo_X g mt Q pc ls st σ) (hk : ∀ ls st σ, k ls st σ → mo_X g mt Q (pc + len) ls st σ) (h : mo_op g.2.2.2.2 mt.2.2.1 mt.2.2.2.1 cs K Q (pc, len, .lor, a, b, ci) k ls st σ) : mo_X g mt Q pc ls st σ := by
  simp only [mo_ck, Bool.and_eq_true] at hc
  simp only [mo_op] at h
  have hlen : len = 1 := Nat.eq_of_beq_eq_true hc
  subst hlen
  obtain ⟨x, y, r, rfl, h⟩ := mo_2l_of h
  intro p l e s m args below meth c cells slots QQ C H locs A hP hS hl
  obtain ⟨hx, hb, hml, hown, hw, hok, hcs, hret⟩ := id C
  exact lv_lor hx hb hd (hk _ _ _ h p l e s m args below meth c cells slots QQ C H locs A hP hS hl)
set_option maxHeartbeats 4000000 in
theorem mo_o_lxor {g : mo_E} {mt : mo_T} {Q : mo_Q} {cs : Nat → mo_C} {K : mo_K} {k : mo_k} {pc len a b : Nat} {ci : Int} {ls : mo_L} {st : List mo_V} {σ : mo_M}  (hd : decode mt.1 pc = .ok (.lxor, len)) (hc : mo_ck mt.2.1 (pc, len, .lxor, a, b, ci) = true) (hK : ∀ pc ls st σ, K pc ls st σ → mo_X g mt Q pc ls st σ) (hk : ∀ ls st σ, k ls st σ → mo_X g mt Q (pc + len) ls st σ) (h : mo_op g.2.2.2.2 mt.2.2.1 mt.2.2.2.1 cs K Q (pc, len, .lxor, a, b, ci) k ls st σ) : mo_X g mt Q pc ls st σ := by
  simp only [mo_ck, Bool.and_eq_true] at hc
  simp only [mo_op] at h
  have hlen : len = 1 := Nat.eq_of_beq_eq_true hc
  subst hlen
  obtain ⟨x, y, r, rfl, h⟩ := mo_2l_of h
  intro p l e s m args below meth c cells slots QQ C H locs A hP hS hl
  obtain ⟨hx, hb, hml, hown, hw, hok, hcs, hret⟩ := id C
  exact lv_lxor hx hb hd (hk _ _ _ h p l e s m args below meth c cells slots QQ C H locs A hP hS hl)
set_option maxHeartbeats 4000000 in
theorem mo_o_lshl {g : mo_E} {mt : mo_T} {Q : mo_Q} {cs : Nat → mo_C} {K : mo_K} {k : mo_k} {pc len a b : Nat} {ci : Int} {ls : mo_L} {st : List mo_V} {σ : mo_M}  (hd : decode mt.1 pc = .ok (.lshl, len)) (hc : mo_ck mt.2.1 (pc, len, .lshl, a, b, ci) = true) (hK : ∀ pc ls st σ, K pc ls st σ → mo_X g mt Q pc ls st σ) (hk : ∀ ls st σ, k ls st σ → mo_X g mt Q (pc + len) ls st σ) (h : mo_op g.2.2.2.2 mt.2.2.1 mt.2.2.2.1 cs K Q (pc, len, .lshl, a, b, ci) k ls st σ) : mo_X g mt Q pc ls st σ := by
  simp only [mo_ck, Bool.and_eq_true] at hc
  simp only [mo_op] at h
  have hlen : len = 1 := Nat.eq_of_beq_eq_true hc
  subst hlen
  obtain ⟨x, y, r, rfl, h⟩ := mo_li_of h
  intro p l e s m args below meth c cells slots QQ C H locs A hP hS hl
  obtain ⟨hx, hb, hml, hown, hw, hok, hcs, hret⟩ := id C
  exact lv_lshl hx hb hd rfl (hk _ _ _ h p l e s m args below meth c cells slots QQ C H locs A hP hS hl)
set_option maxHeartbeats 4000000 in
theorem mo_o_lshr {g : mo_E} {mt : mo_T} {Q : mo_Q} {cs : Nat → mo_C} {K : mo_K} {k : mo_k} {pc len a b : Nat} {ci : Int} {ls : mo_L} {st : List mo_V} {σ : mo_M}  (hd : decode mt.1 pc = .ok (.lshr, len)) (hc : mo_ck mt.2.1 (pc, len, .lshr, a, b, ci) = true) (hK : ∀ pc ls st σ, K pc ls st σ → mo_X g mt Q pc ls st σ) (hk : ∀ ls st σ, k ls st σ → mo_X g mt Q (pc + len) ls st σ) (h : mo_op g.2.2.2.2 mt.2.2.1 mt.2.2.2.1 cs K Q (pc, len, .lshr, a, b, ci) k ls st σ) : mo_X g mt Q pc ls st σ := by
  simp only [mo_ck, Bool.and_eq_true] at hc
  simp only [mo_op] at h
  have hlen : len = 1 := Nat.eq_of_beq_eq_true hc
  subst hlen
  obtain ⟨x, y, r, rfl, h⟩ := mo_li_of h
  intro p l e s m args below meth c cells slots QQ C H locs A hP hS hl
  obtain ⟨hx, hb, hml, hown, hw, hok, hcs, hret⟩ := id C
  exact lv_lshr hx hb hd rfl (hk _ _ _ h p l e s m args below meth c cells slots QQ C H locs A hP hS hl)
set_option maxHeartbeats 4000000 in
theorem mo_o_lushr {g : mo_E} {mt : mo_T} {Q : mo_Q} {cs : Nat → mo_C} {K : mo_K} {k : mo_k} {pc len a b : Nat} {ci : Int} {ls : mo_L} {st : List mo_V} {σ : mo_M}  (hd : decode mt.1 pc = .ok (.lushr, len)) (hc : mo_ck mt.2.1 (pc, len, .lushr, a, b, ci) = true) (hK : ∀ pc ls st σ, K pc ls st σ → mo_X g mt Q pc ls st σ) (hk : ∀ ls st σ, k ls st σ → mo_X g mt Q (pc + len) ls st σ) (h : mo_op g.2.2.2.2 mt.2.2.1 mt.2.2.2.1 cs K Q (pc, len, .lushr, a, b, ci) k ls st σ) : mo_X g mt Q pc ls st σ := by
  simp only [mo_ck, Bool.and_eq_true] at hc
  simp only [mo_op] at h
  have hlen : len = 1 := Nat.eq_of_beq_eq_true hc
  subst hlen
  obtain ⟨x, y, r, rfl, h⟩ := mo_li_of h
  intro p l e s m args below meth c cells slots QQ C H locs A hP hS hl
  obtain ⟨hx, hb, hml, hown, hw, hok, hcs, hret⟩ := id C
  exact lv_lushr hx hb hd rfl (hk _ _ _ h p l e s m args below meth c cells slots QQ C H locs A hP hS hl)
set_option maxHeartbeats 4000000 in
theorem mo_o_lcmp {g : mo_E} {mt : mo_T} {Q : mo_Q} {cs : Nat → mo_C} {K : mo_K} {k : mo_k} {pc len a b : Nat} {ci : Int} {ls : mo_L} {st : List mo_V} {σ : mo_M}  (hd : decode mt.1 pc = .ok (.lcmp, len)) (hc : mo_ck mt.2.1 (pc, len, .lcmp, a, b, ci) = true) (hK : ∀ pc ls st σ, K pc ls st σ → mo_X g mt Q pc ls st σ) (hk : ∀ ls st σ, k ls st σ → mo_X g mt Q (pc + len) ls st σ) (h : mo_op g.2.2.2.2 mt.2.2.1 mt.2.2.2.1 cs K Q (pc, len, .lcmp, a, b, ci) k ls st σ) : mo_X g mt Q pc ls st σ := by
  simp only [mo_ck, Bool.and_eq_true] at hc
  simp only [mo_op] at h
  have hlen : len = 1 := Nat.eq_of_beq_eq_true hc
  subst hlen
  obtain ⟨x, y, r, rfl, h⟩ := mo_2l_of h
  intro p l e s m args below meth c cells slots QQ C H locs A hP hS hl
  obtain ⟨hx, hb, hml, hown, hw, hok, hcs, hret⟩ := id C
  exact W.lcmp hx hb hd (hk _ _ _ h p l e s m args below meth c cells slots QQ C H locs A hP hS hl)
set_option maxHeartbeats 4000000 in
theorem mo_o_i2l {g : mo_E} {mt : mo_T} {Q : mo_Q} {cs : Nat → mo_C} {K : mo_K} {k : mo_k} {pc len a b : Nat} {ci : Int} {ls : mo_L} {st : List mo_V} {σ : mo_M}  (hd : decode mt.1 pc = .ok (.i2l, len)) (hc : mo_ck mt.2.1 (pc, len, .i2l, a, b, ci) = true) (hK : ∀ pc ls st σ, K pc ls st σ → mo_X g mt Q pc ls st σ) (hk : ∀ ls st σ, k ls st σ → mo_X g mt Q (pc + len) ls st σ) (h : mo_op g.2.2.2.2 mt.2.2.1 mt.2.2.2.1 cs K Q (pc, len, .i2l, a, b, ci) k ls st σ) : mo_X g mt Q pc ls st σ := by
  simp only [mo_ck, Bool.and_eq_true] at hc
  simp only [mo_op] at h
  have hlen : len = 1 := Nat.eq_of_beq_eq_true hc
  subst hlen
  obtain ⟨x, r, rfl, h⟩ := mo_1i_of h
  intro p l e s m args below meth c cells slots QQ C H locs A hP hS hl
  obtain ⟨hx, hb, hml, hown, hw, hok, hcs, hret⟩ := id C
  exact lv_i2l hx hb hd rfl (hk _ _ _ h p l e s m args below meth c cells slots QQ C H locs A hP hS hl)
set_option maxHeartbeats 4000000 in
theorem mo_o_i2b {g : mo_E} {mt : mo_T} {Q : mo_Q} {cs : Nat → mo_C} {K : mo_K} {k : mo_k} {pc len a b : Nat} {ci : Int} {ls : mo_L} {st : List mo_V} {σ : mo_M}  (hd : decode mt.1 pc = .ok (.i2b, len)) (hc : mo_ck mt.2.1 (pc, len, .i2b, a, b, ci) = true) (hK : ∀ pc ls st σ, K pc ls st σ → mo_X g mt Q pc ls st σ) (hk : ∀ ls st σ, k ls st σ → mo_X g mt Q (pc + len) ls st σ) (h : mo_op g.2.2.2.2 mt.2.2.1 mt.2.2.2.1 cs K Q (pc, len, .i2b, a, b, ci) k ls st σ) : mo_X g mt Q pc ls st σ := by
  simp only [mo_ck, Bool.and_eq_true] at hc
  simp only [mo_op] at h
  have hlen : len = 1 := Nat.eq_of_beq_eq_true hc
  subst hlen
  obtain ⟨x, r, rfl, h⟩ := mo_1i_of h
  intro p l e s m args below meth c cells slots QQ C H locs A hP hS hl
  obtain ⟨hx, hb, hml, hown, hw, hok, hcs, hret⟩ := id C
  exact lv_i2b hx hb hd rfl (hk _ _ _ h p l e s m args below meth c cells slots QQ C H locs A hP hS hl)
set_option maxHeartbeats 4000000 in
theorem mo_o_l2i {g : mo_E} {mt : mo_T} {Q : mo_Q} {cs : Nat → mo_C} {K : mo_K} {k : mo_k} {pc len a b : Nat} {ci : Int} {ls : mo_L} {st : List mo_V} {σ : mo_M}  (hd : decode mt.1 pc = .ok (.l2i, len)) (hc : mo_ck mt.2.1 (pc, len, .l2i, a, b, ci) = true) (hK : ∀ pc ls st σ, K pc ls st σ → mo_X g mt Q pc ls st σ) (hk : ∀ ls st σ, k ls st σ → mo_X g mt Q (pc + len) ls st σ) (h : mo_op g.2.2.2.2 mt.2.2.1 mt.2.2.2.1 cs K Q (pc, len, .l2i, a, b, ci) k ls st σ) : mo_X g mt Q pc ls st σ := by
  simp only [mo_ck, Bool.and_eq_true] at hc
  simp only [mo_op] at h
  have hlen : len = 1 := Nat.eq_of_beq_eq_true hc
  subst hlen
  obtain ⟨x, r, rfl, h⟩ := mo_1l_of h
  intro p l e s m args below meth c cells slots QQ C H locs A hP hS hl
  obtain ⟨hx, hb, hml, hown, hw, hok, hcs, hret⟩ := id C
  exact lv_l2i hx hb hd rfl (hk _ _ _ h p l e s m args below meth c cells slots QQ C H locs A hP hS hl)
set_option maxHeartbeats 4000000 in
theorem mo_o_dup {g : mo_E} {mt : mo_T} {Q : mo_Q} {cs : Nat → mo_C} {K : mo_K} {k : mo_k} {pc len a b : Nat} {ci : Int} {ls : mo_L} {st : List mo_V} {σ : mo_M}  (hd : decode mt.1 pc = .ok (.dup, len)) (hc : mo_ck mt.2.1 (pc, len, .dup, a, b, ci) = true) (hK : ∀ pc ls st σ, K pc ls st σ → mo_X g mt Q pc ls st σ) (hk : ∀ ls st σ, k ls st σ → mo_X g mt Q (pc + len) ls st σ) (h : mo_op g.2.2.2.2 mt.2.2.1 mt.2.2.2.1 cs K Q (pc, len, .dup, a, b, ci) k ls st σ) : mo_X g mt Q pc ls st σ := by
  simp only [mo_ck, Bool.and_eq_true] at hc
  simp only [mo_op] at h
  have hlen : len = 1 := Nat.eq_of_beq_eq_true hc
  subst hlen
  split at h
  next v r =>
    obtain ⟨hv, h⟩ := mo_b_of h
    have hv : mo_wide v = false := by simpa using hv
    intro p l e s m args below meth c cells slots QQ C H locs A hP hS hl
    obtain ⟨hx, hb, hml, hown, hw, hok, hcs, hret⟩ := id C
    exact lv_dup hx hb hd (by rw [mo_cv_cat, hv]; rfl) (hk _ _ _ h p l e s m args below meth c cells slots QQ C H locs A hP hS hl)
  next => exact h.elim
set_option maxHeartbeats 4000000 in
theorem mo_o_pop {g : mo_E} {mt : mo_T} {Q : mo_Q} {cs : Nat → mo_C} {K : mo_K} {k : mo_k} {pc len a b : Nat} {ci : Int} {ls : mo_L} {st : List mo_V} {σ : mo_M}  (hd : decode mt.1 pc = .ok (.pop, len)) (hc : mo_ck mt.2.1 (pc, len, .pop, a, b, ci) = true) (hK : ∀ pc ls st σ, K pc ls st σ → mo_X g mt Q pc ls st σ) (hk : ∀ ls st σ, k ls st σ → mo_X g mt Q (pc + len) ls st σ) (h : mo_op g.2.2.2.2 mt.2.2.1 mt.2.2.2.1 cs K Q (pc, len, .pop, a, b, ci) k ls st σ) : mo_X g mt Q pc ls st σ := by
  simp only [mo_ck, Bool.and_eq_true] at hc
  simp only [mo_op] at h
  have hlen : len = 1 := Nat.eq_of_beq_eq_true hc
  subst hlen
  split at h
  next v r =>
    obtain ⟨hv, h⟩ := mo_b_of h
    have hv : mo_wide v = false := by simpa using hv
    intro p l e s m args below meth c cells slots QQ C H locs A hP hS hl
    obtain ⟨hx, hb, hml, hown, hw, hok, hcs, hret⟩ := id C
    exact lv_pop hx hb hd (by rw [mo_cv_cat, hv]; rfl) (hk _ _ _ h p l e s m args below meth c cells slots QQ C H locs A hP hS hl)
  next => exact h.elim
set_option maxHeartbeats 4000000 in
theorem mo_o_dup2 {g : mo_E} {mt : mo_T} {Q : mo_Q} {cs : Nat → mo_C} {K : mo_K} {k : mo_k} {pc len a b : Nat} {ci : Int} {ls : mo_L} {st : List mo_V} {σ : mo_M}  (hd : decode mt.1 pc = .ok (.dup2, len)) (hc : mo_ck mt.2.1 (pc, len, .dup2, a, b, ci) = true) (hK : ∀ pc ls st σ, K pc ls st σ → mo_X g mt Q pc ls st σ) (hk : ∀ ls st σ, k ls st σ → mo_X g mt Q (pc + len) ls st σ) (h : mo_op g.2.2.2.2 mt.2.2.1 mt.2.2.2.1 cs K Q (pc, len, .dup2, a, b, ci) k ls st σ) : mo_X g mt Q pc ls st σ := by
  simp only [mo_ck, Bool.and_eq_true] at hc
  simp only [mo_op] at h
  have hlen : len = 1 := Nat.eq_of_beq_eq_true hc
  subst hlen
  split at h
  next v u r =>
    obtain ⟨hv, h⟩ := mo_b_of h
    rw [Bool.and_eq_true] at hv
    have hv1 : mo_wide v = false := by simpa using hv.1
    have hv2 : mo_wide u = false := by simpa using hv.2
    intro p l e s m args below meth c cells slots QQ C H locs A hP hS hl
    obtain ⟨hx, hb, hml, hown, hw, hok, hcs, hret⟩ := id C
    exact lv_dup2_11 hx hb hd (by rw [mo_cv_cat, hv1]; rfl) (by rw [mo_cv_cat, hv2]; rfl) (hk _ _ _ h p l e s m args below meth c cells slots QQ C H locs A hP hS hl)
  next => exact h.elim
set_option maxHeartbeats 4000000 in
theorem mo_o_getfield {g : mo_E} {mt : mo_T} {Q : mo_Q} {cs : Nat → mo_C} {K : mo_K} {k : mo_k} {pc len a b : Nat} {ci : Int} {ls : mo_L} {st : List mo_V} {σ : mo_M} {i : Nat} (hd : decode mt.1 pc = .ok (.getfield i, len)) (hc : mo_ck mt.2.1 (pc, len, .getfield i, a, b, ci) = true) (hK : ∀ pc ls st σ, K pc ls st σ → mo_X g mt Q pc ls st σ) (hk : ∀ ls st σ, k ls st σ → mo_X g mt Q (pc + len) ls st σ) (h : mo_op g.2.2.2.2 mt.2.2.1 mt.2.2.2.1 cs K Q (pc, len, .getfield i, a, b, ci) k ls st σ) : mo_X g mt Q pc ls st σ := by
  simp only [mo_ck, Bool.and_eq_true] at hc
  simp only [mo_op] at h
  have hlen : len = 3 := Nat.eq_of_beq_eq_true hc.1
  subst hlen
  obtain ⟨-, ha, hbn, hlk⟩ := hc
  have ha := Nat.le_of_ble_eq_true ha
  have hbn := Nat.le_of_ble_eq_true hbn
  obtain ⟨o, w, r, rfl, h⟩ := mo_1r_of h
  obtain ⟨ho, h⟩ := mo_b_of h
  have ho := mo_isO_of ho
  obtain ⟨hps, h⟩ := mo_in_of h
  obtain ⟨q0, hq0⟩ := mo_ps_ix hps
  obtain ⟨CC, T, ty, h1, h2, h3, h4, h5, h6⟩ := mo_cls ha
  intro p l e s m args below meth c cells slots QQ C H locs A hP hS hl
  obtain ⟨hx, hb, hml, hown, hw, hok, hcs, hret⟩ := id C
  have he := mo_wd_at g σ hq0
  rw [mo_cell_o σ ho] at he
  have hv : ((List.range (mo_num a)).map (mo_fv g.2.2.1 σ o w a))[b]? = some (mo_fv g.2.2.1 σ o w a b) := by
    rw [List.getElem?_map, List.getElem?_range hbn]; rfl
  have hlk := hw _ (mo_fl_of h2 hlk)
  cases hr : mo_ref a b with
  | true =>
    rw [hr] at h
    refine va_get hx hb hw h3 hown hok.1 hP q0 he h1 b hbn hlk (fun _ h9 => h9) hv hd ?_
    unfold mo_fv
    rw [hr]
    exact (hk _ _ _ h p l e s m args below meth c cells slots QQ C H locs A hP hS hl)
  | false =>
    rw [hr] at h
    refine va_get hx hb hw h3 hown hok.1 hP q0 he h1 b hbn hlk (fun _ h9 => h9) hv hd ?_
    unfold mo_fv
    rw [hr]
    exact (hk _ _ _ h p l e s m args below meth c cells slots QQ C H locs A hP hS hl)
set_option maxHeartbeats 4000000 in
theorem mo_o_putfield {g : mo_E} {mt : mo_T} {Q : mo_Q} {cs : Nat → mo_C} {K : mo_K} {k : mo_k} {pc len a b : Nat} {ci : Int} {ls : mo_L} {st : List mo_V} {σ : mo_M} {i : Nat} (hd : decode mt.1 pc = .ok (.putfield i, len)) (hc : mo_ck mt.2.1 (pc, len, .putfield i, a, b, ci) = true) (hK : ∀ pc ls st σ, K pc ls st σ → mo_X g mt Q pc ls st σ) (hk : ∀ ls st σ, k ls st σ → mo_X g mt Q (pc + len) ls st σ) (h : mo_op g.2.2.2.2 mt.2.2.1 mt.2.2.2.1 cs K Q (pc, len, .putfield i, a, b, ci) k ls st σ) : mo_X g mt Q pc ls st σ := by
  simp only [mo_ck, Bool.and_eq_true] at hc
  simp only [mo_op] at h
  have hlen : len = 3 := Nat.eq_of_beq_eq_true hc.1
  subst hlen
  obtain ⟨-, ha, hbn, hlk⟩ := hc
  have ha := Nat.le_of_ble_eq_true ha
  have hbn := Nat.le_of_ble_eq_true hbn
  split at h
  next v o w r =>
    obtain ⟨ho, h⟩ := mo_b_of h
    rw [Bool.and_eq_true] at ho
    obtain ⟨ho, hr⟩ := ho
    have ho := mo_isO_of ho
    have hr : mo_ref a b = false := by simpa using hr
    obtain ⟨hps, h⟩ := mo_in_of h
    obtain ⟨q0, hq0⟩ := mo_ps_ix hps
    obtain ⟨CC, T, ty, h1, h2, h3, h4, h5, h6⟩ := mo_cls ha
    obtain ⟨h7, h8⟩ := h6 b hbn hr
    intro p l e s m args below meth c cells slots QQ C H locs A hP hS hl
    obtain ⟨hx, hb, hml, hown, hw, hok, hcs, hret⟩ := id C
    have he := mo_wd_at g σ hq0
    rw [mo_cell_o σ ho] at he
    have hlk := hw _ (mo_fl_of h2 hlk)
    refine va_put (v := .int v) (ty := .int) hx hb hw h3 ty h4 h5 hown hok.1 hP (mo_D g σ hok) hS q0 he h1 b hbn hlk (fun _ h9 => h9) h8 (by rw [h7]; decide +kernel) rfl rfl (by simp only [List.length_map, List.length_range]; exact hbn) hd (fun H1 locs1 hP1 _ hS1 => ?_)
    rw [← mo_cell_put σ ho hr v, mo_wd_set g hq0 (mo_wI_o σ o w b v) (fun _ _ _ => rfl)] at hP1
    exact hk _ _ _ h p l e s m args below meth c cells slots QQ C H1 locs1 A hP1 hS1 hl
  next => exact h.elim
set_option maxHeartbeats 4000000 in
theorem mo_o_getstatic {g : mo_E} {mt : mo_T} {Q : mo_Q} {cs : Nat → mo_C} {K : mo_K} {k : mo_k} {pc len a b : Nat} {ci : Int} {ls : mo_L} {st : List mo_V} {σ : mo_M} {i : Nat} (hd : decode mt.1 pc = .ok (.getstatic i, len)) (hc : mo_ck mt.2.1 (pc, len, .getstatic i, a, b, ci) = true) (hK : ∀ pc ls st σ, K pc ls st σ → mo_X g mt Q pc ls st σ) (hk : ∀ ls st σ, k ls st σ → mo_X g mt Q (pc + len) ls st σ) (h : mo_op g.2.2.2.2 mt.2.2.1 mt.2.2.2.1 cs K Q (pc, len, .getstatic i, a, b, ci) k ls st σ) : mo_X g mt Q pc ls st σ := by
  simp only [mo_ck, Bool.and_eq_true] at hc
  simp only [mo_op] at h
  have hlen : len = 3 := Nat.eq_of_beq_eq_true hc.1
  subst hlen
  intro p l e s m args below meth c cells slots QQ C H locs A hP hS hl
  obtain ⟨hx, hb, hml, hown, hw, hok, hcs, hret⟩ := id C
  have hc2 := hc.2
  rw [Bool.or_eq_true] at hc2
  rcases hc2 with q | q
  · exact va_gets hx hb hok.2.2.2.2.1 hS hown (hw _ (mo_gB_of q)) (fun _ h9 => h9) hd (hk _ _ _ h p l e s m args below meth c cells slots QQ C H locs A hP hS hl)
  · rw [Bool.and_eq_true] at q
    have e1 := of_decide_eq_true q.1
    have e2 := Nat.eq_of_beq_eq_true q.2
    subst e2
    have hz := hok.2.2.2.1 (.fieldLinkNest RX7 76 "MadeOf" "VERSION_SCALE" "[I" RX11) (by simp [mo_nw])
    have ho : s.vm.findClass RX7 = some m.cls := by rw [← e1]; exact hown
    exact va_getsN hx hb hok.2.2.2.2.1 hS ho (va_Nw.use rfl hz) (fun _ h9 => h9) hd (hk _ _ _ h p l e s m args below meth c cells slots QQ C H locs A hP hS hl)
