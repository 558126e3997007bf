/-! the words: raw walks of the JDK's own rows -/
def ms_Pc (g : mo_E) (av : List Value) (σ : mo_M) : Array Value → State → Prop := va_Pc av (fun U => mo_ok g U ∧ va_P g.1 vwCl (mo_wd g σ) U.heap)
def ms_Pt (g : mo_E) (av : List Value) (σ : mo_M) (a n : Nat) (f : Nat → Int32) : Array Value → State → Prop := va_Pc av (fun U => mo_ok g U ∧ va_P g.1 vwCl (mo_wd g σ) U.heap ∧ va_T .byte a n (fun j => .int (f j)) g.2.2.2.1 U U.heap)
theorem ms_blindA (g : mo_E) {U : State} {fr : JFrame} {mk : Bool} (h : mo_ok g U) : ∀ (a : Array Value), mo_ok g U := fun _ => h
theorem ms_okc {g : mo_E} {U V : State} (hv : V.vm = U.vm) (hh : V.heap = U.heap) (h : mo_ok g U) : mo_ok g V := by
  obtain ⟨h1, h2, h3, h4, h5⟩ := h
  have ha : U.vm.Alike V.vm := by rw [hv]; exact Vm.Alike.refl U.vm
  refine ⟨va_K.moved (u := U) (U := V) ha h1, h2, h3, fun w hw => ?_, ?_⟩
  · have hz := h4 w hw
    have ht : w.onTables = true := by
      simp only [mo_nw, List.mem_cons, List.not_mem_nil, or_false] at hw
      rcases hw with rfl | rfl | rfl | rfl | rfl | rfl | rfl <;> rfl
    exact va_Nw.same ht (u := U) (U := V) hv.symm hz
  · obtain ⟨q1, q2, q3, q4, ⟨v, q5⟩, q6, q7⟩ := h5
    unfold mo_xt
    rw [hh]
    exact ⟨va_Z.moved (U := V) ha q1, va_T.moved (U := V) ha q2, va_T.moved (U := V) ha q3, fun x hx => vk_R.same hv (q4 x hx), ⟨v, vk_S.moved (U := V) ha q5⟩, va_Z.moved (U := V) ha q6, va_Zq.moved (U := V) ha q7⟩
theorem ms_blind (g : mo_E) (av : List Value) (σ : mo_M) : FrameBlind (ms_Pc g av σ) := by
  intro a U fr mk h
  obtain ⟨h0, hk, hP⟩ := h
  exact ⟨h0, ms_okc (U := U) (V := U.calling fr mk a) rfl rfl hk, hP⟩
theorem ms_blindT (g : mo_E) (av : List Value) (σ : mo_M) (b n : Nat) (f : Nat → Int32) : FrameBlind (ms_Pt g av σ b n f) := by
  intro a U fr mk h
  obtain ⟨h0, hk, hP, hT⟩ := h
  exact ⟨h0, ms_okc (U := U) (V := U.calling fr mk a) rfl rfl hk, hP, va_T.moved (u := U) (U := U.calling fr mk a) (Vm.Alike.refl U.vm) hT⟩
set_option maxHeartbeats 4000000 in
theorem ms_back {g : mo_E} {R : Room} {Q' : mo_Q} {p : Program} {l : Launch} {e : Env} {s : State} {m : MethodId} {args : Array Value} {below : List Frame} {meth : Method} {c : Code} {cells slots : Nat} {QQ : State → Prop} {H : Heap} {locs : List Loc} {pc : Nat} {A : Array Slot} {rest st0 : List Value} {a : Array Value}
    (hr : va_Run p l e R s m args below meth c H locs cells slots 0 0 (F0 m pc A st0) rest (mo_Qc g Q' a) g.2.2.2.1) (hS : va_S g.2.2.2.1 s.heap H locs)
    (kk : ∀ (x : Option mo_V) (σ' : mo_M) (H' : Heap) (locs' : List Loc), Q' x σ' → va_P g.1 vwCl (mo_wd g σ') H' → va_S g.2.2.2.1 s.heap H' locs' → W p l e R s m args below meth c H' locs' cells slots QQ (F0 m (pc + 3) A ((x.map (mo_cv g.2.2.1)).toList ++ rest))) : W p l e R s m args below meth c H locs cells slots QQ (F0 m pc A st0) := by
  intro T hT X
  obtain ⟨v, st₀, t, T', L, h0, X', hL, e1, e2, ⟨⟨r, σ', hv, hq, hP⟩, hz, hk⟩, st⟩ := hr T hT X
  cases hv
  rw [h0] at hz hk
  have hS2 : va_S g.2.2.2.1 s.heap T'.heap (locs ++ L) := ⟨Nat.le_trans hS.1 (by rw [e1]; exact hz), fun q h1 h2 => by rw [e1, hk q (Nat.lt_of_lt_of_le h1 hS.1) h2]; exact hS.2.1 q h1 h2, fun q hq => by
      rcases List.mem_append.mp hq with h | h
      · exact hS.2.2 q h
      · exact hL q h⟩
  obtain ⟨t2, a1, b1⟩ := kk r σ' T'.heap (locs ++ L) hq (by rw [e1]; exact hP) hS2 T' rfl X'
  exact ⟨t2, st t2 a1, b1⟩
def ms_R0 : Room := { frames := 0, cells := 0, slots := 0, locals := 0 }
def ms_R1 : Room := { frames := 1, cells := 0, slots := 0, locals := 22 }
def ms_R2 : Room := { frames := 2, cells := 0, slots := 0, locals := 43 }
def ms_R3 : Room := { frames := 3, cells := 0, slots := 0, locals := 64 }
def ms_RL : Room := { frames := 1, cells := 0, slots := 0, locals := 20 }
def ms_is (r : Int32) (σ : mo_M) : mo_Q := fun x τ => x = some (.inl r) ∧ τ = σ
def ms_no (σ : mo_M) : mo_Q := fun x τ => x = none ∧ τ = σ
theorem ms_iret {g : mo_E} {σ : mo_M} {v : Int32} {a : Array Value} {s t : State} {H : Heap} {locs : List Loc} (hP : va_P g.1 vwCl (mo_wd g σ) H) (hS : va_S g.2.2.2.1 s.heap H locs) (ht : t.heap = H) : mo_Qc g (ms_is v σ) a s (.returned (some (.int v))) t := ⟨⟨some (.inl v), σ, rfl, ⟨rfl, rfl⟩, by rw [ht]; exact hP⟩, hS.F ht⟩
theorem ms_vret {g : mo_E} {σ : mo_M} {a : Array Value} {s t : State} {H : Heap} {locs : List Loc} (hP : va_P g.1 vwCl (mo_wd g σ) H) (hS : va_S g.2.2.2.1 s.heap H locs) (ht : t.heap = H) : mo_Qc g (ms_no σ) a s (.returned none) t := ⟨⟨none, σ, rfl, ⟨rfl, rfl⟩, by rw [ht]; exact hP⟩, hS.F ht⟩
set_option maxHeartbeats 4000000 in
theorem mt_J3 (g : mo_E) (l : Launch) (σ : mo_M) (i n : Int32) (v : Value) (hc1 : v.category = 1) (h0 : ¬ i < 0) (h1 : i < n) : Met l yJ3_checkIndex_8e157 (.code yJ3_checkIndex_8e157 cJ3_checkIndex_8e157 3 (some .int) :: mo_gw) ms_R0 (ms_Pc g [Value.int i, Value.int n, v] σ) (mo_Qc g (ms_is i σ)) 0 0 g.2.2.2.1 := by
  refine Met.ofW (cc := cJ3_checkIndex_8e157) (maxL := 3) (ret := some .int) (by decide) rfl ?_
  intro p e s m args below meth c s₁ B hml hv
  obtain ⟨rfl, hok, hP⟩ := hv
  have hx := B.exec
  have hb := B.bytes
  have hr := B.returns
  have hw : ∀ w ∈ mo_gw, w.before [Value.int i, Value.int n, v].toArray s = true := fun w hw => atoms_spec (ws := .code yJ3_checkIndex_8e157 cJ3_checkIndex_8e157 3 (some .int) :: mo_gw) B.pre w (List.mem_cons_of_mem _ hw)
  have hown : s.vm.findClass RJ3 = some m.cls := findClass_of_methodNamed B.named
  have hlocks := B.notSynchronized
  have hS : va_S g.2.2.2.1 s.heap s.heap [] := va_S.rf
  rw [lg_entry_eq]
  have hl := lv_entry [Value.int i, Value.int n, v] (n := 3) (by have z : (lg_sl [Value.int i, Value.int n, v]).length = 3 := (by simp only [lg_sl, List.flatMap_cons, List.flatMap_nil, hc1]; rfl); omega)
  have l0 := hl.2.2 (0, .int i) (by simp [lv_args])
  have l1 := hl.2.2 (1, .int n) (by simp [lv_args, Value.category])
  refine lv_iload_n hx hb (show decode cJ3_checkIndex_8e157 0 = .ok (.iload_n 0, 1) by decide +kernel) rfl l0 ?_
  refine lv_if_lt (tgt := 9) hx hb (show decode cJ3_checkIndex_8e157 1 = .ok (.ifCond .lt 8, 3) by decide +kernel) (by decide) (fun q => absurd q h0) (fun _ => ?_)
  refine lv_iload_n hx hb (show decode cJ3_checkIndex_8e157 4 = .ok (.iload_n 0, 1) by decide +kernel) rfl l0 ?_
  refine lv_iload_n hx hb (show decode cJ3_checkIndex_8e157 5 = .ok (.iload_n 1, 1) by decide +kernel) rfl l1 ?_
  refine lv_icmp_lt (tgt := 16) hx hb (show decode cJ3_checkIndex_8e157 6 = .ok (.if_icmp .lt 10, 3) by decide +kernel) (by decide) (fun _ => ?_) (fun q => absurd h1 q)
  refine lv_iload_n hx hb (show decode cJ3_checkIndex_8e157 16 = .ok (.iload_n 0, 1) by decide +kernel) rfl l0 ?_
  exact W.iret hx hb hr (fun t ht _ => ms_iret hP hS ht) hS.2.2 (show decode cJ3_checkIndex_8e157 17 = .ok (.ireturn, 1) by decide +kernel)
set_option maxHeartbeats 4000000 in
theorem mt_JC (g : mo_E) (l : Launch) (σ : mo_M) (i n : Int32) (h0 : ¬ i < 0) (h1 : i < n) : Met l yJ0_checkIndex_df160 (.code yJ0_checkIndex_df160 cJ0_checkIndex_df160 2 none :: mo_gw) ms_R1 (ms_Pc g [Value.int i, Value.int n] σ) (mo_Qc g (ms_no σ)) 0 0 g.2.2.2.1 := by
  refine Met.ofW (cc := cJ0_checkIndex_df160) (maxL := 2) (ret := none) (by decide) rfl ?_
  intro p e s m args below meth c s₁ B hml hv
  obtain ⟨rfl, hok, hP⟩ := hv
  have hx := B.exec
  have hb := B.bytes
  have hr := B.returns
  have hw : ∀ w ∈ mo_gw, w.before [Value.int i, Value.int n].toArray s = true := fun w hw => atoms_spec (ws := .code yJ0_checkIndex_df160 cJ0_checkIndex_df160 2 (none) :: mo_gw) B.pre w (List.mem_cons_of_mem _ hw)
  have hown : s.vm.findClass RJ0 = some m.cls := findClass_of_methodNamed B.named
  have hlocks := B.notSynchronized
  have hS : va_S g.2.2.2.1 s.heap s.heap [] := va_S.rf
  rw [lg_entry_eq]
  have hl := lv_entry [Value.int i, Value.int n] (n := 2) (by simp [lg_sl, Value.category])
  have l0 := hl.2.2 (0, .int i) (by simp [lv_args])
  have l1 := hl.2.2 (1, .int n) (by simp [lv_args, Value.category])
  refine lv_iload_n hx hb (show decode cJ0_checkIndex_df160 0 = .ok (.iload_n 0, 1) by decide +kernel) rfl l0 ?_
  refine lv_iload_n hx hb (show decode cJ0_checkIndex_df160 1 = .ok (.iload_n 1, 1) by decide +kernel) rfl l1 ?_
  obtain ⟨v, hc1, hZ⟩ : ∃ v : Value, v.category = 1 ∧ va_Z "jdk/internal/util/Preconditions" "SIOOBE_FORMATTER" "Ljava/util/function/BiFunction;" v g.2.2.2.1 s s.heap := by
    rcases hok.2.2.2.2.2.2.2.2.2.2 with q | ⟨t, q⟩
    · exact ⟨.null, rfl, q⟩
    · exact ⟨.ref t, rfl, q⟩
  refine va_gets hx hb hZ hS hown (hw _ (mo_gB_of (show mo_gB (.fieldLink RJ0 1053 "jdk/internal/util/Preconditions" "SIOOBE_FORMATTER" "Ljava/util/function/BiFunction;") = true by decide +kernel))) (fun _ h => h) (show decode cJ0_checkIndex_df160 2 = .ok (.getstatic 1053, 3) by decide +kernel) ?_
  have hcb : CallB ms_R1 s [Value.int i, Value.int n].toArray RJ0 1059 yJ3_checkIndex_8e157 cJ3_checkIndex_8e157 3 (some .int) (.code yJ3_checkIndex_8e157 cJ3_checkIndex_8e157 3 (some .int) :: mo_gw) ms_R0 0 0 3 :=
    callB_of 3 hw (mo_gi (fun w hq => by rcases List.mem_cons.mp hq with rfl | hq; (· exact mo_gB_of (by decide +kernel)); exact hq)) rfl rfl rfl (hw _ (mo_gB_of (show mo_gB (.initialized RJ3) = true by decide +kernel))) (hw _ (mo_gB_of (show mo_gB (.methodLink RJ0 1059 yJ3_checkIndex_8e157) = true by decide +kernel))) (by decide +kernel) (by decide)
  refine ms_back (rest := []) (a := [Value.int i, Value.int n, v].toArray) (va_runS (As := [Value.int i, Value.int n, v]) (Ts := mo_gw) ⟨hx, hb, hml, hown, hw⟩ (mt_J3 g l σ i n v hc1 h0 h1) ⟨hcb, (hw _ (mo_gB_of (show mo_gB (.static yJ3_checkIndex_8e157) = true by decide +kernel)))⟩ ⟨ms_blind g _ σ, fun U hU hW => ⟨rfl, mo_ok_moved hW (fun a _ _ => by rw [hU]) hok, by rw [hU]; exact hP⟩⟩ rfl rfl hl.1 rfl (lv_room (by simp)) (show decode cJ0_checkIndex_df160 5 = .ok (.invokestatic 1059, 3) by decide +kernel) ⟨by decide, by decide⟩) hS ?_
  rintro x σ' H' locs' ⟨rfl, rfl⟩ hP' hS'
  refine lv_pop hx hb (show decode cJ0_checkIndex_df160 8 = .ok (.pop, 1) by decide +kernel) rfl ?_
  exact W.vret hx hb hr (fun t ht _ => ms_vret hP' hS' ht) hS'.2.2 (show decode cJ0_checkIndex_df160 9 = .ok (.return_, 1) by decide +kernel)
set_option maxHeartbeats 4000000 in
theorem mt_JL (g : mo_E) (l : Launch) (σ : mo_M) (a n : Nat) (f : Nat → Int32) (i r : Int32) (hin : vp_in i n) (hnl : n < 100) (hv : ((f i.toNatClampNeg &&& (255 : Int32)).toUInt32 % 65536).toInt32 = r) (hn2 : narrow .char (.int r) = .int r) : Met l yJ1_charAt_3b067 (.code yJ1_charAt_3b067 cJ1_charAt_3b067 2 (some .char) :: mo_gw) ms_R2 (ms_Pt g [Value.ref a, Value.int i] σ a n f) (mo_Qc g (ms_is r σ)) 0 0 g.2.2.2.1 := by
  refine Met.ofW (cc := cJ1_charAt_3b067) (maxL := 2) (ret := some .char) (by decide) rfl ?_
  intro p e s m args below meth c s₁ B hml hv
  obtain ⟨rfl, hok, hP, hT⟩ := hv
  have hx := B.exec
  have hb := B.bytes
  have hr := B.returns
  have hw : ∀ w ∈ mo_gw, w.before [Value.ref a, Value.int i].toArray s = true := fun w hw => atoms_spec (ws := .code yJ1_charAt_3b067 cJ1_charAt_3b067 2 (some .char) :: mo_gw) B.pre w (List.mem_cons_of_mem _ hw)
  have hown : s.vm.findClass RJ1 = some m.cls := findClass_of_methodNamed B.named
  have hlocks := B.notSynchronized
  have hS : va_S g.2.2.2.1 s.heap s.heap [] := va_S.rf
  rw [lg_entry_eq]
  have hl := lv_entry [Value.ref a, Value.int i] (n := 2) (by simp [lg_sl, Value.category])
  have l0 := hl.2.2 (0, .ref a) (by simp [lv_args])
  have l1 := hl.2.2 (1, .int i) (by simp [lv_args, Value.category])
  refine lv_iload_n hx hb (show decode cJ1_charAt_3b067 0 = .ok (.iload_n 1, 1) by decide +kernel) rfl l1 ?_
  refine lv_aload_n hx hb (show decode cJ1_charAt_3b067 1 = .ok (.aload_n 0, 1) by decide +kernel) rfl l0 ?_
  refine va_tlen hx hb hT hS rfl (show decode cJ1_charAt_3b067 2 = .ok (.arraylength, 1) by decide +kernel) ?_
  have hcb : CallB ms_R2 s [Value.ref a, Value.int i].toArray RJ1 9 yJ0_checkIndex_df160 cJ0_checkIndex_df160 2 none (.code yJ0_checkIndex_df160 cJ0_checkIndex_df160 2 none :: mo_gw) ms_R1 0 0 2 :=
    callB_of 2 hw (mo_gi (fun w hq => by rcases List.mem_cons.mp hq with rfl | hq; (· exact mo_gB_of (by decide +kernel)); exact hq)) rfl rfl rfl (hw _ (mo_gB_of (show mo_gB (.initialized RJ0) = true by decide +kernel))) (hw _ (mo_gB_of (show mo_gB (.methodLink RJ1 9 yJ0_checkIndex_df160) = true by decide +kernel))) (by decide +kernel) (by decide)
  refine ms_back (rest := []) (a := [Value.int i, Value.int (Int32.ofNat n)].toArray) (va_runS (As := [Value.int i, Value.int (Int32.ofNat n)]) (Ts := mo_gw) ⟨hx, hb, hml, hown, hw⟩ (mt_JC g l σ i (Int32.ofNat n) (fun q => hin (Or.inl q)) (by have z := mo_inI hin; rw [z.1]; exact nI_lt z.2 (by omega))) ⟨hcb, (hw _ (mo_gB_of (show mo_gB (.static yJ0_checkIndex_df160) = true by decide +kernel)))⟩ ⟨ms_blind g _ σ, fun U hU hW => ⟨rfl, mo_ok_moved hW (fun a _ _ => by rw [hU]) hok, by rw [hU]; exact hP⟩⟩ rfl rfl hl.1 rfl (lv_room (by simp)) (show decode cJ1_charAt_3b067 3 = .ok (.invokestatic 9, 3) by decide +kernel) ⟨by decide, by decide⟩) hS ?_
  rintro x σ' H' locs' ⟨rfl, rfl⟩ hP' hS'
  refine lv_aload_n hx hb (show decode cJ1_charAt_3b067 6 = .ok (.aload_n 0, 1) by decide +kernel) rfl l0 ?_
  refine lv_iload_n hx hb (show decode cJ1_charAt_3b067 7 = .ok (.iload_n 1, 1) by decide +kernel) rfl l1 ?_
  refine va_tb hx hb hT hS' hin rfl (show decode cJ1_charAt_3b067 8 = .ok (.baload, 1) by decide +kernel) ?_
  refine lv_sipush hx hb (show decode cJ1_charAt_3b067 9 = .ok (.sipush 255, 3) by decide +kernel) (show (Int16.ofInt 255).toInt32 = (255 : Int32) by decide) ?_
  refine lv_iand hx hb (show decode cJ1_charAt_3b067 12 = .ok (.iand, 1) by decide +kernel) ?_
  refine lv_i2c hx hb (show decode cJ1_charAt_3b067 13 = .ok (.i2c, 1) by decide +kernel) hv ?_
  exact W.zret (ty := .char) hx hb hr hn2 (fun t ht _ => ms_iret hP' hS' ht) hS'.2.2 (show decode cJ1_charAt_3b067 14 = .ok (.ireturn, 1) by decide +kernel)
set_option maxHeartbeats 4000000 in
theorem mt_JD (g : mo_E) (l : Launch) (σ : mo_M) (i : Nat) (hi : i < 4) : Met l yJ0_coder_7d493 (.code yJ0_coder_7d493 cJ0_coder_7d493 1 (some .byte) :: mo_gw) ms_R0 (ms_Pc g [Value.ref (g.2.2.1 (91 + i) 0)] σ) (mo_Qc g (ms_is 0 σ)) 0 0 g.2.2.2.1 := by
  refine Met.ofW (cc := cJ0_coder_7d493) (maxL := 1) (ret := some .byte) (by decide) rfl ?_
  intro p e s m args below meth c s₁ B hml hv
  obtain ⟨rfl, hok, hP⟩ := hv
  have hx := B.exec
  have hb := B.bytes
  have hr := B.returns
  have hw : ∀ w ∈ mo_gw, w.before [Value.ref (g.2.2.1 (91 + i) 0)].toArray s = true := fun w hw => atoms_spec (ws := .code yJ0_coder_7d493 cJ0_coder_7d493 1 (some .byte) :: mo_gw) B.pre w (List.mem_cons_of_mem _ hw)
  have hown : s.vm.findClass RJ0 = some m.cls := findClass_of_methodNamed B.named
  have hlocks := B.notSynchronized
  have hS : va_S g.2.2.2.1 s.heap s.heap [] := va_S.rf
  rw [lg_entry_eq]
  have hl := lv_entry [Value.ref (g.2.2.1 (91 + i) 0)] (n := 1) (by simp [lg_sl, Value.category])
  have l0 := hl.2.2 (0, Value.ref (g.2.2.1 (91 + i) 0)) (by simp [lv_args])
  obtain ⟨adV, hE⟩ := hok.2.2.2.2.2.2.2.2.1
  have hE1 := (hE.1 i hi).2.1
  refine va_gets hx hb hok.2.2.2.2.2.2.2.2.2.1 hS hown (hw _ (mo_gB_of (show mo_gB (.fieldLink RJ0 38 "java/lang/String" "COMPACT_STRINGS" "Z") = true by decide +kernel))) (fun _ h => h) (show decode cJ0_coder_7d493 0 = .ok (.getstatic 38, 3) by decide +kernel) ?_
  refine lv_if_eq (tgt := 13) hx hb (show decode cJ0_coder_7d493 3 = .ok (.ifCond .eq 10, 3) by decide +kernel) (by decide) (fun q => absurd q (by decide)) (fun _ => ?_)
  refine lv_aload_n hx hb (show decode cJ0_coder_7d493 6 = .ok (.aload_n 0, 1) by decide +kernel) rfl l0 ?_
  refine vk_getf hx hb hE1 hS hown (hw _ (mo_gB_of (show mo_gB (.fieldLink RJ0 15 "java/lang/String" "coder" "B") = true by decide +kernel))) (fun _ h => h) (show decode cJ0_coder_7d493 7 = .ok (.getfield 15, 3) by decide +kernel) ?_
  refine lv_goto (tgt := 14) hx hb (show decode cJ0_coder_7d493 10 = .ok (.goto 4, 3) by decide +kernel) (by decide) ?_
  exact W.zret (ty := .byte) hx hb hr rfl (fun t ht _ => ms_iret hP hS ht) hS.2.2 (show decode cJ0_coder_7d493 14 = .ok (.ireturn, 1) by decide +kernel)
set_option maxHeartbeats 4000000 in
theorem mt_JI (g : mo_E) (l : Launch) (σ : mo_M) (i : Nat) (hi : i < 4) : Met l yJ0_isLatin1_aae02 (.code yJ0_isLatin1_aae02 cJ0_isLatin1_aae02 1 (some .boolean) :: mo_gw) ms_R0 (ms_Pc g [Value.ref (g.2.2.1 (91 + i) 0)] σ) (mo_Qc g (ms_is 1 σ)) 0 0 g.2.2.2.1 := by
  refine Met.ofW (cc := cJ0_isLatin1_aae02) (maxL := 1) (ret := some .boolean) (by decide) rfl ?_
  intro p e s m args below meth c s₁ B hml hv
  obtain ⟨rfl, hok, hP⟩ := hv
  have hx := B.exec
  have hb := B.bytes
  have hr := B.returns
  have hw : ∀ w ∈ mo_gw, w.before [Value.ref (g.2.2.1 (91 + i) 0)].toArray s = true := fun w hw => atoms_spec (ws := .code yJ0_isLatin1_aae02 cJ0_isLatin1_aae02 1 (some .boolean) :: mo_gw) B.pre w (List.mem_cons_of_mem _ hw)
  have hown : s.vm.findClass RJ0 = some m.cls := findClass_of_methodNamed B.named
  have hlocks := B.notSynchronized
  have hS : va_S g.2.2.2.1 s.heap s.heap [] := va_S.rf
  rw [lg_entry_eq]
  have hl := lv_entry [Value.ref (g.2.2.1 (91 + i) 0)] (n := 1) (by simp [lg_sl, Value.category])
  have l0 := hl.2.2 (0, Value.ref (g.2.2.1 (91 + i) 0)) (by simp [lv_args])
  obtain ⟨adV, hE⟩ := hok.2.2.2.2.2.2.2.2.1
  have hE1 := (hE.1 i hi).2.1
  refine va_gets hx hb hok.2.2.2.2.2.2.2.2.2.1 hS hown (hw _ (mo_gB_of (show mo_gB (.fieldLink RJ0 38 "java/lang/String" "COMPACT_STRINGS" "Z") = true by decide +kernel))) (fun _ h => h) (show decode cJ0_isLatin1_aae02 0 = .ok (.getstatic 38, 3) by decide +kernel) ?_
  refine lv_if_eq (tgt := 17) hx hb (show decode cJ0_isLatin1_aae02 3 = .ok (.ifCond .eq 14, 3) by decide +kernel) (by decide) (fun q => absurd q (by decide)) (fun _ => ?_)
  refine lv_aload_n hx hb (show decode cJ0_isLatin1_aae02 6 = .ok (.aload_n 0, 1) by decide +kernel) rfl l0 ?_
  refine vk_getf hx hb hE1 hS hown (hw _ (mo_gB_of (show mo_gB (.fieldLink RJ0 15 "java/lang/String" "coder" "B") = true by decide +kernel))) (fun _ h => h) (show decode cJ0_isLatin1_aae02 7 = .ok (.getfield 15, 3) by decide +kernel) ?_
  refine lv_if_ne (tgt := 17) hx hb (show decode cJ0_isLatin1_aae02 10 = .ok (.ifCond .ne 7, 3) by decide +kernel) (by decide) (fun q => absurd rfl q) (fun _ => ?_)
  refine lv_iconst hx hb (show decode cJ0_isLatin1_aae02 13 = .ok (.iconst 1, 1) by decide +kernel) rfl ?_
  refine lv_goto (tgt := 18) hx hb (show decode cJ0_isLatin1_aae02 14 = .ok (.goto 4, 3) by decide +kernel) (by decide) ?_
  exact W.zret (ty := .boolean) hx hb hr rfl (fun t ht _ => ms_iret hP hS ht) hS.2.2 (show decode cJ0_isLatin1_aae02 18 = .ok (.ireturn, 1) by decide +kernel)
def mo_sl (o : Nat) : Int32 := if o = 92 then 2 else 3
def mo_sc (o j : Nat) : Int32 := ([[98, 97, 100], [111, 114], [97, 110, 100], [97, 110, 121]].getD (o - 91) []).getD j 0
set_option maxHeartbeats 4000000 in
theorem mt_JN (g : mo_E) (l : Launch) (σ : mo_M) (i : Nat) (hi : i < 4) : Met l yJ0_length_8abf5 (.code yJ0_length_8abf5 cJ0_length_8abf5 1 (some .int) :: mo_gw) ms_RL (ms_Pc g [Value.ref (g.2.2.1 (91 + i) 0)] σ) (mo_Qc g (ms_is (mo_sl (91 + i)) σ)) 0 0 g.2.2.2.1 := by
  refine Met.ofW (cc := cJ0_length_8abf5) (maxL := 1) (ret := some .int) (by decide) rfl ?_
  intro p e s m args below meth c s₁ B hml hv
  obtain ⟨rfl, hok, hP⟩ := hv
  have hx := B.exec
  have hb := B.bytes
  have hr := B.returns
  have hw : ∀ w ∈ mo_gw, w.before [Value.ref (g.2.2.1 (91 + i) 0)].toArray s = true := fun w hw => atoms_spec (ws := .code yJ0_length_8abf5 cJ0_length_8abf5 1 (some .int) :: mo_gw) B.pre w (List.mem_cons_of_mem _ hw)
  have hown : s.vm.findClass RJ0 = some m.cls := findClass_of_methodNamed B.named
  have hlocks := B.notSynchronized
  have hS : va_S g.2.2.2.1 s.heap s.heap [] := va_S.rf
  rw [lg_entry_eq]
  have hl := lv_entry [Value.ref (g.2.2.1 (91 + i) 0)] (n := 1) (by simp [lg_sl, Value.category])
  have l0 := hl.2.2 (0, Value.ref (g.2.2.1 (91 + i) 0)) (by simp [lv_args])
  obtain ⟨adV, hE⟩ := hok.2.2.2.2.2.2.2.2.1
  have hEi := hE.1 i hi
  have hv2 : Int32.ofNat ([3, 2, 3, 3].getD i 0) >>> ((0 : Int32) &&& 31) = mo_sl (91 + i) := by
    have q : i = 0 ∨ i = 1 ∨ i = 2 ∨ i = 3 := by omega
    rcases q with rfl | rfl | rfl | rfl <;> decide
  refine lv_aload_n hx hb (show decode cJ0_length_8abf5 0 = .ok (.aload_n 0, 1) by decide +kernel) rfl l0 ?_
  refine vk_getf hx hb hEi.2.2.1 hS hown (hw _ (mo_gB_of (show mo_gB (.fieldLink RJ0 9 "java/lang/String" "value" "[B") = true by decide +kernel))) (fun _ h => h) (show decode cJ0_length_8abf5 1 = .ok (.getfield 9, 3) by decide +kernel) ?_
  refine va_tlen hx hb hEi.2.2.2 hS rfl (show decode cJ0_length_8abf5 4 = .ok (.arraylength, 1) by decide +kernel) ?_
  refine lv_aload_n hx hb (show decode cJ0_length_8abf5 5 = .ok (.aload_n 0, 1) by decide +kernel) rfl l0 ?_
  have hcb : CallB ms_RL s [Value.ref (g.2.2.1 (91 + i) 0)].toArray RJ0 335 yJ0_coder_7d493 cJ0_coder_7d493 1 (some .byte) (.code yJ0_coder_7d493 cJ0_coder_7d493 1 (some .byte) :: mo_gw) ms_R0 0 0 0 :=
    callB_of 0 hw (mo_gi (fun w hq => by rcases List.mem_cons.mp hq with rfl | hq; (· exact mo_gB_of (by decide +kernel)); exact hq)) rfl rfl rfl (hw _ (mo_gB_of (show mo_gB (.initialized RJ0) = true by decide +kernel))) (hw _ (mo_gB_of (show mo_gB (.methodLink RJ0 335 yJ0_coder_7d493) = true by decide +kernel))) (by decide +kernel) (by decide)
  refine ms_back (a := [Value.ref (g.2.2.1 (91 + i) 0)].toArray) (va_runV (C := RJ0) (b := g.2.2.1 (91 + i) 0) (As := []) (Ts := mo_gw) ⟨hx, hb, hml, hown, hw⟩ (mt_JD g l σ i hi) ⟨hcb, (hw _ (mo_gB_of (show mo_gB (.instanceMethod yJ0_coder_7d493) = true by decide +kernel))), (hw _ (mo_gB_of (show mo_gB (.selects RJ0 yJ0_coder_7d493 yJ0_coder_7d493) = true by decide +kernel)))⟩ ⟨ms_blind g _ σ, vk_recv (i := i) (adK := fun i => g.2.2.1 (91 + i) 0) hE hi hS, fun U hU hW => ⟨rfl, mo_ok_moved hW (fun a _ _ => by rw [hU]) hok, by rw [hU]; exact hP⟩⟩ rfl rfl hl.1 rfl (lv_room (by simp [Value.category])) (show decode cJ0_length_8abf5 6 = .ok (.invokevirtual 335, 3) by decide +kernel) ⟨by decide, by decide⟩) hS ?_
  rintro x σ' H' locs' ⟨rfl, rfl⟩ hP' hS'
  refine lv_ishr hx hb (show decode cJ0_length_8abf5 9 = .ok (.ishr, 1) by decide +kernel) ?_
  exact W.iret hx hb hr (fun t ht _ => (by rw [hv2]; exact ms_iret hP' hS' ht)) hS'.2.2 (show decode cJ0_length_8abf5 10 = .ok (.ireturn, 1) by decide +kernel)
set_option maxHeartbeats 4000000 in
theorem mt_JA (g : mo_E) (l : Launch) (σ : mo_M) (i : Nat) (hi : i < 4) (j : Int32) (hin : vp_in j (mo_sl (91 + i)).toNatClampNeg) : Met l yJ0_charAt_5068e (.code yJ0_charAt_5068e cJ0_charAt_5068e 2 (some .char) :: mo_gw) ms_R3 (ms_Pc g [Value.ref (g.2.2.1 (91 + i) 0), Value.int j] σ) (mo_Qc g (ms_is (mo_sc (91 + i) j.toNatClampNeg) σ)) 0 0 g.2.2.2.1 := by
  refine Met.ofW (cc := cJ0_charAt_5068e) (maxL := 2) (ret := some .char) (by decide) rfl ?_
  intro p e s m args below meth c s₁ B hml hv
  obtain ⟨rfl, hok, hP⟩ := hv
  have hx := B.exec
  have hb := B.bytes
  have hr := B.returns
  have hw : ∀ w ∈ mo_gw, w.before [Value.ref (g.2.2.1 (91 + i) 0), Value.int j].toArray s = true := fun w hw => atoms_spec (ws := .code yJ0_charAt_5068e cJ0_charAt_5068e 2 (some .char) :: mo_gw) B.pre w (List.mem_cons_of_mem _ hw)
  have hown : s.vm.findClass RJ0 = some m.cls := findClass_of_methodNamed B.named
  have hlocks := B.notSynchronized
  have hS : va_S g.2.2.2.1 s.heap s.heap [] := va_S.rf
  rw [lg_entry_eq]
  have hl := lv_entry [Value.ref (g.2.2.1 (91 + i) 0), Value.int j] (n := 2) (by simp [lg_sl, Value.category])
  have l0 := hl.2.2 (0, Value.ref (g.2.2.1 (91 + i) 0)) (by simp [lv_args])
  have l1 := hl.2.2 (1, .int j) (by simp [lv_args, Value.category])
  obtain ⟨adV, hE⟩ := hok.2.2.2.2.2.2.2.2.1
  have hEi := hE.1 i hi
  have hlen : ([3, 2, 3, 3].getD i 0) < 100 ∧ ([3, 2, 3, 3].getD i 0) = (mo_sl (91 + i)).toNatClampNeg := by
    have q : i = 0 ∨ i = 1 ∨ i = 2 ∨ i = 3 := by omega
    rcases q with rfl | rfl | rfl | rfl <;> decide
  have hj : vp_in j ([3, 2, 3, 3].getD i 0) := by rw [hlen.2]; exact hin
  have hjn := (mo_inI hj).2
  have hj4 : j.toNatClampNeg < 4 := by
    have q : i = 0 ∨ i = 1 ∨ i = 2 ∨ i = 3 := by omega
    rcases q with rfl | rfl | rfl | rfl <;> exact Nat.lt_of_lt_of_le hjn (by decide)
  have hv2 : (((([[98, 97, 100], [111, 114], [97, 110, 100], [97, 110, 121]] : List (List Int32)).getD i []).getD j.toNatClampNeg 0 &&& (255 : Int32)).toUInt32 % 65536).toInt32 = mo_sc (91 + i) j.toNatClampNeg ∧ narrow .char (.int (mo_sc (91 + i) j.toNatClampNeg)) = .int (mo_sc (91 + i) j.toNatClampNeg) := by
    generalize j.toNatClampNeg = z at hj4
    have q : i = 0 ∨ i = 1 ∨ i = 2 ∨ i = 3 := by omega
    have q2 : z = 0 ∨ z = 1 ∨ z = 2 ∨ z = 3 := by omega
    rcases q with rfl | rfl | rfl | rfl <;> rcases q2 with rfl | rfl | rfl | rfl <;> exact ⟨by decide, by rfl⟩
  refine lv_aload_n hx hb (show decode cJ0_charAt_5068e 0 = .ok (.aload_n 0, 1) by decide +kernel) rfl l0 ?_
  have hcb : CallB ms_R3 s [Value.ref (g.2.2.1 (91 + i) 0), Value.int j].toArray RJ0 492 yJ0_isLatin1_aae02 cJ0_isLatin1_aae02 1 (some .boolean) (.code yJ0_isLatin1_aae02 cJ0_isLatin1_aae02 1 (some .boolean) :: mo_gw) ms_R0 0 0 0 :=
    callB_of 0 hw (mo_gi (fun w hq => by rcases List.mem_cons.mp hq with rfl | hq; (· exact mo_gB_of (by decide +kernel)); exact hq)) rfl rfl rfl (hw _ (mo_gB_of (show mo_gB (.initialized RJ0) = true by decide +kernel))) (hw _ (mo_gB_of (show mo_gB (.methodLink RJ0 492 yJ0_isLatin1_aae02) = true by decide +kernel))) (by decide +kernel) (by decide)
  refine ms_back (rest := []) (a := [Value.ref (g.2.2.1 (91 + i) 0)].toArray) (va_runV (C := RJ0) (b := g.2.2.1 (91 + i) 0) (As := []) (Ts := mo_gw) ⟨hx, hb, hml, hown, hw⟩ (mt_JI g l σ i hi) ⟨hcb, (hw _ (mo_gB_of (show mo_gB (.instanceMethod yJ0_isLatin1_aae02) = true by decide +kernel))), (hw _ (mo_gB_of (show mo_gB (.selects RJ0 yJ0_isLatin1_aae02 yJ0_isLatin1_aae02) = true by decide +kernel)))⟩ ⟨ms_blind g _ σ, vk_recv (i := i) (adK := fun i => g.2.2.1 (91 + i) 0) hE hi hS, fun U hU hW => ⟨rfl, mo_ok_moved hW (fun a _ _ => by rw [hU]) hok, by rw [hU]; exact hP⟩⟩ rfl rfl hl.1 rfl (lv_room (by simp [Value.category])) (show decode cJ0_charAt_5068e 1 = .ok (.invokevirtual 492, 3) by decide +kernel) ⟨by decide, by decide⟩) hS ?_
  rintro x σ' H' locs' ⟨rfl, rfl⟩ hP' hS'
  refine lv_if_eq (tgt := 16) hx hb (show decode cJ0_charAt_5068e 4 = .ok (.ifCond .eq 12, 3) by decide +kernel) (by decide) (fun q => absurd q (by decide)) (fun _ => ?_)
  refine lv_aload_n hx hb (show decode cJ0_charAt_5068e 7 = .ok (.aload_n 0, 1) by decide +kernel) rfl l0 ?_
  refine vk_getf hx hb hEi.2.2.1 hS' hown (hw _ (mo_gB_of (show mo_gB (.fieldLink RJ0 9 "java/lang/String" "value" "[B") = true by decide +kernel))) (fun _ h => h) (show decode cJ0_charAt_5068e 8 = .ok (.getfield 9, 3) by decide +kernel) ?_
  refine lv_iload_n hx hb (show decode cJ0_charAt_5068e 11 = .ok (.iload_n 1, 1) by decide +kernel) rfl l1 ?_
  have hcb2 : CallB ms_R3 s [Value.ref (g.2.2.1 (91 + i) 0), Value.int j].toArray RJ0 495 yJ1_charAt_3b067 cJ1_charAt_3b067 2 (some .char) (.code yJ1_charAt_3b067 cJ1_charAt_3b067 2 (some .char) :: mo_gw) ms_R2 0 0 2 :=
    callB_of 2 hw (mo_gi (fun w hq => by rcases List.mem_cons.mp hq with rfl | hq; (· exact mo_gB_of (by decide +kernel)); exact hq)) rfl rfl rfl (hw _ (mo_gB_of (show mo_gB (.initialized RJ1) = true by decide +kernel))) (hw _ (mo_gB_of (show mo_gB (.methodLink RJ0 495 yJ1_charAt_3b067) = true by decide +kernel))) (by decide +kernel) (by decide)
  have hok' : ∀ U : State, U.heap = H' → s.WarmedH U.vm → mo_ok g U := fun U hU hW => mo_ok_moved hW (fun a h1 h2 => by rw [hU]; exact hS'.2.1 a h1 h2) hok
  refine ms_back (rest := []) (a := [Value.ref (adV i), Value.int j].toArray) (va_runS (As := [Value.ref (adV i), Value.int j]) (Ts := mo_gw) ⟨hx, hb, hml, hown, hw⟩ (mt_JL g l σ' (adV i) _ _ j _ hj hlen.1 hv2.1 hv2.2) ⟨hcb2, (hw _ (mo_gB_of (show mo_gB (.static yJ1_charAt_3b067) = true by decide +kernel)))⟩ ⟨ms_blindT g _ σ' _ _ _, fun U hU hW => ⟨rfl, hok' U hU hW, by rw [hU]; exact hP', va_T.kept (va_T.moved hW.alike hEi.2.2.2) (fun a h1 h2 => by rw [hU]; exact hS'.2.1 a h1 h2)⟩⟩ rfl rfl hl.1 rfl (lv_room (by simp)) (show decode cJ0_charAt_5068e 12 = .ok (.invokestatic 495, 3) by decide +kernel) ⟨by decide, by decide⟩) hS' ?_
  rintro x σ2 H2 locs2 ⟨rfl, rfl⟩ hP2 hS2
  exact W.zret (ty := .char) hx hb hr hv2.2 (fun t ht _ => ms_iret hP2 hS2 ht) hS2.2.2 (show decode cJ0_charAt_5068e 15 = .ok (.ireturn, 1) by decide +kernel)
def S_J0_length_8abf5 : mo_S := fun as σ Q => ∃ o : Nat, as = [.inr (.inr (o, 0))] ∧ (91 ≤ o ∧ o ≤ 94) ∧ Q (some (.inl (mo_sl o))) σ
theorem m_J0_length_8abf5 : ∀ (as : List mo_V) (σ : mo_M) (P P' : mo_Q), (∀ x τ, P x τ → P' x τ) → S_J0_length_8abf5 as σ P → S_J0_length_8abf5 as σ P' := by
  rintro as σ P P' h ⟨o, e, hp, hq⟩
  exact ⟨o, e, hp, h _ _ hq⟩
def S_J0_charAt_5068e : mo_S := fun as σ Q => ∃ o : Nat, ∃ j : Int32, as = [.inr (.inr (o, 0)), .inl j] ∧ ((91 ≤ o ∧ o ≤ 94) ∧ vp_in j (mo_sl o).toNatClampNeg) ∧ Q (some (.inl (mo_sc o j.toNatClampNeg))) σ
theorem m_J0_charAt_5068e : ∀ (as : List mo_V) (σ : mo_M) (P P' : mo_Q), (∀ x τ, P x τ → P' x τ) → S_J0_charAt_5068e as σ P → S_J0_charAt_5068e as σ P' := by
  rintro as σ P P' h ⟨o, j, e, hp, hq⟩
  exact ⟨o, j, e, hp, h _ _ hq⟩
set_option maxHeartbeats 4000000 in
theorem ck_J0_length_8abf5 (g : mo_E) : mo_cok g t_X7_takeWord (1, true, 80, 50, S_J0_length_8abf5) := by
  intro pc hd Q ls as rest σ hn hcat hrc hsp
  obtain ⟨o, rfl, ho, hX⟩ := hsp
  obtain ⟨i, rfl⟩ : ∃ i, o = 91 + i := ⟨o - 91, by omega⟩
  have hi : i < 4 := by omega
  intro p l e s m args below meth c cells slots QQ C H locs A hP hS hl
  obtain ⟨hx, hb, hml, hown, hw, hok, hcs, hret⟩ := id C
  have hok2 := hok
  obtain ⟨adV, hE⟩ := hok2.2.2.2.2.2.2.2.2.1
  have hcb : CallB t_X7_takeWord.2.2.2.2 s args t_X7_takeWord.2.1 80 yJ0_length_8abf5 cJ0_length_8abf5 1 (some .int) (.code yJ0_length_8abf5 cJ0_length_8abf5 1 (some .int) :: mo_gw) ms_RL 0 0 0 :=
    callB_of 0 hw (mo_gi (fun w hq => by rcases List.mem_cons.mp hq with rfl | hq; (· exact mo_gB_of (by decide +kernel)); exact hq)) rfl rfl rfl (hw _ (mo_gB_of (show mo_gB (.initialized RJ0) = true by decide +kernel))) (hw _ (mo_gB_of (show mo_gB (.methodLink RX7 80 yJ0_length_8abf5) = true by decide +kernel))) (by decide +kernel) (by decide)
  rw [List.map_append]
  refine mo_back (rest := rest) (Q' := ms_is (mo_sl (91 + i)) σ) (a := (Value.ref (g.2.2.1 (91 + i) 0) :: []).toArray) C ?_ hS hl (fun x σ' q => by obtain ⟨rfl, rfl⟩ := q; exact hX)
  exact va_runV (C := RJ0) (b := g.2.2.1 (91 + i) 0) (As := []) (Ts := mo_gw) ⟨hx, hb, hml, hown, hw⟩ (mt_JN g l σ i (by omega)) ⟨hcb, hw _ (mo_gB_of (show mo_gB (.instanceMethod yJ0_length_8abf5) = true by decide +kernel)), hw _ (mo_gB_of (show mo_gB (.selects RJ0 yJ0_length_8abf5 yJ0_length_8abf5) = true by decide +kernel))⟩ ⟨ms_blind g _ σ, vk_recv (i := i) (adK := fun i => g.2.2.1 (91 + i) 0) hE hi hS, fun U hU hW => ⟨rfl, mo_ok_moved hW (fun a h1 h2 => by rw [hU]; exact hS.2.1 a h1 h2) hok, by rw [hU]; exact hP⟩⟩ rfl rfl hl.1 rfl (lv_room (by rw [mo_catv]; exact hcat)) hd ⟨by simpa using hcs.1, by simpa using hcs.2⟩
set_option maxHeartbeats 4000000 in
theorem ck_J0_charAt_5068e (g : mo_E) : mo_cok g t_X7_takeWord (2, true, 91, 50, S_J0_charAt_5068e) := by
  intro pc hd Q ls as rest σ hn hcat hrc hsp
  obtain ⟨o, j, rfl, ⟨ho, hin⟩, hX⟩ := hsp
  obtain ⟨i, rfl⟩ : ∃ i, o = 91 + i := ⟨o - 91, by omega⟩
  have hi : i < 4 := by omega
  intro p l e s m args below meth c cells slots QQ C H locs A hP hS hl
  obtain ⟨hx, hb, hml, hown, hw, hok, hcs, hret⟩ := id C
  have hok2 := hok
  obtain ⟨adV, hE⟩ := hok2.2.2.2.2.2.2.2.2.1
  have hcb : CallB t_X7_takeWord.2.2.2.2 s args t_X7_takeWord.2.1 91 yJ0_charAt_5068e cJ0_charAt_5068e 2 (some .char) (.code yJ0_charAt_5068e cJ0_charAt_5068e 2 (some .char) :: mo_gw) ms_R3 0 0 1 :=
    callB_of 1 hw (mo_gi (fun w hq => by rcases List.mem_cons.mp hq with rfl | hq; (· exact mo_gB_of (by decide +kernel)); exact hq)) rfl rfl rfl (hw _ (mo_gB_of (show mo_gB (.initialized RJ0) = true by decide +kernel))) (hw _ (mo_gB_of (show mo_gB (.methodLink RX7 91 yJ0_charAt_5068e) = true by decide +kernel))) (by decide +kernel) (by decide)
  rw [List.map_append]
  refine mo_back (rest := rest) (Q' := ms_is (mo_sc (91 + i) j.toNatClampNeg) σ) (a := (Value.ref (g.2.2.1 (91 + i) 0) :: [Value.int j]).toArray) C ?_ hS hl (fun x σ' q => by obtain ⟨rfl, rfl⟩ := q; exact hX)
  exact va_runV (C := RJ0) (b := g.2.2.1 (91 + i) 0) (As := [Value.int j]) (Ts := mo_gw) ⟨hx, hb, hml, hown, hw⟩ (mt_JA g l σ i (by omega) j hin) ⟨hcb, hw _ (mo_gB_of (show mo_gB (.instanceMethod yJ0_charAt_5068e) = true by decide +kernel)), hw _ (mo_gB_of (show mo_gB (.selects RJ0 yJ0_charAt_5068e yJ0_charAt_5068e) = true by decide +kernel))⟩ ⟨ms_blind g _ σ, vk_recv (i := i) (adK := fun i => g.2.2.1 (91 + i) 0) hE hi hS, fun U hU hW => ⟨rfl, mo_ok_moved hW (fun a h1 h2 => by rw [hU]; exact hS.2.1 a h1 h2) hok, by rw [hU]; exact hP⟩⟩ rfl rfl hl.1 rfl (lv_room (by rw [mo_catv]; exact hcat)) hd ⟨by simpa using hcs.1, by simpa using hcs.2⟩
