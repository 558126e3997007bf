/-! an object made by its constructor: the frame rule with the new object at the end of the world -/
theorem mk_sufP {D : va_G} {cl : List vw_C} {wr wc : va_W} {H : Heap} (h : va_P D cl (wr ++ wc) H) : va_P D cl wc H := fun k x hx => h (wr.length + k) x (by rw [List.getElem?_append_right (by omega), Nat.add_sub_cancel_left]; exact hx)
theorem mk_preP {D : va_G} {cl : List vw_C} {wr wc : va_W} {H : Heap} (h : va_P D cl (wr ++ wc) H) : va_P D cl wr H := fun k x hx => h k x (by rw [List.getElem?_append_left (List.getElem?_eq_some_iff.mp hx).1]; exact hx)
theorem mk_sufD {A : Nat → Prop} {wr wc : va_W} (h : va_D A (wr ++ wc)) : va_D A wc := by
  have e : ∀ k (x : Nat × va_E), wc[k]? = some x → (wr ++ wc)[wr.length + k]? = some x := fun k x hx => by rw [List.getElem?_append_right (by omega), Nat.add_sub_cancel_left]; exact hx
  refine ⟨fun i j x y hi hj hxy => ?_, fun k x hx => h.2 _ x (e k x hx)⟩
  have := h.1 _ _ x y (e i x hi) (e j y hj) hxy
  omega
theorem mk_preD {A : Nat → Prop} {wr wc : va_W} (h : va_D A (wr ++ wc)) : va_D A wr := by
  have e : ∀ k (x : Nat × va_E), wr[k]? = some x → (wr ++ wc)[k]? = some x := fun k x hx => by rw [List.getElem?_append_left (List.getElem?_eq_some_iff.mp hx).1]; exact hx
  exact ⟨fun i j x y hi hj hxy => h.1 _ _ x y (e i x hi) (e j y hj) hxy, fun k x hx => h.2 _ x (e k x hx)⟩
theorem mk_free {A0 : Nat → Prop} {wr wc : va_W} {H0 H : Heap} {locs : List Loc} (hD : va_D A0 (wr ++ wc)) (hS : va_S A0 H0 H locs) (hA : ∀ q, H0.size ≤ q → A0 q) : ∀ q, va_A wc H.size q → A0 q := by
  rintro q (⟨k, e, h⟩ | h)
  · exact (mk_sufD hD).2 k (q, e) h
  · exact hA q (Nat.le_trans hS.1 h)
theorem mk_join {A0 : Nat → Prop} {D : va_G} {cl : List vw_C} {wr wc w1 : va_W} {H H1 : Heap} (hP : va_P D cl (wr ++ wc) H) (hD : va_D A0 (wr ++ wc)) (hk : ∀ q : Nat, q < H.size → ¬ va_A wc H.size q → H1[q]? = H[q]?) (hF : ∀ q, va_A wc H.size q → A0 q) (hP1 : va_P D cl w1 H1) (hD1 : va_D (va_A wc H.size) w1) : va_P D cl (wr ++ w1) H1 ∧ va_D A0 (wr ++ w1) := by
  have hlt : ∀ (k : Nat) (x : Nat × va_E), wr[k]? = some x → x.1 < H.size := fun k x hx => (mk_preP hP k x hx).lt
  have hnot : ∀ (k : Nat) (x : Nat × va_E), wr[k]? = some x → ¬ va_A wc H.size x.1 := by
    rintro k x hx (⟨k2, e2, h2⟩ | h2)
    · have hk := (List.getElem?_eq_some_iff.mp hx).1
      have h3 : (wr ++ wc)[wr.length + k2]? = some (x.1, e2) := by rw [List.getElem?_append_right (by omega), Nat.add_sub_cancel_left]; exact h2
      have := hD.1 k (wr.length + k2) x (x.1, e2) (by rw [List.getElem?_append_left hk]; exact hx) h3 rfl
      omega
    · exact absurd (hlt k x hx) (by omega)
  refine ⟨((mk_preP hP).kept (fun k x hx => hk x.1 (hlt k x hx) (hnot k x hx))).app hP1, va_D.app (mk_preD hD) (hD1.weaken (fun _ q _ h => hF q.1 h)) (fun i j a b hi hj e => ?_)⟩
  exact hnot i a hi (by rw [e]; exact hD1.2 j b hj)
def mk_oB (pc k idC idI idF : Nat) (Cj : String) (Nj : Nat) (y : MethodName) (bytesj : ByteArray) : Bool := decide (decode cX11_init pc = .ok (.aload_n 0, 1)) && decide (decode cX11_init (pc + 1) = .ok (.new idC, 3)) && decide (decode cX11_init (pc + 1 + 3) = .ok (.dup, 1)) && decide (decode cX11_init (pc + 1 + 3 + 1) = .ok (.invokespecial idI, 3)) && decide (decode cX11_init (pc + 1 + 3 + 1 + 3) = .ok (.putfield idF, 3)) &&
  [Cond.classLink RX11 idC Cj, .instantiable Cj Nj, .initialized Cj, .code y bytesj 1 none, .instanceMethod y, .fieldLink RX11 idF (TX11 k).1 (TX11 k).2.1 (TX11 k).2.2.1].all mo_gB && decide (y.cls = Cj ∧ y.name = "<init>" ∧ y.cls ≠ "java/lang/invoke/MethodHandle" ∧ y.cls ≠ "java/lang/invoke/VarHandle" ∧ (parseMethodDescriptor y.desc).map (fun d => d.parameters.length) = some 0) && Nat.blt k 15 && (TX11 k).2.2.2 && decide ((TX11 k).1 = RX11) && decide (parseFieldDescriptor (TX11 k).2.2.1 = some (.object Cj))
section MKO
variable {p : Program} {l : Launch} {e : Env} {R : Room} {s : State} {m : MethodId} {args : Array Value} {below : List Frame} {meth : Method} {c : Code} {Q : State → Prop} {D : va_G} {cA : Nat → ClassId} {A : Nat → Prop}
set_option maxHeartbeats 4000000 in
theorem mk_obj (C : mk_cx RX11 cX11_init 2 D cA A p s m args meth c) {Cj : String} {cj Nj : Nat} {Tj : u_T} {tyj : Nat → FieldType} (hcj : mk_cl cj Cj Tj Nj tyj) (y : MethodName) {bytesj : ByteArray} {mc ms : Nat} {f0 : List Value} {Z : Nat → va_W → State → Prop} (hM : ∀ q sz, Met l y (.code y bytesj 1 none :: mo_gw) ({ frames := 1, cells := mc, slots := ms, locals := 12 }) (mk_Pc D cA [.ref q] sz [(q, .inr (cj, f0))] (fun _ => True)) (mk_Qc D (Z q) (va_A [(q, .inr (cj, f0))] sz)) mc ms (va_A [(q, .inr (cj, f0))] sz)) (pc k idC idI idF : Nat) (hck : mk_oB pc k idC idI idF Cj Nj y bytesj = true) (hnest : va_Nw (.methodLinkNest RX11 idI y RX11) s) (hf0 : ∀ j, j < Nj → defaultValue (tyj j) = vp_V f0 j)
    {h0 : Nat} {fs : List Value} {wr : va_W} {H : Heap} {locs : List Loc} {cells slots : Nat} {ls : Array Slot} (hl : lv_has ls 2 [(0, .ref h0)]) (hfs : fs.length = 15) (hP : va_P D vwCl ((h0, .inr (11, fs)) :: wr) H) (hD : va_D A ((h0, .inr (11, fs)) :: wr)) (hS : va_S A s.heap H locs) (hRf : 2 ≤ R.frames) (hRl : 32 ≤ R.locals) (hcells : cells + 1 + mc ≤ R.cells) (hslots : slots + Nj + ms ≤ R.slots)
    (kk : ∀ (q : Nat) (w1 : va_W) (t : State) (H1 : Heap) (locs1 : List Loc), Z q w1 t → va_P D vwCl ((h0, .inr (11, fs.set k (.ref q))) :: (wr ++ w1)) H1 → va_D A ((h0, .inr (11, fs.set k (.ref q))) :: (wr ++ w1)) → va_S A s.heap H1 locs1 → W p l e R s m args below meth c H1 locs1 (cells + 1 + mc) (slots + Nj + ms) Q (F0 m (pc + 1 + 3 + 1 + 3 + 3) ls [])) : W p l e R s m args below meth c H locs cells slots Q (F0 m pc ls []) := by
  obtain ⟨hx, hb, hml, hown, hw, hin, hK, hA⟩ := id C
  obtain ⟨c1, c2, c3, c4⟩ := id hcj
  obtain ⟨b1, b2, b3, b4⟩ := mk_clX11
  unfold mk_oB at hck
  simp only [Bool.and_eq_true, decide_eq_true_eq, List.all_cons, List.all_nil, and_true] at hck
  obtain ⟨⟨⟨⟨⟨⟨⟨⟨⟨⟨d1, d2⟩, d3⟩, d4⟩, d5⟩, g1, g2, g3, g4, g5, g6⟩, n1, n2, n3, n4, n5⟩, d6⟩, d7⟩, d8⟩, d9⟩ := hck
  have d6 : k < 15 := Nat.le_of_ble_eq_true d6
  refine lv_aload_n hx hb d1 rfl (lv_at hl 0 rfl) ?_
  refine va_new (ci := cj) (fs := f0) (C := Cj) (T := Tj) (N := Nj) hx hb hw c2 tyj c3 hown (hw _ (mo_gB_of g1)) (hw _ (mo_gB_of g2)) (hw _ (mo_gB_of g3)) hK hP hD hS hA c1 hf0 (by omega) (by omega) d2 (fun q H1 hP1 hD1 hS1 => ?_)
  refine lv_dup hx hb d3 rfl ?_
  have hFc := mk_free (wc := [(q, .inr (cj, f0))]) hD1 hS1 hA
  have hPc := mk_sufP (wc := [(q, .inr (cj, f0))]) hP1
  have hDc := mk_sufD (wc := [(q, .inr (cj, f0))]) hD1
  have hcw : va_CN R s args RX11 idI y RX11 bytesj 1 none (.code y bytesj 1 none :: mo_gw) ({ frames := 1, cells := mc, slots := ms, locals := 12 }) mc ms 0 := va_cnB 0 hw (mo_gi (fun w h => by rcases List.mem_cons.mp h with rfl | h; (· exact mo_gB_of g4); exact h)) rfl rfl rfl hnest (by rw [n1]; exact hw _ (mo_gB_of g3)) ⟨n3, n4, n5⟩ ⟨hRf, hRl⟩
  refine va_callv (va_runIN (As := []) (rest := [.ref q, .ref h0]) (Ts := mo_gw) ⟨hx, hb, hml, hown, hw⟩ (hM q H1.size) ⟨hcw, n2, hw _ (mo_gB_of g5)⟩ ⟨mk_blind _ _ _ _ _ (fun _ _ _ _ h => h), fun U hU hW => ⟨rfl, by rw [hU], by rw [hU]; exact hPc, va_K.moved hW.alike hK, hDc.weaken (fun _ _ _ _ => trivial), trivial⟩⟩ rfl rfl hl.1 rfl (lv_room (Nat.le_of_ble_eq_true rfl)) d4 ⟨by omega, by omega⟩) hS1 (fun q _ h => hFc q h) hFc (fun w1 t H2 locs2 ht hvm _ hB hz1 hk1 hS2 => ?_)
  obtain ⟨hZ, hPw, hDw⟩ := hB
  rw [ht] at hPw
  obtain ⟨hP3, hD3⟩ := mk_join hP1 hD1 hk1 hFc hPw hDw
  refine va_putF (D := D) (ci := 11) (v := .ref q) (ty := .object Cj) (C := RX11) (T := TX11) (N := 15) (ref := (TX11 k).1) hx hb hw b2 tyX11 b3 b4 hown hK hP3 hD3 hS2 0 rfl b1 k d6 (hw _ (mo_gB_of g6)) (fun _ h => h) d7 hin d8 d9 rfl rfl (by omega) d5 (fun H3 locs3 hP4 hD4 hS4 => ?_)
  exact kk q w1 t H3 locs3 hZ hP4 hD4 hS4
end MKO
def it_X7 : List mk_I := [(4, 1, 0, 0, 1, 11), (9, 1, 0, 0, 2, 15), (14, 1, 0, 0, 3, 18), (19, 1, 0, 0, 4, 21), (24, 1, 0, 0, 5, 24)]
abbrev f0_X7 : List Value := [.null, .int 0, .int 0, .int 0, .int 0, .int 0]
set_option maxHeartbeats 4000000 in
theorem ci_X7 (l : Launch) (D : va_G) (cA : Nat → ClassId) (h0 q0 sz : Nat) : Met l yX7_init (.code yX7_init cX7_init 2 none :: mo_gw) ({ frames := 1, cells := 0, slots := 0, locals := 12 }) (mk_Pc D cA [.ref h0, .ref q0] sz [(h0, .inr (7, f0_X7))] (fun _ => True)) (mk_Qc D (fun w _ => w = [(h0, .inr (7, [.ref q0, .int 0, .int 0, .int 0, .int 0, .int 0]))]) (va_A [(h0, .inr (7, f0_X7))] sz)) 0 0 (va_A [(h0, .inr (7, f0_X7))] sz) := by
  refine Met.ofW (cc := cX7_init) (maxL := 2) (ret := none) (by decide) rfl ?_
  intro p e s m args below meth c s₁ B hml hv
  obtain ⟨rfl, hsz, hP, hK, hD0, -⟩ := hv
  have hx := B.exec
  have hb := B.bytes
  have hr := B.returns
  have hts := atoms_spec (ws := .code yX7_init cX7_init 2 none :: mo_gw) B.pre
  have hw : ∀ w ∈ mo_gw, w.before _ s = true := fun w h => hts w (List.mem_cons_of_mem _ h)
  have hown : s.vm.findClass RX7 = some m.cls := findClass_of_methodNamed B.named
  have hlocks := B.notSynchronized
  have hin : meth.name = "<init>" := (name_of_methodNamed B.named B.method).1
  subst hsz
  have hD := hD0.self (sz := s.heap.size)
  generalize hAe : va_A [(h0, .inr (7, f0_X7))] s.heap.size = A at hD ⊢
  have hA : ∀ q : Nat, s.heap.size ≤ q → A q := fun q h => by rw [← hAe]; exact Or.inr h
  have hS : va_S A s.heap s.heap [] := va_S.rf
  have hP : va_P D vwCl [(h0, .inr (7, f0_X7))] s.heap := hP
  have hl := lv_entry ([.ref h0, .ref q0]) (n := 2) (Nat.le_of_ble_eq_true rfl)
  rw [lg_entry_eq]
  generalize (lg_sl ([.ref h0, .ref q0]) ++ List.replicate (2 - (lg_sl ([.ref h0, .ref q0])).length) Slot.unset).toArray = ls at hl ⊢
  have hl : lv_has ls 2 [(0, .ref h0), (1, .ref q0)] := hl
  obtain ⟨b1, b2, b3, b4⟩ := mk_clX7
  refine lv_aload_n hx hb (by decide +kernel : decode cX7_init 0 = .ok (.aload_n 0, 1)) rfl (lv_at hl 0 rfl) ?_
  refine W.objInit hx hb hown (hw (.methodLink RX7 3 objectInit) (mo_gB_of (by decide +kernel))) (hw (.instanceMethod objectInit) (mo_gB_of (by decide +kernel))) (hw (.code objectInit ⟨#[0xb1]⟩ 1 none) (mo_gB_of (by decide +kernel))) rfl (by rw [hml]; exact hl.1) rfl (by decide +kernel : decode cX7_init 1 = .ok (.invokespecial 3, 3)) (Nat.le_of_ble_eq_true rfl) (Nat.le_of_ble_eq_true rfl) ?_
  refine W.eq (g2 := F0 m 4 ls []) rfl ?_
  refine mk_items (nL := 2) (cA := cA) ⟨hx, hb, hml, hown, hw, hin, hK, hA⟩ mk_clX7 (lv_at hl 0 rfl) 29 it_X7 4 0 f0_X7 [] s.heap [] 0 0 rfl (by decide +kernel) (by decide +kernel) hP hD hS (Nat.le_of_ble_eq_true rfl) (Nat.le_of_ble_eq_true rfl) (fun q H1 locs1 hP1 hD1 hS1 => ?_)
  refine W.widen (k := 0) (n := 0) (Nat.le_of_ble_eq_true rfl) (Nat.le_of_ble_eq_true rfl) ?_
  refine lv_aload_n hx hb (by decide +kernel : decode cX7_init 29 = .ok (.aload_n 0, 1)) rfl (lv_at hl 0 rfl) ?_
  refine lv_aload_n hx hb (by decide +kernel : decode cX7_init 30 = .ok (.aload_n 1, 1)) rfl (lv_at hl 1 rfl) ?_
  refine va_putF (D := D) (ci := 7) (v := .ref q0) (ty := .object RX8) (C := RX7) (T := TX7) (N := 6) (ref := RX7) hx hb hw b2 tyX7 b3 b4 hown hK hP1 hD1 hS1 0 rfl b1 0 (by decide) (hw (.fieldLink RX7 27 RX7 (TX7 0).2.1 (TX7 0).2.2.1) (mo_gB_of (by decide +kernel))) (fun _ h => h) rfl hin rfl (by decide +kernel) rfl rfl (Nat.le_of_ble_eq_true rfl) (by decide +kernel : decode cX7_init 31 = .ok (.putfield 27, 3)) (fun H2 locs2 hP2 hD2 hS2 => ?_)
  exact W.vret hx hb hr (fun t ht hW => ⟨⟨[(h0, .inr (7, [.ref q0, .int 0, .int 0, .int 0, .int 0, .int 0]))], rfl, trivial, rfl, by rw [ht]; exact hP2, hD2⟩, hS2.F ht⟩) hS2.2.2 (by decide +kernel : decode cX7_init 34 = .ok (.return_, 1))
