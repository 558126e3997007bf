/-! constructors: fields that get new arrays of numbers, or a number -/
abbrev mk_ty (cA : Nat → ClassId) : List (ClassId × FieldType) := [(cA 1, .int), (cA 2, .long), (cA 3, .boolean), (cA 4, .byte)]
/-- an item: its place, how long its push is, the number, 0 or the kind of array, the field, its place in the pool -/
abbrev mk_I : Type := Nat × Nat × Int × Nat × Nat × Nat
def mk_at : Nat → ArrayType
  | 1 => .int
  | 2 => .long
  | 3 => .boolean
  | _ => .byte
def mk_el : Nat → FieldType
  | 1 => .int
  | 2 => .long
  | 3 => .boolean
  | _ => .byte
def mk_a0 (t n : Nat) : vp_A := match t with
  | 2 => (n, .inr (.inl (fun _ => 0)))
  | _ => (n, .inl (fun _ => 0))
def mk_fs : List mk_I → (Nat → Nat) → Nat → List Value → List Value
  | [], _, _, fs => fs
  | (_, _, n, 0, k, _) :: r, q, j, fs => mk_fs r q j (fs.set k (.int (Int32.ofInt n)))
  | (_, _, _, _ + 1, k, _) :: r, q, j, fs => mk_fs r q (j + 1) (fs.set k (.ref (q j)))
def mk_ws (cA : Nat → ClassId) : List mk_I → (Nat → Nat) → Nat → va_W
  | [], _, _ => []
  | (_, _, _, 0, _, _) :: r, q, j => mk_ws cA r q j
  | (_, _, n, t + 1, _, _) :: r, q, j => (q j, .inl (cA (t + 1), mk_a0 (t + 1) n.toNat)) :: mk_ws cA r q (j + 1)
def mk_nc : List mk_I → Nat
  | [] => 0
  | (_, _, _, 0, _, _) :: r => mk_nc r
  | (_, _, _, _ + 1, _, _) :: r => mk_nc r + 1
def mk_ns : List mk_I → Nat
  | [] => 0
  | (_, _, _, 0, _, _) :: r => mk_ns r
  | (_, _, n, _ + 1, _, _) :: r => mk_ns r + n.toNat
def mk_pushB (bytes : ByteArray) (pc pl : Nat) (n : Int) : Bool := match pl with
  | 1 => decide (decode bytes pc = .ok (.iconst n, 1))
  | 2 => decide (decode bytes pc = .ok (.bipush n, 2)) && decide ((Int8.ofInt n).toInt32 = Int32.ofInt n)
  | 3 => decide (decode bytes pc = .ok (.sipush n, 3)) && decide ((Int16.ofInt n).toInt32 = Int32.ofInt n)
  | _ => false
def mk_ck (own : String) (bytes : ByteArray) (T : u_T) (N : Nat) (i : mk_I) : Bool := match i with
  | (pc, pl, n, t, k, idx) => decide (decode bytes pc = .ok (.aload_n 0, 1)) && mk_pushB bytes (pc + 1) pl n && Nat.blt k N && decide ((T k).1 = own) && mo_gB (.fieldLink own idx (T k).1 (T k).2.1 (T k).2.2.1) &&
    (match t with
    | 0 => decide (decode bytes (pc + 1 + pl) = .ok (.putfield idx, 3)) && !(T k).2.2.2 && decide ((T k).2.2.1 = "I")
    | t + 1 => decide (decode bytes (pc + 1 + pl) = .ok (.newarray (mk_at (t + 1)), 2)) && decide (decode bytes (pc + 1 + pl + 2) = .ok (.putfield idx, 3)) && (T k).2.2.2 && decide (parseFieldDescriptor (T k).2.2.1 = some (.array (mk_el (t + 1)))) && decide (¬ Int32.ofInt n < 0 ∧ (Int32.ofInt n).toNatClampNeg = n.toNat ∧ n.toNat * componentBytes (mk_el (t + 1)) ≤ 536870912) && mo_gB (.arrayClass (mk_el (t + 1))) && Nat.blt t 4)
def mk_ch : Nat → List mk_I → Nat → Bool
  | pc, [], pe => Nat.beq pc pe
  | pc, (p, pl, _, 0, _, _) :: r, pe => Nat.beq pc p && mk_ch (p + 1 + pl + 3) r pe
  | pc, (p, pl, _, _ + 1, _, _) :: r, pe => Nat.beq pc p && mk_ch (p + 1 + pl + 2 + 3) r pe
def mk_cl (ci : Nat) (own : String) (T : u_T) (N : Nat) (ty0 : Nat → FieldType) : Prop := vwCl[ci]? = some (own, T, N) ∧ (∀ w ∈ u_ws own T N, w ∈ mo_gw) ∧ (∀ k, k < N → parseFieldDescriptor (T k).2.2.1 = some (ty0 k)) ∧ ∀ a, a < N → ∀ b, b < N → a ≠ b → (T a).2.1 ≠ (T b).2.1
/-- what a constructor's body knows -/
def mk_cx (own : String) (bytes : ByteArray) (nL : Nat) (D : va_G) (cA : Nat → ClassId) (A : Nat → Prop) (p : Program) (s : State) (m : MethodId) (args : Array Value) (meth : Method) (c : Code) : Prop :=
  p.tables.exec = Jvm.exec ∧ c.code = bytes ∧ c.maxLocals = nL ∧ s.vm.findClass own = some m.cls ∧ (∀ w ∈ mo_gw, w.before args s = true) ∧ meth.name = "<init>" ∧ va_K D vwCl (mk_ty cA) s ∧ (∀ q, s.heap.size ≤ q → A q)
theorem mk_fs_c : ∀ (is : List mk_I) (q q' : Nat → Nat) (j : Nat) (fs : List Value), (∀ i, j ≤ i → q i = q' i) → mk_fs is q j fs = mk_fs is q' j fs
  | [], _, _, _, _, _ => rfl
  | (_, _, _, 0, _, _) :: r, q, q', j, fs, h => mk_fs_c r q q' j _ h
  | (_, _, _, _ + 1, k, _) :: r, q, q', j, fs, h => by
    show mk_fs r q (j + 1) (fs.set k (.ref (q j))) = mk_fs r q' (j + 1) (fs.set k (.ref (q' j)))
    rw [h j (Nat.le_refl _)]
    exact mk_fs_c r q q' (j + 1) _ (fun i hi => h i (by omega))
theorem mk_ws_c (cA : Nat → ClassId) : ∀ (is : List mk_I) (q q' : Nat → Nat) (j : Nat), (∀ i, j ≤ i → q i = q' i) → mk_ws cA is q j = mk_ws cA is q' j
  | [], _, _, _, _ => rfl
  | (_, _, _, 0, _, _) :: r, q, q', j, h => mk_ws_c cA r q q' j h
  | (_, _, n, t + 1, k, _) :: r, q, q', j, h => by
    show (q j, .inl (cA (t + 1), mk_a0 (t + 1) n.toNat)) :: mk_ws cA r q (j + 1) = (q' j, .inl (cA (t + 1), mk_a0 (t + 1) n.toNat)) :: mk_ws cA r q' (j + 1)
    rw [h j (Nat.le_refl _), mk_ws_c cA r q q' (j + 1) (fun i hi => h i (by omega))]
section MK
variable {p : Program} {l : Launch} {e : Env} {R : Room} {s : State} {m : MethodId} {args : Array Value} {below : List Frame} {meth : Method} {c : Code} {Q : State → Prop} {own : String} {bytes : ByteArray} {nL : Nat} {D : va_G} {cA : Nat → ClassId} {A : Nat → Prop}
theorem mk_pushW (hx : p.tables.exec = Jvm.exec) (hb : c.code = bytes) {pc pl : Nat} {n : Int} {H : Heap} {locs : List Loc} {cells slots : Nat} {ls : Array Slot} {rest : List Value} (h : mk_pushB bytes pc pl n = true) (k : W p l e R s m args below meth c H locs cells slots Q (F0 m (pc + pl) ls (.int (Int32.ofInt n) :: rest))) : W p l e R s m args below meth c H locs cells slots Q (F0 m pc ls rest) := by
  unfold mk_pushB at h
  split at h
  · exact lv_iconst hx hb (of_decide_eq_true h) rfl k
  · rw [Bool.and_eq_true] at h
    exact lv_bipush hx hb (of_decide_eq_true h.1) (of_decide_eq_true h.2) k
  · rw [Bool.and_eq_true] at h
    exact lv_sipush hx hb (of_decide_eq_true h.1) (of_decide_eq_true h.2) k
  · cases h
theorem mk_new (C : mk_cx own bytes nL D cA A p s m args meth c) {t N : Nat} {n : Int32} (ht : t < 4) {ws : va_W} {H : Heap} {locs : List Loc} {cells slots pc : Nat} {ls : Array Slot} {rest : List Value} (harr : Cond.arrayClass (mk_el (t + 1)) ∈ mo_gw) (hP : va_P D vwCl ws H) (hD : va_D A ws) (hS : va_S A s.heap H locs) (hn : ¬ n < 0) (hN : n.toNatClampNeg = N) (hbytes : N * componentBytes (mk_el (t + 1)) ≤ 536870912) (hcells : cells + 1 ≤ R.cells) (hslots : slots + N ≤ R.slots) (hdg : decode bytes pc = .ok (.newarray (mk_at (t + 1)), 2))
    (kk : ∀ (q : Nat) (H1 : Heap), va_P D vwCl (ws ++ [(q, .inl (cA (t + 1), mk_a0 (t + 1) N))]) H1 → va_D A (ws ++ [(q, .inl (cA (t + 1), mk_a0 (t + 1) N))]) → va_S A s.heap H1 locs → W p l e R s m args below meth c H1 locs (cells + 1) (slots + N) Q (F0 m (pc + 2) ls (.ref q :: rest))) : W p l e R s m args below meth c H locs cells slots Q (F0 m pc ls (.int n :: rest)) := by
  obtain ⟨hx, hb, hml, hown, hw, hin, hK, hA⟩ := C
  rcases (by omega : t = 0 ∨ t = 1 ∨ t = 2 ∨ t = 3) with rfl | rfl | rfl | rfl
  · refine va_newa (atype := .int) (ty := .int) (a0 := mk_a0 1 N) hx hb (hw _ harr) rfl hK hP hD hS hA (fun _ => rfl) hn hN hbytes hcells hslots hdg (fun q c' H1 hK1 hP1 hD1 hS1 => ?_)
    have e : c' = cA 1 := Option.some.inj ((show s.vm.findClass ("[" ++ FieldType.int.toString) = some c' from (hK1.2 4 _ rfl).2).symm.trans (hK.2 0 _ rfl).2)
    subst e
    exact kk q H1 hP1 hD1 hS1
  · refine va_newa (atype := .long) (ty := .long) (a0 := mk_a0 2 N) hx hb (hw _ harr) rfl hK hP hD hS hA (fun _ => rfl) hn hN hbytes hcells hslots hdg (fun q c' H1 hK1 hP1 hD1 hS1 => ?_)
    have e : c' = cA 2 := Option.some.inj ((show s.vm.findClass ("[" ++ FieldType.long.toString) = some c' from (hK1.2 4 _ rfl).2).symm.trans (hK.2 1 _ rfl).2)
    subst e
    exact kk q H1 hP1 hD1 hS1
  · refine va_newa (atype := .boolean) (ty := .boolean) (a0 := mk_a0 3 N) hx hb (hw _ harr) rfl hK hP hD hS hA (fun _ => rfl) hn hN hbytes hcells hslots hdg (fun q c' H1 hK1 hP1 hD1 hS1 => ?_)
    have e : c' = cA 3 := Option.some.inj ((show s.vm.findClass ("[" ++ FieldType.boolean.toString) = some c' from (hK1.2 4 _ rfl).2).symm.trans (hK.2 2 _ rfl).2)
    subst e
    exact kk q H1 hP1 hD1 hS1
  · refine va_newa (atype := .byte) (ty := .byte) (a0 := mk_a0 4 N) hx hb (hw _ harr) rfl hK hP hD hS hA (fun _ => rfl) hn hN hbytes hcells hslots hdg (fun q c' H1 hK1 hP1 hD1 hS1 => ?_)
    have e : c' = cA 4 := Option.some.inj ((show s.vm.findClass ("[" ++ FieldType.byte.toString) = some c' from (hK1.2 4 _ rfl).2).symm.trans (hK.2 3 _ rfl).2)
    subst e
    exact kk q H1 hP1 hD1 hS1
set_option maxHeartbeats 4000000 in
theorem mk_items (C : mk_cx own bytes nL D cA A p s m args meth c) {ci N h0 : Nat} {T : u_T} {ty0 : Nat → FieldType} (hc : mk_cl ci own T N ty0) {ls : Array Slot} (hl : ls[0]? = some (.val (.ref h0))) (pe : Nat) : ∀ (is : List mk_I) (pc j : Nat) (fs : List Value) (wr : va_W) (H : Heap) (locs : List Loc) (cells slots : Nat), fs.length = N → mk_ch pc is pe = true → is.all (mk_ck own bytes T N) = true → va_P D vwCl ((h0, .inr (ci, fs)) :: wr) H → va_D A ((h0, .inr (ci, fs)) :: wr) → va_S A s.heap H locs → cells + mk_nc is ≤ R.cells → slots + mk_ns is ≤ R.slots →
    (∀ (q : Nat → Nat) (H1 : Heap) (locs1 : List Loc), va_P D vwCl ((h0, .inr (ci, mk_fs is q j fs)) :: (wr ++ mk_ws cA is q j)) H1 → va_D A ((h0, .inr (ci, mk_fs is q j fs)) :: (wr ++ mk_ws cA is q j)) → va_S A s.heap H1 locs1 → W p l e R s m args below meth c H1 locs1 (cells + mk_nc is) (slots + mk_ns is) Q (F0 m pe ls [])) → W p l e R s m args below meth c H locs cells slots Q (F0 m pc ls [])
  | [], pc, j, fs, wr, H, locs, cells, slots, hf, h1, h2, hP, hD, hS, hz1, hz2, kk => by
    have e : pc = pe := Nat.eq_of_beq_eq_true h1
    subst e
    have k := kk (fun _ => 0) H locs (by show va_P D vwCl ((h0, .inr (ci, fs)) :: (wr ++ [])) H; rw [List.append_nil]; exact hP) (by show va_D A ((h0, .inr (ci, fs)) :: (wr ++ [])); rw [List.append_nil]; exact hD) hS
    exact k
  | (p0, pl, n, 0, k, idx) :: r, pc, j, fs, wr, H, locs, cells, slots, hf, h1, h2, hP, hD, hS, hz1, hz2, kk => by
    obtain ⟨hx, hb, hml, hown, hw, hin, hK, hA⟩ := id C
    obtain ⟨c1, c2, c3, c4⟩ := id hc
    have h1 : (Nat.beq pc p0 && mk_ch (p0 + 1 + pl + 3) r pe) = true := h1
    rw [Bool.and_eq_true] at h1
    have e := Nat.eq_of_beq_eq_true h1.1
    subst e
    rw [List.all_cons, Bool.and_eq_true] at h2
    have h3 := h2.1
    unfold mk_ck at h3
    simp only [Bool.and_eq_true, decide_eq_true_eq, Bool.not_eq_true'] at h3
    obtain ⟨⟨⟨⟨⟨d1, d2⟩, d3⟩, d4⟩, d5⟩, ⟨d6, d7⟩, d8⟩ := h3
    have d3 : k < N := Nat.le_of_ble_eq_true d3
    refine lv_aload_n hx hb d1 rfl hl ?_
    refine mk_pushW hx hb d2 ?_
    refine va_put (D := D) (ci := ci) (v := .int (Int32.ofInt n)) (ty := .int) (C := own) (T := T) (N := N) (ref := (T k).1) hx hb hw c2 ty0 c3 c4 hown hK hP hD hS 0 rfl c1 k d3 (hw _ (mo_gB_of d5)) (fun _ h => h) d7 (by rw [d8]; decide +kernel) rfl rfl (by omega) d6 (fun H1 locs1 hP1 hD1 hS1 => ?_)
    exact mk_items C hc hl pe r _ j (fs.set k (.int (Int32.ofInt n))) wr H1 locs1 cells slots (by rw [List.length_set]; exact hf) h1.2 h2.2 hP1 hD1 hS1 hz1 hz2 kk
  | (p0, pl, n, t + 1, k, idx) :: r, pc, j, fs, wr, H, locs, cells, slots, hf, h1, h2, hP, hD, hS, hz1, hz2, kk => by
    obtain ⟨hx, hb, hml, hown, hw, hin, hK, hA⟩ := id C
    obtain ⟨c1, c2, c3, c4⟩ := id hc
    have h1 : (Nat.beq pc p0 && mk_ch (p0 + 1 + pl + 2 + 3) r pe) = true := h1
    rw [Bool.and_eq_true] at h1
    have e := Nat.eq_of_beq_eq_true h1.1
    subst e
    rw [List.all_cons, Bool.and_eq_true] at h2
    have h3 := h2.1
    unfold mk_ck at h3
    simp only [Bool.and_eq_true, decide_eq_true_eq, Bool.not_eq_true'] at h3
    obtain ⟨⟨⟨⟨⟨d1, d2⟩, d3⟩, d4⟩, d5⟩, ⟨⟨⟨⟨⟨d6, d7⟩, d8⟩, d9⟩, d10⟩, d11⟩, d12⟩ := h3
    have d3 : k < N := Nat.le_of_ble_eq_true d3
    have d12 : t < 4 := Nat.le_of_ble_eq_true d12
    have z1 : cells + (mk_nc r + 1) ≤ R.cells := hz1
    have z2 : slots + (mk_ns r + n.toNat) ≤ R.slots := hz2
    refine lv_aload_n hx hb d1 rfl hl ?_
    refine mk_pushW hx hb d2 ?_
    refine mk_new C d12 (mo_gB_of d11) hP hD hS d10.1 d10.2.1 d10.2.2 (by omega) (by omega) d6 (fun q0 H1 hP1 hD1 hS1 => ?_)
    refine va_putF (D := D) (ci := ci) (v := .ref q0) (ty := .array (mk_el (t + 1))) (C := own) (T := T) (N := N) (ref := (T k).1) hx hb hw c2 ty0 c3 c4 hown hK hP1 hD1 hS1 0 rfl c1 k d3 (hw _ (mo_gB_of d5)) (fun _ h => h) d8 hin d4 d9 rfl rfl (by omega) d7 (fun H2 locs2 hP2 hD2 hS2 => ?_)
    have hP2 : va_P D vwCl ((h0, .inr (ci, fs.set k (.ref q0))) :: (wr ++ [(q0, .inl (cA (t + 1), mk_a0 (t + 1) n.toNat))])) H2 := hP2
    have hD2 : va_D A ((h0, .inr (ci, fs.set k (.ref q0))) :: (wr ++ [(q0, .inl (cA (t + 1), mk_a0 (t + 1) n.toNat))])) := hD2
    refine mk_items C hc hl pe r _ (j + 1) (fs.set k (.ref q0)) (wr ++ [(q0, .inl (cA (t + 1), mk_a0 (t + 1) n.toNat))]) H2 locs2 (cells + 1) (slots + n.toNat) (by rw [List.length_set]; exact hf) h1.2 h2.2 hP2 hD2 hS2 (by omega) (by omega) (fun q H3 locs3 hP3 hD3 hS3 => ?_)
    have e1 : mk_fs ((pc, pl, n, t + 1, k, idx) :: r) (fun i => if i = j then q0 else q i) j fs = mk_fs r q (j + 1) (fs.set k (.ref q0)) := by
      show mk_fs r (fun i => if i = j then q0 else q i) (j + 1) (fs.set k (.ref (if j = j then q0 else q j))) = _
      rw [if_pos rfl]
      exact mk_fs_c r _ _ (j + 1) _ (fun i hi => if_neg (by omega))
    have e2 : mk_ws cA ((pc, pl, n, t + 1, k, idx) :: r) (fun i => if i = j then q0 else q i) j = (q0, .inl (cA (t + 1), mk_a0 (t + 1) n.toNat)) :: mk_ws cA r q (j + 1) := by
      show ((if j = j then q0 else q j), Sum.inl (cA (t + 1), mk_a0 (t + 1) n.toNat)) :: mk_ws cA r (fun i => if i = j then q0 else q i) (j + 1) = _
      rw [if_pos rfl, mk_ws_c cA r _ q (j + 1) (fun i hi => if_neg (by omega))]
    have kq := kk (fun i => if i = j then q0 else q i) H3 locs3
    rw [e1, e2] at kq
    rw [List.append_assoc] at hP3 hD3
    have k2 := kq hP3 hD3 hS3
    have e3 : cells + mk_nc ((pc, pl, n, t + 1, k, idx) :: r) = cells + 1 + mk_nc r := by show cells + (mk_nc r + 1) = _; omega
    have e4 : slots + mk_ns ((pc, pl, n, t + 1, k, idx) :: r) = slots + n.toNat + mk_ns r := by show slots + (mk_ns r + n.toNat) = _; omega
    rw [e3, e4] at k2
    exact k2
end MK
def mk_Pc (D : va_G) (cA : Nat → ClassId) (av : List Value) (sz : Nat) (ws : va_W) (X : State → Prop) : Array Value → State → Prop := va_Pc av (fun U => U.heap.size = sz ∧ va_P D vwCl ws U.heap ∧ va_K D vwCl (mk_ty cA) U ∧ va_D (fun _ => True) ws ∧ X U)
def mk_Qc (D : va_G) (Z : va_W → State → Prop) (A : Nat → Prop) : Array Value → State → Outcome → State → Prop := va_Qv (fun _ : va_W => True) (fun w t => Z w t ∧ va_P D vwCl w t.heap ∧ va_D A w) A
theorem mk_blind (D : va_G) (cA : Nat → ClassId) (av : List Value) (sz : Nat) (ws : va_W) {X : State → Prop} (hX : ∀ U fr mk a, X U → X (State.calling U fr mk a)) : FrameBlind (mk_Pc D cA av sz ws X) := by
  intro a U g mk q
  obtain ⟨q0, q1, qP, qK, qD, qX⟩ := q
  exact ⟨q0, q1, qP, va_K.moved (u := U) (U := U.calling g mk a) (Vm.Alike.refl U.vm) qK, qD, hX U g mk a qX⟩
def mk_all (oi : Nat) (own : String) (bytes : ByteArray) (T : u_T) (N : Nat) (is : List mk_I) (pe : Nat) : Bool := decide (decode bytes 0 = .ok (.aload_n 0, 1)) && decide (decode bytes 1 = .ok (.invokespecial oi, 3)) && mo_gB (.methodLink own oi objectInit) && mo_gB (.instanceMethod objectInit) && mo_gB (.code objectInit ⟨#[0xb1]⟩ 1 none) && mk_ch 4 is pe && is.all (mk_ck own bytes T N)
set_option maxHeartbeats 4000000 in
/-- a constructor that only fills its own fields -/
theorem mk_leaf {own : String} {bytes : ByteArray} {ci N : Nat} {T : u_T} {ty0 : Nat → FieldType} (hc : mk_cl ci own T N ty0) (y : MethodName) (hy : plainName y.cls = true) (hyc : y.cls = own) (hyn : y.name = "<init>") (is : List mk_I) (pe : Nat) (fs0 : List Value) (hfs : fs0.length = N) (oi : Nat) (hck : mk_all oi own bytes T N is pe = true) (hret : decode bytes pe = .ok (.return_, 1)) (l : Launch) (D : va_G) (cA : Nat → ClassId) (h0 sz : Nat) : Met l y (.code y bytes 1 none :: mo_gw) ({ frames := 1, cells := mk_nc is, slots := mk_ns is, locals := 12 }) (mk_Pc D cA [.ref h0] sz [(h0, .inr (ci, fs0))] (fun _ => True)) (mk_Qc D (fun w _ => ∃ q : Nat → Nat, w = (h0, .inr (ci, mk_fs is q 0 fs0)) :: mk_ws cA is q 0) (va_A [(h0, .inr (ci, fs0))] sz)) (mk_nc is) (mk_ns is) (va_A [(h0, .inr (ci, fs0))] sz) := by
  refine Met.ofW (cc := bytes) (maxL := 1) (ret := none) hy rfl ?_
  intro p e s m args below meth c s₁ B hml hv
  obtain ⟨rfl, hsz, hP, hK, hD0, -⟩ := hv
  have hx := B.exec
  have hb := B.bytes
  have hr := B.returns
  have hts := atoms_spec (ws := .code y bytes 1 none :: mo_gw) B.pre
  have hw : ∀ w ∈ mo_gw, w.before _ s = true := fun w h => hts w (List.mem_cons_of_mem _ h)
  have hown : s.vm.findClass own = some m.cls := by rw [← hyc]; exact findClass_of_methodNamed B.named
  have hlocks := B.notSynchronized
  have hin : meth.name = "<init>" := by rw [← hyn]; exact (name_of_methodNamed B.named B.method).1
  subst hsz
  have hD := hD0.self (sz := s.heap.size)
  generalize hAe : va_A [(h0, .inr (ci, fs0))] s.heap.size = A at hD ⊢
  have hA : ∀ q : Nat, s.heap.size ≤ q → A q := fun q h => by rw [← hAe]; exact Or.inr h
  have hS : va_S A s.heap s.heap [] := va_S.rf
  have hP : va_P D vwCl [(h0, .inr (ci, fs0))] s.heap := hP
  have hl := lv_entry ([.ref h0]) (n := 1) (Nat.le_of_ble_eq_true rfl)
  rw [lg_entry_eq]
  generalize (lg_sl ([.ref h0]) ++ List.replicate (1 - (lg_sl ([.ref h0])).length) Slot.unset).toArray = ls at hl ⊢
  have hl : lv_has ls 1 [(0, .ref h0)] := hl
  unfold mk_all at hck
  simp only [Bool.and_eq_true, decide_eq_true_eq] at hck
  obtain ⟨⟨⟨⟨⟨⟨a1, a2⟩, a3⟩, a4⟩, a5⟩, a6⟩, a7⟩ := hck
  refine lv_aload_n hx hb a1 rfl (lv_at hl 0 rfl) ?_
  refine W.objInit hx hb hown (hw _ (mo_gB_of a3)) (hw _ (mo_gB_of a4)) (hw _ (mo_gB_of a5)) rfl (by rw [hml]; exact hl.1) rfl a2 (Nat.le_of_ble_eq_true rfl) (Nat.le_of_ble_eq_true rfl) ?_
  refine W.eq (g2 := F0 m 4 ls []) rfl ?_
  refine mk_items (nL := 1) (cA := cA) ⟨hx, hb, hml, hown, hw, hin, hK, hA⟩ hc (lv_at hl 0 rfl) pe is 4 0 fs0 [] s.heap [] 0 0 hfs a6 a7 hP hD hS (by show 0 + mk_nc is ≤ mk_nc is; omega) (by show 0 + mk_ns is ≤ mk_ns is; omega) (fun q H1 locs1 hP1 hD1 hS1 => ?_)
  rw [Nat.zero_add, Nat.zero_add]
  exact W.vret hx hb hr (fun t ht hW => ⟨⟨_, rfl, trivial, ⟨q, rfl⟩, by rw [ht]; exact hP1, hD1⟩, hS1.F ht⟩) hS1.2.2 hret
