/-! THE CLAIM OUT OF ONE WALK OF THE LAW'S BODY. Your part is whole_start (and what it stands on); all else here is the same for every law, but numbers. -/
def R_law : String := "MadeOfLaw"
def lw_P (b : Addr) (xs : List Int32) (args : Array Value) (s : State) : Prop := args = #[.ref b] ∧ s.IntsAt b xs ∧ xs.length ≤ 3072 ∧ (Jvm.Cond.and given_1 narrow_1).before args s = true
def lw_Q (_ : Array Value) (s : State) (o : Outcome) (t : State) : Prop := o = .returned (some (.int 1)) ∧ Framed s o t [] 600000 7302250
def lw_Z (below : List Frame) (a : Array Value) (s : State) : State → Prop := fun t => ∃ o, t.status = .running ∧ Ended t below o ∧ lw_Q a s o t
/-- the law's own end, with 1 on the stack, nothing written that was there before, its room as the claim has it -/
theorem lw_ret {p : Program} {l : Launch} {e : Env} {s : State} {m : MethodId} {below : List Frame} {meth : Method} {c : Code} {b : Nat} (hx : p.tables.exec = Jvm.exec) (hb : c.code = code) (hr : meth.sig.returnType = ret) (hlocks : meth.locks = false) {pc : Nat} {H : Heap} {ls : Array Slot} (hdg : decode code pc = .ok (.ireturn, 1)) : W p l e room_1 s m #[Value.ref b] below meth c H [] 600000 7302250 (lw_Z below #[Value.ref b] s) (F0 m pc ls [.int 1]) := by
  intro T hT X
  obtain ⟨fs, hret, hrun, hended, hW, hframe⟩ := X.leave (v := some (.int 1)) (hlocks := hlocks) (fun h => by rw [hr] at h; cases h)
  have hmeth' : T.vm.method? m = some meth := X.method'
  refine ⟨T.setFrames fs, ?_, .returned (some (.int 1)), hrun, hended, rfl, ⟨_, rfl⟩, hW, hframe⟩
  jvm_step X.here [X.here.top, hx, hb, hdg, hmeth', hr, ret, narrow_b1]
  (try refine ⟨rfl, ?_⟩); (try refine ⟨rfl, ?_⟩)
  first | (intro acts; rw [hret _ acts rfl rfl rfl]) | rw [hret _ _ rfl rfl rfl]
  exact Steps.refl _
/-- what holds at the law's entry: the machine, the code, the tables' words (any of lw_tbl by 'hts w (by decide +kernel)'), the script of L ints xs at the cell b, what the Statement gives of the start (any of its parts by flat_of_before) -/
def lw_At (p : Program) (s : State) (m : MethodId) (meth : Method) (c : Code) (b L : Nat) (xs : Nat → Int32) : Prop :=
  p.tables.exec = Jvm.exec ∧ c.code = code ∧ meth.sig.returnType = ret ∧ c.maxLocals = 4 ∧ s.vm.findClass R_law = some m.cls ∧ (∀ w ∈ lw_tbl, w.before #[Value.ref b] s = true) ∧ va_X b L xs s s.heap ∧ b < s.heap.size ∧ meth.locks = false ∧ (Jvm.Cond.and given_1 narrow_1).before #[Value.ref b] s = true
/-! what lies outside the picture at the law's entry -/
theorem st_out {s : State} {b L : Nat} {xs : Nat → Int32} {A : Nat → Prop} (hts : ∀ w ∈ lw_tbl, w.before #[Value.ref b] s = true) (hgv : (Jvm.Cond.and given_1 narrow_1).before #[Value.ref b] s = true) (hX : va_X b L xs s s.heap) (hA : ∀ a : Nat, a < s.heap.size → ¬ A a) : ∃ (vs : Nat) (ak : Nat → Nat), ∀ (D : va_G) (cA : Nat → ClassId) (ad : Nat → Nat → Nat), ad 90 0 = vs → ad 95 0 = b → (∀ i, i < 4 → ad (91 + i) 0 = ak i) → mo_xt (D, cA, ad, A, (L, xs)) s := by
  have hs := flat_of_before _ hgv
  obtain ⟨vs, hv, hT⟩ := va_Tof (args := #[Value.ref b]) (s := s) (tm := .static "MadeOf" "VERSION_SCALE" "[I") (ty := .int) (N := 3) (f := fun j => .int (mo_ev (L, xs) 90 j)) (A := A) (by decide) (hs _ (by decide +kernel)) (va_eqt (z := 3) (hs _ (by decide +kernel))) (fun j hj => by
    rcases (by omega : j = 0 ∨ j = 1 ∨ j = 2) with rfl | rfl | rfl
    · exact va_eqt (z := 1000000) (hs (Cond.eq (.elem (.static "MadeOf" "VERSION_SCALE" "[I") (.int 0)) (.int 1000000)) (by decide +kernel))
    · exact va_eqt (z := 1000) (hs (Cond.eq (.elem (.static "MadeOf" "VERSION_SCALE" "[I") (.int 1)) (.int 1000)) (by decide +kernel))
    · exact va_eqt (z := 1) (hs (Cond.eq (.elem (.static "MadeOf" "VERSION_SCALE" "[I") (.int 2)) (.int 1)) (by decide +kernel))) hA
  have hZ : va_Z "MadeOf" "VERSION_SCALE" "[I" (.ref vs) A s s.heap := va_Zref (hts (.laysStatic "MadeOf" "VERSION_SCALE" "[I") (by decide +kernel)) (hts (.initialized "MadeOf") (by decide +kernel)) hv hA
  have hS : va_T .int b L (fun j => .int (mo_ev (L, xs) 95 j)) A s s.heap := by
    obtain ⟨scr, h1, h2, h3, h4, h5⟩ := hX
    exact ⟨scr, h1, h2, h3, by omega, by rw [h4], h5, hA b (Array.getElem?_eq_some_iff.mp h1).1⟩
  obtain ⟨ak, av, hK, hKe⟩ := vk_Sof (args := #[Value.ref b]) (s := s) (N := 4) (tm := fun i => .string "MadeOf$Reader" ([34, 54, 59, 61].getD i 0)) (len := [3, 2, 3, 3]) (byt := [[98, 97, 100], [111, 114], [97, 110, 100], [97, 110, 121]]) (A := A)
    (fun i hi => by rcases (by omega : i = 0 ∨ i = 1 ∨ i = 2 ∨ i = 3) with rfl | rfl | rfl | rfl <;> decide)
    (fun i hi => by rcases (by omega : i = 0 ∨ i = 1 ∨ i = 2 ∨ i = 3) with rfl | rfl | rfl | rfl <;> exact hs _ (by decide +kernel))
    (fun i hi => by rcases (by omega : i = 0 ∨ i = 1 ∨ i = 2 ∨ i = 3) with rfl | rfl | rfl | rfl <;> exact hs _ (by decide +kernel))
    (fun i hi => by rcases (by omega : i = 0 ∨ i = 1 ∨ i = 2 ∨ i = 3) with rfl | rfl | rfl | rfl <;> exact hs _ (by decide +kernel))
    (fun i hi => by rcases (by omega : i = 0 ∨ i = 1 ∨ i = 2 ∨ i = 3) with rfl | rfl | rfl | rfl <;> exact hs _ (by decide +kernel))
    (fun i hi j hj => by
      rcases (by omega : i = 0 ∨ i = 1 ∨ i = 2 ∨ i = 3) with rfl | rfl | rfl | rfl
      · have hj : j < 3 := hj
        rcases (by omega : j = 0 ∨ j = 1 ∨ j = 2) with rfl | rfl | rfl <;> exact hs _ (by decide +kernel)
      · have hj : j < 2 := hj
        rcases (by omega : j = 0 ∨ j = 1) with rfl | rfl <;> exact hs _ (by decide +kernel)
      · have hj : j < 3 := hj
        rcases (by omega : j = 0 ∨ j = 1 ∨ j = 2) with rfl | rfl | rfl <;> exact hs _ (by decide +kernel)
      · have hj : j < 3 := hj
        rcases (by omega : j = 0 ∨ j = 1 ∨ j = 2) with rfl | rfl | rfl <;> exact hs _ (by decide +kernel))
    (fun i j hi hj hij => by
      rcases (by omega : i = 0 ∨ i = 1 ∨ i = 2 ∨ i = 3) with rfl | rfl | rfl | rfl <;> rcases (by omega : j = 0 ∨ j = 1 ∨ j = 2 ∨ j = 3) with rfl | rfl | rfl | rfl <;> first | (exact absurd rfl hij) | (exact Or.inl (hs _ (by decide +kernel))) | (exact Or.inr (hs _ (by decide +kernel))))
    hA
  refine ⟨vs, ak, fun D cA ad e90 e95 eK => ⟨?_, ?_, ?_, ?_, ⟨av, ?_⟩, ?_, ?_⟩⟩
  · show va_Z "MadeOf" "VERSION_SCALE" "[I" (.ref (ad 90 0)) A s s.heap
    rw [e90]; exact hZ
  · show va_T .int (ad 90 0) 3 (fun j => .int (mo_ev (L, xs) 90 j)) A s s.heap
    rw [e90]; exact hT
  · show va_T .int (ad 95 0) L (fun j => .int (mo_ev (L, xs) 95 j)) A s s.heap
    rw [e95]; exact hS
  · intro x hx
    simp only [mo_sr, List.mem_cons, List.not_mem_nil, or_false] at hx
    rcases hx with rfl | rfl | rfl | rfl
    · exact vk_R.of (A := #[Value.ref b]) (hts (.stringRef RX7 34 "bad") (by decide +kernel)) (by show _ = some (Value.ref (ad 91 0)); rw [eK 0 (by omega)]; exact hKe 0 (by omega))
    · exact vk_R.of (A := #[Value.ref b]) (hts (.stringRef RX7 54 "or") (by decide +kernel)) (by show _ = some (Value.ref (ad 92 0)); rw [eK 1 (by omega)]; exact hKe 1 (by omega))
    · exact vk_R.of (A := #[Value.ref b]) (hts (.stringRef RX7 59 "and") (by decide +kernel)) (by show _ = some (Value.ref (ad 93 0)); rw [eK 2 (by omega)]; exact hKe 2 (by omega))
    · exact vk_R.of (A := #[Value.ref b]) (hts (.stringRef RX7 61 "any") (by decide +kernel)) (by show _ = some (Value.ref (ad 94 0)); rw [eK 3 (by omega)]; exact hKe 3 (by omega))
  · refine ⟨fun i hi => ?_, fun i j hi hj e => hK.2 i j hi hj ?_⟩
    · have h := hK.1 i hi
      rw [← eK i hi] at h
      exact h
    · have e : ad (91 + i) 0 = ad (91 + j) 0 := e
      rw [eK i hi, eK j hj] at e
      exact e
  · exact va_Zof (hts (.laysStatic "java/lang/String" "COMPACT_STRINGS" "Z") (by decide +kernel)) (hts (.initialized "java/lang/String") (by decide +kernel)) (va_eqi (hs _ (by decide +kernel))) hA
  · exact va_Zqof (hts (.laysStatic "jdk/internal/util/Preconditions" "SIOOBE_FORMATTER" "Ljava/util/function/BiFunction;") (by decide +kernel)) (hts (.initialized "jdk/internal/util/Preconditions") (by decide +kernel)) (hs _ (by decide +kernel)) hA
