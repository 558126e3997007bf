/-! a small machine over the picture: values, memory, one instruction's weakest precondition -/
abbrev mo_V : Type := Int32 ⊕ (Int64 ⊕ (Nat × Nat))
abbrev mo_M : Type := (Nat → Nat → Nat → Int32) × (Nat → Nat → Nat → Int64)
abbrev mo_I : Type := Nat × Nat × Instr × Nat × Nat × Int
abbrev mo_L : Type := List (Option mo_V)
abbrev mo_Q : Type := Option mo_V → mo_M → Prop
abbrev mo_S : Type := List mo_V → mo_M → mo_Q → Prop
/-- a callee: how many words, whether by its receiver, its place in the pool, its receiver's class (50: not of the picture), what it does -/
abbrev mo_C : Type := Nat × Bool × Nat × Nat × mo_S
abbrev mo_k : Type := mo_L → List mo_V → mo_M → Prop
abbrev mo_K : Type := Nat → mo_k
/-- a method: its bytes, its class, its locals, what it returns (0 none, 1 int, 2 long, 3 boolean), its room -/
abbrev mo_T : Type := ByteArray × String × Nat × Nat × Room
def mo_at {α : Type} : List α → Nat → Option α
  | [], _ => none
  | a :: _, 0 => some a
  | _ :: r, n + 1 => mo_at r n
def mo_as : List (Nat × Nat) → Nat → Option Nat
  | [], _ => none
  | (a, b) :: r, k => bif Nat.beq a k then some b else mo_as r k
def mo_hs : List Nat → Nat → Bool
  | [], _ => false
  | a :: r, k => bif Nat.beq a k then true else mo_hs r k
/-- form and length or class of o; (9, 0) beyond -/
def mo_kd (o : Nat) : Nat × Nat := match mo_at mo_lay o with
  | some (f, n, _, _) => (f, n)
  | none => (9, 0)
def mo_N (o : Nat) : Nat := match mo_at mo_lay o with
  | some (_, _, n, _) => n
  | none => 0
def mo_rf (o k : Nat) : Nat := match mo_at mo_lay o with
  | some (_, _, _, l) => (match mo_as l k with
    | some b => b
    | none => 0)
  | none => 0
def mo_ref (ci k : Nat) : Bool := match mo_at mo_isR ci with
  | some l => mo_hs l k
  | none => false
def mo_num (ci : Nat) : Nat := match mo_at mo_nf ci with
  | some n => n
  | none => 0
def mo_ps : List (Nat × Nat) := (List.range 82).flatMap fun o => (List.range (mo_N o)).map fun w => (o, w)
/-- the cell (o, w) is there -/
def mo_in (o w : Nat) (P : Prop) : Prop := match mo_N o with
  | 0 => False
  | 1 => bif Nat.beq w 0 then P else False
  | n => w < n ∧ P
/-- the cell (o, w) is an object of class ci -/
def mo_isO (o ci : Nat) : Bool := Nat.beq (mo_kd o).1 0 && Nat.beq (mo_kd o).2 ci
def mo_lk : mo_L → Nat → Option mo_V
  | [], _ => none
  | a :: _, 0 => a
  | _ :: r, n + 1 => mo_lk r n
def mo_set : mo_L → Nat → Option mo_V → mo_L
  | [], _, _ => []
  | _ :: r, 0, v => v :: r
  | a :: r, n + 1, v => a :: mo_set r n v
def mo_st (ls : mo_L) (i : Nat) (v : mo_V) : mo_L := match i with
  | 0 => mo_set ls 0 (some v)
  | j + 1 => (match mo_lk ls j with
    | some (.inr (.inl _)) => mo_set (mo_set ls j none) (j + 1) (some v)
    | _ => mo_set ls (j + 1) (some v))
def mo_st2 (ls : mo_L) (i : Nat) (v : mo_V) : mo_L := mo_set (mo_st ls i v) (i + 1) none
def mo_wI (σ : mo_M) (o w k : Nat) (v : Int32) : mo_M := (fun a b c => if a = o ∧ b = w ∧ c = k then v else σ.1 a b c, σ.2)
def mo_wL (σ : mo_M) (o w k : Nat) (v : Int64) : mo_M := (σ.1, fun a b c => if a = o ∧ b = w ∧ c = k then v else σ.2 a b c)
/-- arrays of ints outside the picture that are only read: 90 the versions' scale, 95 the script -/
def mo_en (ex : Nat × (Nat → Int32)) (o : Nat) : Nat := bif Nat.beq o 90 then 3 else bif Nat.beq o 95 then ex.1 else 0
def mo_ev (ex : Nat × (Nat → Int32)) (o : Nat) : Nat → Int32 := bif Nat.beq o 90 then (fun k => match k with | 0 => 1000000 | 1 => 1000 | _ => 1) else ex.2
def mo_pop : Nat → List mo_V → List mo_V → Option (List mo_V × List mo_V)
  | 0, st, acc => some (acc, st)
  | _ + 1, [], _ => none
  | n + 1, v :: st, acc => mo_pop n st (v :: acc)
def mo_cat : List mo_V → Nat
  | [] => 0
  | .inr (.inl _) :: r => mo_cat r + 2
  | _ :: r => mo_cat r + 1
def mo_psh : Option mo_V → List mo_V → List mo_V
  | none, r => r
  | some v, r => v :: r
def mo_wide : mo_V → Bool
  | .inr (.inl _) => true
  | _ => false
-- shapes of the stack
def mo_1i (st : List mo_V) (f : Int32 → List mo_V → Prop) : Prop := match st with
  | .inl x :: r => f x r
  | _ => False
def mo_2i (st : List mo_V) (f : Int32 → Int32 → List mo_V → Prop) : Prop := match st with
  | .inl y :: .inl x :: r => f x y r
  | _ => False
def mo_1l (st : List mo_V) (f : Int64 → List mo_V → Prop) : Prop := match st with
  | .inr (.inl x) :: r => f x r
  | _ => False
def mo_2l (st : List mo_V) (f : Int64 → Int64 → List mo_V → Prop) : Prop := match st with
  | .inr (.inl y) :: .inr (.inl x) :: r => f x y r
  | _ => False
def mo_li (st : List mo_V) (f : Int64 → Int32 → List mo_V → Prop) : Prop := match st with
  | .inl y :: .inr (.inl x) :: r => f x y r
  | _ => False
def mo_1r (st : List mo_V) (f : Nat → Nat → List mo_V → Prop) : Prop := match st with
  | .inr (.inr (o, w)) :: r => f o w r
  | _ => False
def mo_ri (st : List mo_V) (f : Nat → Nat → Int32 → List mo_V → Prop) : Prop := match st with
  | .inl i :: .inr (.inr (o, w)) :: r => f o w i r
  | _ => False
def mo_rii (st : List mo_V) (f : Nat → Nat → Int32 → Int32 → List mo_V → Prop) : Prop := match st with
  | .inl x :: .inl i :: .inr (.inr (o, w)) :: r => f o w i x r
  | _ => False
def mo_ril (st : List mo_V) (f : Nat → Nat → Int32 → Int64 → List mo_V → Prop) : Prop := match st with
  | .inr (.inl x) :: .inl i :: .inr (.inr (o, w)) :: r => f o w i x r
  | _ => False
def mo_ldi (ls : mo_L) (i : Nat) (f : Int32 → Prop) : Prop := match mo_lk ls i with
  | some (.inl x) => f x
  | _ => False
def mo_ldl (ls : mo_L) (i : Nat) (f : Int64 → Prop) : Prop := match mo_lk ls i with
  | some (.inr (.inl x)) => f x
  | _ => False
def mo_ldr (ls : mo_L) (i : Nat) (f : Nat → Nat → Prop) : Prop := match mo_lk ls i with
  | some (.inr (.inr (o, w))) => f o w
  | _ => False
def mo_b (c : Bool) (P : Prop) : Prop := bif c then P else False
def mo_if (c : Jvm.ClassFile.Cond) (x y : Int32) (T F : Prop) : Prop := match c with
  | .eq => (x = y → T) ∧ (¬ x = y → F)
  | .ne => (¬ x = y → T) ∧ (x = y → F)
  | .lt => (x < y → T) ∧ (¬ x < y → F)
  | .ge => (y ≤ x → T) ∧ (¬ y ≤ x → F)
  | .gt => (y < x → T) ∧ (¬ y < x → F)
  | .le => (x ≤ y → T) ∧ (¬ x ≤ y → F)
/-- where a switch goes -/
def mo_sw (pc : Nat) (d lo hi : Int) (offs : Array Int) (x : Int32) : Int := if x.toInt < lo ∨ hi < x.toInt then (pc : Int) + d else (pc : Int) + (offs[(x.toInt - lo).toNat]?).getD d
def mo_call (C : mo_C) (k : mo_k) (ls : mo_L) (st : List mo_V) (σ : mo_M) : Prop := match mo_pop C.1 st [] with
  | some (as, r) => mo_b (Nat.ble (mo_cat r) 8) (bif C.2.1 && Nat.blt C.2.2.2.1 50 then (mo_1r as fun o w _ => mo_b (mo_isO o C.2.2.2.1) (mo_in o w (C.2.2.2.2 as σ (fun x σ' => k ls (mo_psh x r) σ')))) else C.2.2.2.2 as σ (fun x σ' => k ls (mo_psh x r) σ'))
  | none => False
def mo_ald (ex : Nat × (Nat → Int32)) (fm o w : Nat) (i : Int32) (σ : mo_M) (f : Int32 → Prop) : Prop :=
  bif Nat.beq (mo_kd o).1 fm then mo_in o w (vp_in i (mo_kd o).2 ∧ f (σ.1 o w i.toNatClampNeg)) else mo_b (Nat.beq fm 1 && Nat.beq w 0 && (Nat.beq o 90 || Nat.beq o 95)) (vp_in i (mo_en ex o) ∧ f (mo_ev ex o i.toNatClampNeg))
def mo_op (ex : Nat × (Nat → Int32)) (ml rt : Nat) (cs : Nat → mo_C) (K : mo_K) (Q : mo_Q) (q : mo_I) (k : mo_k) (ls : mo_L) (st : List mo_V) (σ : mo_M) : Prop :=
  match q.2.2.1 with
  | .iconst _ => k ls (.inl (Int32.ofInt q.2.2.2.2.2) :: st) σ
  | .bipush _ => k ls (.inl (Int32.ofInt q.2.2.2.2.2) :: st) σ
  | .sipush _ => k ls (.inl (Int32.ofInt q.2.2.2.2.2) :: st) σ
  | .ldc _ => bif Nat.beq q.2.2.2.1 0 then k ls (.inl (Int32.ofInt q.2.2.2.2.2) :: st) σ else k ls (.inr (.inr (q.2.2.2.1, 0)) :: st) σ
  | .ldc_w _ => k ls (.inl (Int32.ofInt q.2.2.2.2.2) :: st) σ
  | .ldc2_w _ => k ls (.inr (.inl (Int64.ofInt q.2.2.2.2.2)) :: st) σ
  | .lconst _ => k ls (.inr (.inl (Int64.ofInt q.2.2.2.2.2)) :: st) σ
  | .iload _ => mo_ldi ls q.2.2.2.1 fun x => k ls (.inl x :: st) σ
  | .iload_n _ => mo_ldi ls q.2.2.2.1 fun x => k ls (.inl x :: st) σ
  | .lload _ => mo_ldl ls q.2.2.2.1 fun x => k ls (.inr (.inl x) :: st) σ
  | .lload_n _ => mo_ldl ls q.2.2.2.1 fun x => k ls (.inr (.inl x) :: st) σ
  | .aload _ => mo_ldr ls q.2.2.2.1 fun o w => k ls (.inr (.inr (o, w)) :: st) σ
  | .aload_n _ => mo_ldr ls q.2.2.2.1 fun o w => k ls (.inr (.inr (o, w)) :: st) σ
  | .istore _ => mo_b (Nat.blt q.2.2.2.1 ml) (mo_1i st fun x r => k (mo_st ls q.2.2.2.1 (.inl x)) r σ)
  | .istore_n _ => mo_b (Nat.blt q.2.2.2.1 ml) (mo_1i st fun x r => k (mo_st ls q.2.2.2.1 (.inl x)) r σ)
  | .lstore _ => mo_b (Nat.blt (q.2.2.2.1 + 1) ml) (mo_1l st fun x r => k (mo_st2 ls q.2.2.2.1 (.inr (.inl x))) r σ)
  | .lstore_n _ => mo_b (Nat.blt (q.2.2.2.1 + 1) ml) (mo_1l st fun x r => k (mo_st2 ls q.2.2.2.1 (.inr (.inl x))) r σ)
  | .astore _ => mo_b (Nat.blt q.2.2.2.1 ml) (mo_1r st fun o w r => k (mo_st ls q.2.2.2.1 (.inr (.inr (o, w)))) r σ)
  | .astore_n _ => mo_b (Nat.blt q.2.2.2.1 ml) (mo_1r st fun o w r => k (mo_st ls q.2.2.2.1 (.inr (.inr (o, w)))) r σ)
  | .iinc _ _ => mo_b (Nat.blt q.2.2.2.1 ml) (mo_ldi ls q.2.2.2.1 fun x => k (mo_st ls q.2.2.2.1 (.inl (x + Int32.ofInt q.2.2.2.2.2))) st σ)
  | .iadd => mo_2i st fun x y r => k ls (.inl (x + y) :: r) σ
  | .isub => mo_2i st fun x y r => k ls (.inl (x - y) :: r) σ
  | .imul => mo_2i st fun x y r => k ls (.inl (x * y) :: r) σ
  | .idiv => mo_2i st fun x y r => ¬ y = 0 ∧ k ls (.inl (x / y) :: r) σ
  | .irem => mo_2i st fun x y r => ¬ y = 0 ∧ k ls (.inl (x - x / y * y) :: r) σ
  | .ineg => mo_1i st fun x r => k ls (.inl (-x) :: r) σ
  | .iand => mo_2i st fun x y r => k ls (.inl (x &&& y) :: r) σ
  | .ior => mo_2i st fun x y r => k ls (.inl (x ||| y) :: r) σ
  | .ixor => mo_2i st fun x y r => k ls (.inl (x ^^^ y) :: r) σ
  | .ishl => mo_2i st fun x y r => k ls (.inl (x <<< (y &&& 31)) :: r) σ
  | .ishr => mo_2i st fun x y r => k ls (.inl (x >>> (y &&& 31)) :: r) σ
  | .iushr => mo_2i st fun x y r => k ls (.inl (x.toUInt32 >>> (y.toUInt32 &&& Int32.toUInt32 31)).toInt32 :: r) σ
  | .ladd => mo_2l st fun x y r => k ls (.inr (.inl (x + y)) :: r) σ
  | .land => mo_2l st fun x y r => k ls (.inr (.inl (x &&& y)) :: r) σ
  | .lor => mo_2l st fun x y r => k ls (.inr (.inl (x ||| y)) :: r) σ
  | .lxor => mo_2l st fun x y r => k ls (.inr (.inl (x ^^^ y)) :: r) σ
  | .lshl => mo_li st fun x y r => k ls (.inr (.inl (x <<< (y.toInt64 &&& 63))) :: r) σ
  | .lshr => mo_li st fun x y r => k ls (.inr (.inl (x >>> (y.toInt64 &&& 63))) :: r) σ
  | .lushr => mo_li st fun x y r => k ls (.inr (.inl (x.toUInt64 >>> (y.toInt64.toUInt64 &&& Int64.toUInt64 63)).toInt64) :: r) σ
  | .i2l => mo_1i st fun x r => k ls (.inr (.inl x.toInt64) :: r) σ
  | .l2i => mo_1l st fun x r => k ls (.inl x.toInt32 :: r) σ
  | .i2b => mo_1i st fun x r => k ls (.inl x.toInt8.toInt32 :: r) σ
  | .lcmp => mo_2l st fun x y r => k ls (.inl (lg_cmp x y) :: r) σ
  | .dup => (match st with
    | v :: r => mo_b (!mo_wide v) (k ls (v :: v :: r) σ)
    | _ => False)
  | .dup2 => (match st with
    | a :: b :: r => mo_b (!mo_wide a && !mo_wide b) (k ls (a :: b :: a :: b :: r) σ)
    | _ => False)
  | .pop => (match st with
    | v :: r => mo_b (!mo_wide v) (k ls r σ)
    | _ => False)
  | .getfield _ => mo_1r st fun o w r => mo_b (mo_isO o q.2.2.2.1) (mo_in o w (bif mo_ref q.2.2.2.1 q.2.2.2.2.1 then k ls (.inr (.inr (mo_rf o q.2.2.2.2.1, w)) :: r) σ else k ls (.inl (σ.1 o w q.2.2.2.2.1) :: r) σ))
  | .putfield _ => (match st with
    | .inl v :: .inr (.inr (o, w)) :: r => mo_b (mo_isO o q.2.2.2.1 && !mo_ref q.2.2.2.1 q.2.2.2.2.1) (mo_in o w (k ls r (mo_wI σ o w q.2.2.2.2.1 v)))
    | _ => False)
  | .getstatic _ => k ls (.inr (.inr (90, 0)) :: st) σ
  | .iaload => mo_ri st fun o w i r => mo_ald ex 1 o w i σ fun x => k ls (.inl x :: r) σ
  | .baload => mo_ri st fun o w i r => bif Nat.beq (mo_kd o).1 3 then mo_ald ex 3 o w i σ fun x => k ls (.inl x :: r) σ else mo_ald ex 4 o w i σ fun x => k ls (.inl x :: r) σ
  | .laload => mo_ri st fun o w i r => mo_b (Nat.beq (mo_kd o).1 2) (mo_in o w (vp_in i (mo_kd o).2 ∧ k ls (.inr (.inl (σ.2 o w i.toNatClampNeg)) :: r) σ))
  | .aaload => mo_ri st fun o w i r => mo_b (Nat.beq (mo_kd o).1 5) (mo_in o w (vp_in i (mo_kd o).2 ∧ k ls (.inr (.inr (mo_rf o 0, i.toNatClampNeg)) :: r) σ))
  | .iastore => mo_rii st fun o w i x r => mo_b (Nat.beq (mo_kd o).1 1) (mo_in o w (vp_in i (mo_kd o).2 ∧ k ls r (mo_wI σ o w i.toNatClampNeg x)))
  | .bastore => mo_rii st fun o w i x r => bif Nat.beq (mo_kd o).1 3 then mo_in o w (vp_in i (mo_kd o).2 ∧ k ls r (mo_wI σ o w i.toNatClampNeg (vp_nar .boolean x))) else mo_b (Nat.beq (mo_kd o).1 4) (mo_in o w (vp_in i (mo_kd o).2 ∧ k ls r (mo_wI σ o w i.toNatClampNeg (vp_nar .byte x))))
  | .lastore => mo_ril st fun o w i x r => mo_b (Nat.beq (mo_kd o).1 2) (mo_in o w (vp_in i (mo_kd o).2 ∧ k ls r (mo_wL σ o w i.toNatClampNeg x)))
  | .arraylength => mo_1r st fun o w r => bif Nat.blt 0 (mo_kd o).1 && Nat.blt (mo_kd o).1 6 then mo_in o w (k ls (.inl (Int32.ofNat (mo_kd o).2) :: r) σ) else mo_b (Nat.beq w 0 && (Nat.beq o 90 || Nat.beq o 95)) (k ls (.inl (Int32.ofNat (mo_en ex o)) :: r) σ)
  | .ifCond c _ => mo_1i st fun x r => mo_if c x 0 (K q.2.2.2.1 ls r σ) (k ls r σ)
  | .if_icmp c _ => mo_2i st fun x y r => mo_if c x y (K q.2.2.2.1 ls r σ) (k ls r σ)
  | .goto _ => K q.2.2.2.1 ls st σ
  | .tableswitch d lo hi offs => mo_1i st fun x r => ∀ t : Nat, mo_sw q.1 d lo hi offs x = (t : Int) → K t ls r σ
  | .ireturn => (match st with
    | [.inl v] => (match rt with
      | 1 => Q (some (.inl v)) σ
      | 3 => (v = 0 ∨ v = 1) ∧ Q (some (.inl v)) σ
      | _ => False)
    | _ => False)
  | .lreturn => (match st with
    | [.inr (.inl v)] => mo_b (Nat.beq rt 2) (Q (some (.inr (.inl v))) σ)
    | _ => False)
  | .return_ => (match st with
    | [] => mo_b (Nat.beq rt 0) (Q none σ)
    | _ => False)
  | .invokevirtual i => mo_b ((cs q.2.2.2.1).2.1 && Nat.beq (cs q.2.2.2.1).2.2.1 i) (mo_call (cs q.2.2.2.1) k ls st σ)
  | .invokestatic i => mo_b (!(cs q.2.2.2.1).2.1 && Nat.beq (cs q.2.2.2.1).2.2.1 i) (mo_call (cs q.2.2.2.1) k ls st σ)
  | _ => False
/-- a row of instructions -/
def mo_am (ex : Nat × (Nat → Int32)) (ml rt : Nat) (cs : Nat → mo_C) (K : mo_K) (Q : mo_Q) : List mo_I → Nat → mo_k
  | [], pc => K pc
  | q :: r, _ => mo_op ex ml rt cs K Q q (mo_am ex ml rt cs K Q r (q.1 + q.2.1))
