/-! from one place of a method on, over jumps ahead, until a place of sp or a jump back -/
def mo_seek : List mo_I → Nat → List mo_I
  | [], _ => []
  | q :: r, t => bif Nat.beq q.1 t then q :: r else mo_seek r t
def mo_fw (ex : Nat × (Nat → Int32)) (ml rt : Nat) (cs : Nat → mo_C) (K : mo_K) (Q : mo_Q) (sp : List Nat) : Nat → List mo_I → mo_K
  | 0, _, pc, ls, st, σ => K pc ls st σ
  | _ + 1, [], pc, ls, st, σ => K pc ls st σ
  | n + 1, q :: r, _, ls, st, σ => mo_op ex ml rt cs (fun t ls st σ => bif Nat.blt q.1 t && !(mo_hs sp t) then mo_fw ex ml rt cs K Q sp n (mo_seek r t) t ls st σ else K t ls st σ) Q q (fun ls st σ => bif mo_hs sp (q.1 + q.2.1) then K (q.1 + q.2.1) ls st σ else mo_fw ex ml rt cs K Q sp n r (q.1 + q.2.1) ls st σ) ls st σ
theorem mo_seek_chain : ∀ (r : List mo_I) (p t : Nat), mo_chain p r = true → mo_chain t (mo_seek r t) = true
  | [], p, t, _ => rfl
  | q :: r, p, t, h => by
    unfold mo_chain at h
    rw [Bool.and_eq_true] at h
    unfold mo_seek
    cases hq : Nat.beq q.1 t with
    | true =>
      have e := Nat.eq_of_beq_eq_true hq
      show mo_chain t (q :: r) = true
      unfold mo_chain
      rw [Bool.and_eq_true]
      exact ⟨by rw [e]; exact Nat.beq_refl t, h.2⟩
    | false => exact mo_seek_chain r _ t h.2
theorem mo_seek_good {mt : mo_T} : ∀ (r : List mo_I) (t : Nat), mo_good mt r = true → mo_good mt (mo_seek r t) = true
  | [], t, _ => rfl
  | q :: r, t, h => by
    unfold mo_seek
    cases hq : Nat.beq q.1 t with
    | true => exact h
    | false =>
      refine mo_seek_good r t ?_
      unfold mo_good at h ⊢
      rw [List.all_cons, Bool.and_eq_true] at h
      exact h.2
theorem mo_fw_ok {g : mo_E} {mt : mo_T} {Q : mo_Q} {cs : Nat → mo_C} {K : mo_K} {sp : List Nat} (hK : ∀ pc ls st σ, K pc ls st σ → mo_X g mt Q pc ls st σ) (hcs : ∀ j, mo_cok g mt (cs j) ∧ mo_mon (cs j)) : ∀ (n : Nat) (is : List mo_I) (pc : Nat), mo_chain pc is = true → mo_good mt is = true → ∀ ls st σ, mo_fw g.2.2.2.2 mt.2.2.1 mt.2.2.2.1 cs K Q sp n is pc ls st σ → mo_X g mt Q pc ls st σ
  | 0, is, pc, _, _, ls, st, σ, h => hK pc ls st σ h
  | n + 1, [], pc, _, _, ls, st, σ, h => hK pc ls st σ h
  | n + 1, q :: r, pc, h1, h2, ls, st, σ, h => by
    unfold mo_chain at h1
    rw [Bool.and_eq_true] at h1
    have e := Nat.eq_of_beq_eq_true h1.1
    subst e
    unfold mo_good at h2
    rw [List.all_cons, Bool.and_eq_true, Bool.and_eq_true] at h2
    refine mo_op_ok q (of_decide_eq_true h2.1.1) h2.1.2 hcs ?_ ?_ h
    · intro t ls st σ ht
      cases hb : (Nat.blt q.1 t && !(mo_hs sp t)) with
      | true =>
        rw [hb] at ht
        exact mo_fw_ok hK hcs n _ t (mo_seek_chain r _ t h1.2) (mo_seek_good r t h2.2) ls st σ ht
      | false =>
        rw [hb] at ht
        exact hK t ls st σ ht
    · intro ls st σ ht
      cases hb : mo_hs sp (q.1 + q.2.1) with
      | true =>
        rw [hb] at ht
        exact hK _ ls st σ ht
      | false =>
        rw [hb] at ht
        exact mo_fw_ok hK hcs n r _ h1.2 h2.2 ls st σ ht
theorem mo_go {g : mo_E} {mt : mo_T} {Q : mo_Q} {cs : Nat → mo_C} {p : List mo_I} (hok : mo_good mt p = true ∧ mo_chain 0 p = true) (hcs : ∀ j, mo_cok g mt (cs j) ∧ mo_mon (cs j)) (sp : List Nat) (n : Nat) {pc : Nat} {ls : mo_L} {st : List mo_V} {σ : mo_M} (h : ∀ K : mo_K, (∀ a b c d, mo_X g mt Q a b c d → K a b c d) → mo_fw g.2.2.2.2 mt.2.2.1 mt.2.2.2.1 cs K Q sp n (mo_seek p pc) pc ls st σ) : mo_X g mt Q pc ls st σ :=
  mo_fw_ok (fun _ _ _ _ h => h) hcs n _ pc (mo_seek_chain p 0 pc hok.2) (mo_seek_good p pc hok.1) ls st σ (h _ (fun _ _ _ _ h => h))
/-- no calls -/
def mo_no : Nat → mo_C := fun _ => (0, false, 0, 50, fun _ _ _ => False)
theorem mo_no_ok (g : mo_E) (mt : mo_T) : ∀ j, mo_cok g mt (mo_no j) ∧ mo_mon (mo_no j) := fun _ => ⟨mo_cok0 g mt, mo_mon0⟩
-- Int32 by its number
theorem mo_ti {c : Int} (h : -2147483648 ≤ c) (h2 : c < 2147483648) : (Int32.ofInt c).toInt = c := by
  rw [Int32.toInt_ofInt]
  exact Int.bmod_eq_of_le (by simpa using h) (by simpa using h2)
/-- a truth as an int -/
noncomputable def mo_bl (c : Prop) : Int32 := @ite _ c (Classical.propDecidable c) 1 0
theorem mo_bl_t {c : Prop} (h : c) : mo_bl c = 1 := by unfold mo_bl; exact if_pos h
theorem mo_bl_f {c : Prop} (h : ¬ c) : mo_bl c = 0 := by unfold mo_bl; exact if_neg h
theorem mo_bl01 (c : Prop) : mo_bl c = 0 ∨ mo_bl c = 1 := by
  by_cases h : c
  · exact Or.inr (mo_bl_t h)
  · exact Or.inl (mo_bl_f h)
theorem mo_bl0 {c : Prop} : mo_bl c = 0 ↔ ¬ c := by
  by_cases h : c
  · rw [mo_bl_t h]; simp [h]
  · rw [mo_bl_f h]; simp [h]
theorem mo_blc {c d : Prop} (h : c ↔ d) : mo_bl c = mo_bl d := by rw [propext h]
theorem mo_r1 {c : Prop} (h : c) : (some (.inl (Int32.ofInt 1)) : Option mo_V) = some (.inl (mo_bl c)) := by rw [mo_bl_t h]; rfl
theorem mo_r0 {c : Prop} (h : ¬ c) : (some (.inl (Int32.ofInt 0)) : Option mo_V) = some (.inl (mo_bl c)) := by rw [mo_bl_f h]; rfl
theorem mo_q {Q : mo_Q} {r r' : Option mo_V} {τ τ' : mo_M} (h : Q r' τ') (e : r = r') (e2 : τ = τ') : Q r τ := by rw [e, e2]; exact h
theorem mo_ieq {x y : Int32} : x = y ↔ x.toInt = y.toInt := Int32.toInt_inj.symm
theorem mo_rng (x : Int32) : -2147483648 ≤ x.toInt ∧ x.toInt < 2147483648 := by
  have h1 := Int32.le_toInt x
  have h2 := Int32.toInt_lt x
  constructor <;> simpa using by assumption
theorem mo_n1 : (-1 : Int32).toInt = -1 := by decide
