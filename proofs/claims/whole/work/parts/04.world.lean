/-! the picture as cells of the heap -/
abbrev mo_E : Type := va_G × (Nat → ClassId) × (Nat → Nat → Nat) × (Nat → Prop) × (Nat × (Nat → Int32))
def mo_cv (ad : Nat → Nat → Nat) : mo_V → Value
  | .inl x => .int x
  | .inr (.inl x) => .long x
  | .inr (.inr (o, w)) => .ref (ad o w)
def mo_fv (ad : Nat → Nat → Nat) (σ : mo_M) (o w ci k : Nat) : Value := bif mo_ref ci k then .ref (ad (mo_rf o k) w) else .int (σ.1 o w k)
def mo_cell (cA : Nat → ClassId) (ad : Nat → Nat → Nat) (σ : mo_M) (o w : Nat) : va_E := match mo_kd o with
  | (0, ci) => .inr (ci, (List.range (mo_num ci)).map (mo_fv ad σ o w ci))
  | (1, n) => .inl (cA 1, n, .inl (σ.1 o w))
  | (2, n) => .inl (cA 2, n, .inr (.inl (σ.2 o w)))
  | (3, n) => .inl (cA 3, n, .inl (σ.1 o w))
  | (4, n) => .inl (cA 4, n, .inl (σ.1 o w))
  | (_, n) => .inl (cA 5, n, .inr (.inr (.inr (.inr (fun k => some (ad (mo_rf o 0) k))))))
def mo_wd (g : mo_E) (σ : mo_M) : va_W := mo_ps.map fun q => (g.2.2.1 q.1 q.2, mo_cell g.2.1 g.2.2.1 σ q.1 q.2)
def mo_ty (cA : Nat → ClassId) : List (ClassId × FieldType) := [(cA 1, .int), (cA 2, .long), (cA 3, .boolean), (cA 4, .byte), (cA 5, .object RX9)]
theorem mo_at_none {α : Type} : ∀ (l : List α) (n : Nat), l.length ≤ n → mo_at l n = none
  | [], _, _ => rfl
  | a :: r, 0, h => absurd h (by simp)
  | a :: r, n + 1, h => mo_at_none r n (by simpa using h)
theorem mo_N_top {o : Nat} (h : 82 ≤ o) : mo_N o = 0 := by
  unfold mo_N
  rw [mo_at_none mo_lay o (by exact h)]
theorem mo_ps_mem {o w : Nat} : (o, w) ∈ mo_ps ↔ w < mo_N o := by
  unfold mo_ps
  simp only [List.mem_flatMap, List.mem_map, List.mem_range, Prod.mk.injEq]
  constructor
  · rintro ⟨a, ha, b, hb, rfl, rfl⟩
    exact hb
  · intro h
    refine ⟨o, ?_, w, h, rfl, rfl⟩
    apply Classical.byContradiction
    intro q
    rw [mo_N_top (by omega)] at h
    omega
theorem mo_in_of {o w : Nat} {P : Prop} (h : mo_in o w P) : (o, w) ∈ mo_ps ∧ P := by
  rw [mo_ps_mem]
  unfold mo_in at h
  split at h
  next => exact h.elim
  next e =>
    rw [e]
    cases hw : Nat.beq w 0 with
    | false => rw [hw] at h; exact h.elim
    | true => rw [hw] at h; exact ⟨by have := Nat.eq_of_beq_eq_true hw; omega, h⟩
  next => exact h
theorem mo_b_of {c : Bool} {P : Prop} (h : mo_b c P) : c = true ∧ P := by
  cases c with
  | false => exact h.elim
  | true => exact ⟨rfl, h⟩
theorem mo_ps_nd : mo_ps.Nodup := by decide +kernel
theorem mo_ps_ix {o w : Nat} (h : (o, w) ∈ mo_ps) : ∃ q0 : Nat, mo_ps[q0]? = some (o, w) := List.getElem?_of_mem h
theorem mo_ps_one {i j : Nat} {q : Nat × Nat} (h : mo_ps[i]? = some q) (h2 : mo_ps[j]? = some q) : i = j := by
  obtain ⟨hi, ei⟩ := List.getElem?_eq_some_iff.mp h
  obtain ⟨hj, ej⟩ := List.getElem?_eq_some_iff.mp h2
  exact (List.getElem?_inj hi mo_ps_nd).mp (h.trans h2.symm)
theorem mo_wd_at (g : mo_E) (σ : mo_M) {q0 o w : Nat} (h : mo_ps[q0]? = some (o, w)) : (mo_wd g σ)[q0]? = some (g.2.2.1 o w, mo_cell g.2.1 g.2.2.1 σ o w) := by
  unfold mo_wd
  rw [List.getElem?_map, h]
  rfl
/-- a memory that differs in the cell (o, w) alone -/
theorem mo_wd_set (g : mo_E) {σ σ' : mo_M} {q0 o w : Nat} (h : mo_ps[q0]? = some (o, w)) (h1 : ∀ a b, ¬ (a = o ∧ b = w) → σ'.1 a b = σ.1 a b) (h2 : ∀ a b, ¬ (a = o ∧ b = w) → σ'.2 a b = σ.2 a b) : (mo_wd g σ).set q0 (g.2.2.1 o w, mo_cell g.2.1 g.2.2.1 σ' o w) = mo_wd g σ' := by
  have hl := (List.getElem?_eq_some_iff.mp (mo_wd_at g σ h)).1
  apply List.ext_getElem?
  intro j
  by_cases hj : j = q0
  · subst hj
    rw [List.getElem?_set_self hl, mo_wd_at g σ' h]
  · rw [List.getElem?_set_ne (Ne.symm hj)]
    unfold mo_wd
    rw [List.getElem?_map, List.getElem?_map]
    cases hq : mo_ps[j]? with
    | none => rfl
    | some q =>
      obtain ⟨a, b⟩ := q
      have hne : ¬ (a = o ∧ b = w) := by
        rintro ⟨rfl, rfl⟩
        exact hj (mo_ps_one hq h)
      show some (g.2.2.1 a b, mo_cell g.2.1 g.2.2.1 σ a b) = some (g.2.2.1 a b, mo_cell g.2.1 g.2.2.1 σ' a b)
      unfold mo_cell mo_fv
      rw [h1 a b hne, h2 a b hne]
theorem mo_wI_o (σ : mo_M) (o w k : Nat) (v : Int32) : ∀ a b, ¬ (a = o ∧ b = w) → (mo_wI σ o w k v).1 a b = σ.1 a b := by
  intro a b h
  funext c
  show (if a = o ∧ b = w ∧ c = k then v else σ.1 a b c) = _
  rw [if_neg (fun q => h ⟨q.1, q.2.1⟩)]
theorem mo_wI_s (σ : mo_M) (o w k : Nat) (v : Int32) : (mo_wI σ o w k v).1 o w = upd (σ.1 o w) k v := by
  funext c
  show (if o = o ∧ w = w ∧ c = k then v else σ.1 o w c) = upd (σ.1 o w) k v c
  by_cases h : c = k <;> simp [upd, h]
theorem mo_wL_o (σ : mo_M) (o w k : Nat) (v : Int64) : ∀ a b, ¬ (a = o ∧ b = w) → (mo_wL σ o w k v).2 a b = σ.2 a b := by
  intro a b h
  funext c
  show (if a = o ∧ b = w ∧ c = k then v else σ.2 a b c) = _
  rw [if_neg (fun q => h ⟨q.1, q.2.1⟩)]
theorem mo_wL_s (σ : mo_M) (o w k : Nat) (v : Int64) : (mo_wL σ o w k v).2 o w = vp_updL (σ.2 o w) k v := by
  funext c
  show (if o = o ∧ w = w ∧ c = k then v else σ.2 o w c) = vp_updL (σ.2 o w) k v c
  by_cases h : c = k <;> simp [vp_updL, h]
-- cells by their forms
theorem mo_cell_o {cA : Nat → ClassId} {ad : Nat → Nat → Nat} (σ : mo_M) {o w ci : Nat} (h : mo_kd o = (0, ci)) : mo_cell cA ad σ o w = .inr (ci, (List.range (mo_num ci)).map (mo_fv ad σ o w ci)) := by
  unfold mo_cell; rw [h]; rfl
theorem mo_cell_1 {cA : Nat → ClassId} {ad : Nat → Nat → Nat} (σ : mo_M) {o w n : Nat} (h : mo_kd o = (1, n)) : mo_cell cA ad σ o w = .inl (cA 1, n, .inl (σ.1 o w)) := by
  unfold mo_cell; rw [h]; rfl
theorem mo_cell_2 {cA : Nat → ClassId} {ad : Nat → Nat → Nat} (σ : mo_M) {o w n : Nat} (h : mo_kd o = (2, n)) : mo_cell cA ad σ o w = .inl (cA 2, n, .inr (.inl (σ.2 o w))) := by
  unfold mo_cell; rw [h]; rfl
theorem mo_cell_3 {cA : Nat → ClassId} {ad : Nat → Nat → Nat} (σ : mo_M) {o w n : Nat} (h : mo_kd o = (3, n)) : mo_cell cA ad σ o w = .inl (cA 3, n, .inl (σ.1 o w)) := by
  unfold mo_cell; rw [h]; rfl
theorem mo_cell_4 {cA : Nat → ClassId} {ad : Nat → Nat → Nat} (σ : mo_M) {o w n : Nat} (h : mo_kd o = (4, n)) : mo_cell cA ad σ o w = .inl (cA 4, n, .inl (σ.1 o w)) := by
  unfold mo_cell; rw [h]; rfl
theorem mo_cell_5 {cA : Nat → ClassId} {ad : Nat → Nat → Nat} (σ : mo_M) {o w n : Nat} (h : mo_kd o = (5, n)) : mo_cell cA ad σ o w = .inl (cA 5, n, .inr (.inr (.inr (.inr (fun k => some (ad (mo_rf o 0) k)))))) := by
  unfold mo_cell; rw [h]; rfl
/-- a field of an object is written -/
theorem mo_cell_put {cA : Nat → ClassId} {ad : Nat → Nat → Nat} (σ : mo_M) {o w ci k : Nat} (h : mo_kd o = (0, ci)) (hr : mo_ref ci k = false) (v : Int32) : mo_cell cA ad (mo_wI σ o w k v) o w = .inr (ci, ((List.range (mo_num ci)).map (mo_fv ad σ o w ci)).set k (.int v)) := by
  rw [mo_cell_o _ h]
  congr 2
  apply List.ext_getElem?
  intro j
  by_cases hj : j = k
  · subst hj
    by_cases hl : j < mo_num ci
    · rw [List.getElem?_set_self (by simpa using hl), List.getElem?_map, List.getElem?_range hl]
      show some (mo_fv ad _ o w ci j) = _
      unfold mo_fv
      rw [hr, mo_wI_s]
      simp [upd]
    · rw [List.getElem?_eq_none (by simpa using Nat.le_of_not_lt hl), List.getElem?_eq_none (by simpa using Nat.le_of_not_lt hl)]
  · rw [List.getElem?_set_ne (Ne.symm hj), List.getElem?_map, List.getElem?_map]
    cases hj2 : (List.range (mo_num ci))[j]? with
    | none => rfl
    | some q =>
      obtain ⟨h1, h2⟩ := List.getElem?_eq_some_iff.mp hj2
      rw [List.getElem_range] at h2
      have hq : ¬ q = k := by omega
      show some _ = some _
      unfold mo_fv
      rw [mo_wI_s]
      simp [upd, hq]
