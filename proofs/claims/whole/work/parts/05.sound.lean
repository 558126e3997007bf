/-! words: those of the tables that stay -/
def mo_gw : List Cond := lw_tbl.filter goodWord
theorem mo_gw_of {w : Cond} (h : w ∈ lw_tbl) (hg : goodWord w = true) : w ∈ mo_gw := List.mem_filter.mpr ⟨h, hg⟩
theorem mo_gw_in {w : Cond} (h : w ∈ mo_gw) : w ∈ lw_tbl := (List.mem_filter.mp h).1
theorem mo_gw_good {w : Cond} (h : w ∈ mo_gw) : goodWord w = true := (List.mem_filter.mp h).2
/-- words by which a nested class reaches a private member of its host -/
def mo_nw : List Cond := [.methodLinkNest RX4 33 yX11_contains RX11, .methodLinkNest RX0 38 yX11_contains RX11, .methodLinkNest RX10 53 yX11_contains RX11, .methodLinkNest RX10 61 yX11_lowest RX11, .methodLinkNest RX1 35 yX11_contains RX11, .methodLinkNest RX6 21 yX11_contains RX11, .fieldLinkNest RX7 76 "MadeOf" "VERSION_SCALE" "[I" RX11]
/-- String constants of the reader -/
def mo_sr : List (Nat × String × Nat) := [(34, "bad", 91), (54, "or", 92), (59, "and", 93), (61, "any", 94)]
/-- what lies outside the picture and is only read -/
def mo_xt (g : mo_E) (U : State) : Prop :=
  va_Z "MadeOf" "VERSION_SCALE" "[I" (.ref (g.2.2.1 90 0)) g.2.2.2.1 U U.heap ∧ va_T .int (g.2.2.1 90 0) 3 (fun j => .int (mo_ev g.2.2.2.2 90 j)) g.2.2.2.1 U U.heap ∧
  va_T .int (g.2.2.1 95 0) g.2.2.2.2.1 (fun j => .int (mo_ev g.2.2.2.2 95 j)) g.2.2.2.1 U U.heap ∧
  (∀ x ∈ mo_sr, vk_R RX7 x.1 x.2.1 (g.2.2.1 x.2.2 0) U) ∧ (∃ adV : Nat → Nat, vk_S 4 [3, 2, 3, 3] [[98, 97, 100], [111, 114], [97, 110, 100], [97, 110, 121]] (fun i => g.2.2.1 (91 + i) 0) adV g.2.2.2.1 U U.heap) ∧
  va_Z "java/lang/String" "COMPACT_STRINGS" "Z" (.int 1) g.2.2.2.1 U U.heap ∧ va_Zq "jdk/internal/util/Preconditions" "SIOOBE_FORMATTER" "Ljava/util/function/BiFunction;" g.2.2.2.1 U U.heap
def mo_ok (g : mo_E) (U : State) : Prop := va_K g.1 vwCl (mo_ty g.2.1) U ∧ (∀ q ∈ mo_ps, ∀ r ∈ mo_ps, g.2.2.1 q.1 q.2 = g.2.2.1 r.1 r.2 → q = r) ∧ (∀ q ∈ mo_ps, g.2.2.2.1 (g.2.2.1 q.1 q.2)) ∧ (∀ w ∈ mo_nw, va_Nw w U) ∧ mo_xt g U
theorem mo_xt_moved {g : mo_E} {u U : State} (hW : u.WarmedH U.vm) (hh : ∀ a : Nat, a < u.heap.size → ¬ g.2.2.2.1 a → U.heap[a]? = u.heap[a]?) (h : mo_xt g u) : mo_xt g U := by
  obtain ⟨h1, h2, h3, h4, ⟨v, h5⟩, h6, h7⟩ := h
  have ha := hW.alike
  exact ⟨va_Z.kept (va_Z.moved ha h1) hh, va_T.kept (va_T.moved ha h2) hh, va_T.kept (va_T.moved ha h3) hh, fun x hx => vk_R.warm hW (h4 x hx), ⟨v, vk_S.kept (vk_S.moved ha h5) hh⟩, va_Z.kept (va_Z.moved ha h6) hh, va_Zq.kept (va_Zq.moved ha h7) hh⟩
theorem mo_ok_moved {g : mo_E} {u U : State} (hW : u.WarmedH U.vm) (hh : ∀ a : Nat, a < u.heap.size → ¬ g.2.2.2.1 a → U.heap[a]? = u.heap[a]?) (h : mo_ok g u) : mo_ok g U := by
  obtain ⟨h1, h2, h3, h4, h5⟩ := h
  refine ⟨va_K.moved hW.alike h1, h2, h3, fun w hw => ?_, mo_xt_moved hW hh h5⟩
  have hz := h4 w hw
  simp only [mo_nw, List.mem_cons, List.not_mem_nil, or_false] at hw
  rcases hw with rfl | rfl | rfl | rfl | rfl | rfl | rfl
  · exact va_Nw.warmM hW hz
  · exact va_Nw.warmM hW hz
  · exact va_Nw.warmM hW hz
  · exact va_Nw.warmM hW hz
  · exact va_Nw.warmM hW hz
  · exact va_Nw.warmM hW hz
  · exact va_Nw.warmF hW hz
theorem mo_D (g : mo_E) (σ : mo_M) {U : State} (h : mo_ok g U) : va_D g.2.2.2.1 (mo_wd g σ) := by
  obtain ⟨-, h2, h3, -⟩ := h
  have key : ∀ (i : Nat) (x : Nat × va_E), (mo_wd g σ)[i]? = some x → ∃ q : Nat × Nat, mo_ps[i]? = some q ∧ x.1 = g.2.2.1 q.1 q.2 := by
    intro i x hi
    unfold mo_wd at hi
    rw [List.getElem?_map] at hi
    cases hq : mo_ps[i]? with
    | none => rw [hq] at hi; cases hi
    | some q => rw [hq] at hi; cases hi; exact ⟨q, rfl, rfl⟩
  refine ⟨fun i j x y hx hy hxy => ?_, fun i x hx => ?_⟩
  · obtain ⟨q, h4, h5⟩ := key i x hx
    obtain ⟨r, h6, h7⟩ := key j y hy
    have := h2 q (List.mem_of_getElem? h4) r (List.mem_of_getElem? h6) (by rw [← h5, ← h7]; exact hxy)
    subst this
    exact mo_ps_one h4 h6
  · obtain ⟨q, h4, h5⟩ := key i x hx
    rw [h5]
    exact h3 q (List.mem_of_getElem? h4)
/-! locals -/
def mo_lp (ad : Nat → Nat → Nat) : Nat → mo_L → List (Nat × Value)
  | _, [] => []
  | i, none :: r => mo_lp ad (i + 1) r
  | i, some v :: r => (i, mo_cv ad v) :: mo_lp ad (i + 1) r
theorem mo_lp_mem (ad : Nat → Nat → Nat) : ∀ (ls : mo_L) (i : Nat) (q : Nat × Value), q ∈ mo_lp ad i ls ↔ ∃ (j : Nat) (v : mo_V), mo_lk ls j = some v ∧ q = (i + j, mo_cv ad v)
  | [], i, q => by simp [mo_lp, mo_lk]
  | none :: r, i, q => by
    rw [mo_lp, mo_lp_mem ad r (i + 1) q]
    constructor
    · rintro ⟨j, v, h, rfl⟩
      exact ⟨j + 1, v, h, by rw [show i + (j + 1) = i + 1 + j by omega]⟩
    · rintro ⟨j, v, h, rfl⟩
      cases j with
      | zero => cases h
      | succ j => exact ⟨j, v, h, by rw [show i + (j + 1) = i + 1 + j by omega]⟩
  | some w :: r, i, q => by
    rw [mo_lp, List.mem_cons, mo_lp_mem ad r (i + 1) q]
    constructor
    · rintro (rfl | ⟨j, v, h, rfl⟩)
      · exact ⟨0, w, rfl, rfl⟩
      · exact ⟨j + 1, v, h, by rw [show i + (j + 1) = i + 1 + j by omega]⟩
    · rintro ⟨j, v, h, rfl⟩
      cases j with
      | zero => cases h; exact Or.inl rfl
      | succ j => exact Or.inr ⟨j, v, h, by rw [show i + (j + 1) = i + 1 + j by omega]⟩
theorem mo_lk_set : ∀ (ls : mo_L) (i j : Nat) (v : Option mo_V), mo_lk (mo_set ls i v) j = if j = i then (if i < ls.length then v else none) else mo_lk ls j
  | [], i, j, v => by simp [mo_set, mo_lk]
  | a :: r, 0, 0, v => by simp [mo_set, mo_lk]
  | a :: r, 0, j + 1, v => by simp [mo_set, mo_lk]
  | a :: r, i + 1, 0, v => by simp [mo_set, mo_lk]
  | a :: r, i + 1, j + 1, v => by simp [mo_set, mo_lk, mo_lk_set r i j v]
theorem mo_cv_cat (ad : Nat → Nat → Nat) (v : mo_V) : (mo_cv ad v).category = if mo_wide v then 2 else 1 := by
  rcases v with x | x | ⟨o, w⟩ <;> rfl
theorem mo_lv {ad : Nat → Nat → Nat} {A : Array Slot} {n : Nat} {ls : mo_L} (h : lv_has A n (mo_lp ad 0 ls)) {i : Nat} {v : mo_V} (hi : mo_lk ls i = some v) : A[i]? = some (.val (mo_cv ad v)) :=
  h.2.2 (i, mo_cv ad v) ((mo_lp_mem ad ls 0 _).mpr ⟨i, v, hi, by simp⟩)
/-- what a store of one word leaves -/
theorem mo_lst {ad : Nat → Nat → Nat} {A : Array Slot} {n : Nat} {ls : mo_L} {i : Nat} {v : mo_V} (h : lv_has A n ((i, mo_cv ad v) :: (mo_lp ad 0 ls).filter (fun q => !(q.1 == i) && !(q.1 + 1 == i && q.2.category == 2)))) : lv_has A n (mo_lp ad 0 (mo_st ls i v)) := by
  refine ⟨h.1, h.2.1, fun q hq => ?_⟩
  obtain ⟨j, u, hj, rfl⟩ := (mo_lp_mem ad _ 0 q).mp hq
  simp only [Nat.zero_add] at *
  have key : (j = i ∧ u = v) ∨ (mo_lk ls j = some u ∧ ¬ j = i ∧ ¬ (j + 1 = i ∧ mo_wide u = true)) := by
    unfold mo_st at hj
    cases i with
    | zero =>
      simp only [mo_lk_set] at hj
      by_cases e : j = 0
      · rw [if_pos e] at hj
        split at hj
        · cases hj; exact Or.inl ⟨e, rfl⟩
        · cases hj
      · rw [if_neg e] at hj
        exact Or.inr ⟨hj, e, fun q => absurd q.1 (by omega)⟩
    | succ i =>
      simp only at hj
      split at hj
      next x hx =>
        simp only [mo_lk_set] at hj
        by_cases e : j = i + 1
        · rw [if_pos e] at hj
          split at hj
          · cases hj; exact Or.inl ⟨e, rfl⟩
          · cases hj
        · rw [if_neg e] at hj
          by_cases e2 : j = i
          · rw [if_pos e2] at hj
            split at hj <;> cases hj
          · rw [if_neg e2] at hj
            exact Or.inr ⟨hj, e, fun q => e2 (by omega)⟩
      next hx =>
        simp only [mo_lk_set] at hj
        by_cases e : j = i + 1
        · rw [if_pos e] at hj
          split at hj
          · cases hj; exact Or.inl ⟨e, rfl⟩
          · cases hj
        · rw [if_neg e] at hj
          refine Or.inr ⟨hj, e, fun q => ?_⟩
          obtain ⟨q1, q2⟩ := q
          have : j = i := by omega
          subst this
          rcases u with x | x | ⟨o, w⟩
          · cases q2
          · exact hx x hj
          · cases q2
  rcases key with ⟨rfl, rfl⟩ | ⟨h1, h2, h3⟩
  · exact h.2.2 _ List.mem_cons_self
  · refine h.2.2 (j, mo_cv ad u) (List.mem_cons_of_mem _ (List.mem_filter.mpr ⟨(mo_lp_mem ad ls 0 (j, mo_cv ad u)).mpr ⟨j, u, h1, by simp⟩, ?_⟩))
    simp only [mo_cv_cat]
    cases hw : mo_wide u with
    | false => simp [h2]
    | true =>
      have : ¬ j + 1 = i := fun e => h3 ⟨e, hw⟩
      simp [h2, this]
theorem mo_lst2 {ad : Nat → Nat → Nat} {A : Array Slot} {n : Nat} {ls : mo_L} {i : Nat} {v : mo_V} (h : lv_has A n ((i, mo_cv ad v) :: (mo_lp ad 0 ls).filter (fun q => !(q.1 == i) && (!(q.1 == i + 1) && !(q.1 + 1 == i && q.2.category == 2))))) : lv_has A n (mo_lp ad 0 (mo_st2 ls i v)) := by
  have h1 : lv_has A n ((i, mo_cv ad v) :: (mo_lp ad 0 (mo_set ls (i + 1) none)).filter (fun q => !(q.1 == i) && !(q.1 + 1 == i && q.2.category == 2))) := by
    refine ⟨h.1, h.2.1, fun q hq => h.2.2 q ?_⟩
    rcases List.mem_cons.mp hq with rfl | hq
    · exact List.mem_cons_self
    · obtain ⟨hq1, hq2⟩ := List.mem_filter.mp hq
      obtain ⟨j, u, hj, rfl⟩ := (mo_lp_mem ad _ 0 q).mp hq1
      rw [mo_lk_set] at hj
      by_cases e : j = i + 1
      · rw [if_pos e] at hj
        split at hj <;> cases hj
      · rw [if_neg e] at hj
        refine List.mem_cons_of_mem _ (List.mem_filter.mpr ⟨(mo_lp_mem ad ls 0 _).mpr ⟨j, u, hj, rfl⟩, ?_⟩)
        simp only [Nat.zero_add] at hq2 ⊢
        simp only [Bool.and_eq_true] at hq2 ⊢
        exact ⟨hq2.1, by simp [e], hq2.2⟩
  have h2 := mo_lst h1
  refine ⟨h2.1, h2.2.1, fun q hq => h2.2.2 q ?_⟩
  obtain ⟨j, u, hj, rfl⟩ := (mo_lp_mem ad _ 0 q).mp hq
  refine (mo_lp_mem ad _ 0 _).mpr ⟨j, u, ?_, rfl⟩
  unfold mo_st2 at hj
  rw [mo_lk_set] at hj
  by_cases e : j = i + 1
  · rw [if_pos e] at hj
    split at hj <;> cases hj
  · rw [if_neg e] at hj
    rw [← hj]
    have es : ∀ k : Nat, k ≤ i → mo_lk (mo_set ls (i + 1) none) k = mo_lk ls k := fun k hk => by rw [mo_lk_set, if_neg (by omega)]
    have el : (mo_set ls (i + 1) none).length = ls.length := by
      clear h h1 h2 hj hq e es
      induction ls generalizing i with
      | nil => rfl
      | cons a r ih =>
        cases i with
        | zero => cases r <;> rfl
        | succ i => simp [mo_set, ih]
    unfold mo_st
    cases i with
    | zero => simp only [mo_lk_set, el]; split <;> simp_all
    | succ i =>
      simp only
      rw [es i (by omega)]
      have eset : ∀ (l : mo_L) (a : Nat), (mo_set l a none).length = l.length := by
        intro l
        induction l with
        | nil => intro a; rfl
        | cons x r ih => intro a; cases a <;> simp [mo_set, ih]
      split
      · simp only [mo_lk_set, eset]
        by_cases e1 : j = i + 1 <;> by_cases e2 : j = i <;> simp [e1, e2, e]
      · simp only [mo_lk_set, eset]
        by_cases e1 : j = i + 1 <;> simp [e1, e]
