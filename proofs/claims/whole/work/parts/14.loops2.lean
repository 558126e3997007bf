noncomputable def mo_ite {α : Type} (c : Prop) (x y : α) : α := @ite α c (Classical.propDecidable c) x y
theorem mo_ite_t {α : Type} {c : Prop} {x y : α} (h : c) : mo_ite c x y = x := if_pos h
theorem mo_ite_f {α : Type} {c : Prop} {x y : α} (h : ¬ c) : mo_ite c x y = y := if_neg h
/-- what a counting loop makes -/
def mo_fo {α : Type} (f : Nat → α → α) (a : α) : Nat → α
  | 0 => a
  | n + 1 => f n (mo_fo f a n)
def mo_rowI (σ : mo_M) (o w : Nat) (r : Nat → Int32) : mo_M := (fun a b => if a = o ∧ b = w then r else σ.1 a b, σ.2)
def mo_rowL (σ : mo_M) (o w : Nat) (r : Nat → Int64) : mo_M := (σ.1, fun a b => if a = o ∧ b = w then r else σ.2 a b)
theorem mo_rowI_id (σ : mo_M) (o w : Nat) : mo_rowI σ o w (σ.1 o w) = σ := by
  refine Prod.ext ?_ rfl
  funext a b
  show (if a = o ∧ b = w then σ.1 o w else σ.1 a b) = σ.1 a b
  by_cases h : a = o ∧ b = w
  · rw [if_pos h, h.1, h.2]
  · rw [if_neg h]
theorem mo_rowL_id (σ : mo_M) (o w : Nat) : mo_rowL σ o w (σ.2 o w) = σ := by
  refine Prod.ext rfl ?_
  funext a b
  show (if a = o ∧ b = w then σ.2 o w else σ.2 a b) = σ.2 a b
  by_cases h : a = o ∧ b = w
  · rw [if_pos h, h.1, h.2]
  · rw [if_neg h]
theorem mo_rowI_w (σ : mo_M) (o w : Nat) (r : Nat → Int32) (k : Nat) (v : Int32) : mo_wI (mo_rowI σ o w r) o w k v = mo_rowI σ o w (upd r k v) := by
  refine Prod.ext ?_ rfl
  funext a b c
  show (if a = o ∧ b = w ∧ c = k then v else (if a = o ∧ b = w then r else σ.1 a b) c) = (if a = o ∧ b = w then upd r k v else σ.1 a b) c
  by_cases h : a = o ∧ b = w
  · rw [if_pos h, if_pos h]
    by_cases e : c = k <;> simp [upd, h, e]
  · rw [if_neg h, if_neg h, if_neg (fun q => h ⟨q.1, q.2.1⟩)]
theorem mo_rowL_w (σ : mo_M) (o w : Nat) (r : Nat → Int64) (k : Nat) (v : Int64) : mo_wL (mo_rowL σ o w r) o w k v = mo_rowL σ o w (vp_updL r k v) := by
  refine Prod.ext rfl ?_
  funext a b c
  show (if a = o ∧ b = w ∧ c = k then v else (if a = o ∧ b = w then r else σ.2 a b) c) = (if a = o ∧ b = w then vp_updL r k v else σ.2 a b) c
  by_cases h : a = o ∧ b = w
  · rw [if_pos h, if_pos h]
    by_cases e : c = k <;> simp [vp_updL, h, e]
  · rw [if_neg h, if_neg h, if_neg (fun q => h ⟨q.1, q.2.1⟩)]
theorem mo_rowI_r (σ : mo_M) (o w : Nat) (r r' : Nat → Int32) : mo_rowI (mo_rowI σ o w r) o w r' = mo_rowI σ o w r' := by
  refine Prod.ext ?_ rfl
  funext a b
  show (if a = o ∧ b = w then r' else (if a = o ∧ b = w then r else σ.1 a b)) = (if a = o ∧ b = w then r' else σ.1 a b)
  by_cases h : a = o ∧ b = w
  · rw [if_pos h, if_pos h]
  · rw [if_neg h, if_neg h, if_neg h]
theorem mo_rowL_r (σ : mo_M) (o w : Nat) (r r' : Nat → Int64) : mo_rowL (mo_rowL σ o w r) o w r' = mo_rowL σ o w r' := by
  refine Prod.ext rfl ?_
  funext a b
  show (if a = o ∧ b = w then r' else (if a = o ∧ b = w then r else σ.2 a b)) = (if a = o ∧ b = w then r' else σ.2 a b)
  by_cases h : a = o ∧ b = w
  · rw [if_pos h, if_pos h]
  · rw [if_neg h, if_neg h, if_neg h]
theorem mo_r1' {c : Prop} (h : c) : (some (.inl (Int32.ofInt 1)) : Option mo_V) = some (.inl (mo_bl c)) := mo_r1 h
def S_X11_lowest : mo_S := fun as σ Q => ∃ s : Int64, as = [.inr (.inl s)] ∧ (True) ∧ Q (some (.inl (mo_fsI (fun k => mo_bt s (nI k)) 64))) (σ)
theorem m_X11_lowest : ∀ (as : List mo_V) (σ : mo_M) (P P' : mo_Q), (∀ x τ, P x τ → P' x τ) → S_X11_lowest as σ P → S_X11_lowest as σ P' := by
  rintro as σ P P' h ⟨s, e, hp, hq⟩
  exact ⟨s, e, hp, h _ _ hq⟩
def cs_X11_lowest : Nat → mo_C := fun j => match j with
  | 0 => (2, false, 201, 50, S_X11_contains)
  | _ => (0, false, 0, 50, fun _ _ _ => False)
theorem cs_X11_lowest_ok (g : mo_E) : ∀ j, mo_cok g t_X11_lowest (cs_X11_lowest j) ∧ mo_mon (cs_X11_lowest j) := by
  intro j
  unfold cs_X11_lowest
  split
  · exact ⟨mo_cokS ct_X11_contains (by decide +kernel), m_X11_contains⟩
  · exact ⟨mo_cok0 g _, mo_mon0⟩
set_option maxRecDepth 20000 in
set_option maxHeartbeats 2000000 in
theorem lp_X11_lowest (g : mo_E) (σ : mo_M) (Q : mo_Q) (s : Int64) (n : Nat) (hn : (64 : Int32) = nI n) (hle : n ≤ 64) (hQ : Q (some (.inl (mo_fsI (fun k => mo_bt s (nI k)) n))) σ) : ∀ (d k : Nat), n < k + d → k ≤ n → (∀ j, j < k → ¬ (fun k => mo_bt s (nI k)) j) → mo_X g t_X11_lowest Q 2 [some (.inr (.inl s)), none, some (.inl (nI k))] [] (σ) := by
  intro d
  induction d with
  | zero => intro k h1 h2; omega
  | succ d ih =>
    intro k h1 h2 hinv
    have hkc : (nI k).toNatClampNeg = k := mo_cl (by omega)
    refine mo_go ok_X11_lowest (cs_X11_lowest_ok g) [2] 16 ?_
    intro K hK
    refine And.intro (fun (c1 : (64 : Int32) ≤ (nI k)) => ?_) (fun (c1 : ¬ (64 : Int32) ≤ (nI k)) => ?_)
    · have hk : n ≤ k := mo_cge hn (by omega) (by omega) c1
      exact mo_q hQ (by rw [mo_fsI_no (fun j hj => hinv j (by omega))]; rfl) rfl
    · have hk : k < n := mo_clt hn (by omega) (by omega) c1
      refine Exists.intro s (Exists.intro (nI k) (And.intro rfl (And.intro (show True by trivial) ?_)))
      refine And.intro (fun (c2 : (mo_bl (mo_bt s (nI k))) = 0) => ?_) (fun (c2 : ¬ (mo_bl (mo_bt s (nI k))) = 0) => ?_)
      · (have hih := ih (k + 1) (by omega) (by omega) (lt_s hinv (mo_bl0.mp c2)); rw [nI_succ] at hih; exact hK _ _ _ _ hih)
      · (exact mo_q hQ (by rw [mo_fsI_at hk (mo_blT c2) hinv]) rfl)
set_option maxRecDepth 20000 in
set_option maxHeartbeats 2000000 in
theorem ct_X11_lowest : mo_ct yX11_lowest t_X11_lowest S_X11_lowest := by
  refine mo_ct_of (by decide) rfl ?_
  rintro g as σ Q ⟨s, rfl, hpre, hQ⟩
  refine ⟨Nat.le_of_ble_eq_true rfl, mo_go ok_X11_lowest (cs_X11_lowest_ok g) [2] 16 ?_⟩
  intro K hK
  exact hK _ _ _ _ (lp_X11_lowest g σ Q s 64 rfl (by omega) hQ 65 0 (by omega) (by omega) (fun j hj => by omega))
def S_X10_distance : mo_S := fun as σ Q => ∃ m : Int32, as = [.inr (.inr (33, 0)), .inl m] ∧ (mo_le (σ.1 33 0 2) 60) ∧ Q (some (.inl (mo_fsI (fun k => mo_bt (σ.2 35 0 k) m) (σ.1 33 0 2).toNatClampNeg))) (σ)
theorem m_X10_distance : ∀ (as : List mo_V) (σ : mo_M) (P P' : mo_Q), (∀ x τ, P x τ → P' x τ) → S_X10_distance as σ P → S_X10_distance as σ P' := by
  rintro as σ P P' h ⟨m, e, hp, hq⟩
  exact ⟨m, e, hp, h _ _ hq⟩
def cs_X10_distance : Nat → mo_C := fun j => match j with
  | 0 => (2, false, 53, 50, S_X11_contains)
  | _ => (0, false, 0, 50, fun _ _ _ => False)
theorem cs_X10_distance_ok (g : mo_E) : ∀ j, mo_cok g t_X10_distance (cs_X10_distance j) ∧ mo_mon (cs_X10_distance j) := by
  intro j
  unfold cs_X10_distance
  split
  · exact ⟨mo_cokN ct_X11_contains (by simp [mo_nw, t_X10_distance]) (by decide +kernel), m_X11_contains⟩
  · exact ⟨mo_cok0 g _, mo_mon0⟩
set_option maxRecDepth 20000 in
set_option maxHeartbeats 2000000 in
theorem lp_X10_distance (g : mo_E) (σ : mo_M) (Q : mo_Q) (m : Int32) (n : Nat) (hn : σ.1 33 0 2 = nI n) (hle : n ≤ 60) (hQ : Q (some (.inl (mo_fsI (fun k => mo_bt (σ.2 35 0 k) m) n))) σ) : ∀ (d k : Nat), n < k + d → k ≤ n → (∀ j, j < k → ¬ (fun k => mo_bt (σ.2 35 0 k) m) j) → mo_X g t_X10_distance Q 2 [some (.inr (.inr (33, 0))), some (.inl m), some (.inl (nI k))] [] (σ) := by
  intro d
  induction d with
  | zero => intro k h1 h2; omega
  | succ d ih =>
    intro k h1 h2 hinv
    have hkc : (nI k).toNatClampNeg = k := mo_cl (by omega)
    refine mo_go ok_X10_distance (cs_X10_distance_ok g) [2] 20 ?_
    intro K hK
    refine And.intro (fun (c1 : (σ.1 33 0 2) ≤ (nI k)) => ?_) (fun (c1 : ¬ (σ.1 33 0 2) ≤ (nI k)) => ?_)
    · have hk : n ≤ k := mo_cge hn (by omega) (by omega) c1
      exact mo_q hQ (by rw [mo_fsI_no (fun j hj => hinv j (by omega))]; rfl) rfl
    · have hk : k < n := mo_clt hn (by omega) (by omega) c1
      refine And.intro (show vp_in (nI k) 60 by exact mo_inN (by omega) (by decide)) ?_
      refine Exists.intro (σ.2 35 0 ((nI k).toNatClampNeg)) (Exists.intro m (And.intro rfl (And.intro (show True by trivial) ?_)))
      refine And.intro (fun (c2 : (mo_bl (mo_bt (σ.2 35 0 ((nI k).toNatClampNeg)) m)) = 0) => ?_) (fun (c2 : ¬ (mo_bl (mo_bt (σ.2 35 0 ((nI k).toNatClampNeg)) m)) = 0) => ?_)
      · (rw [hkc] at c2; have hih := ih (k + 1) (by omega) (by omega) (lt_s hinv (mo_bl0.mp c2)); rw [nI_succ] at hih; exact hK _ _ _ _ hih)
      · (rw [hkc] at c2; exact mo_q hQ (by rw [mo_fsI_at hk (mo_blT c2) hinv]) rfl)
set_option maxRecDepth 20000 in
set_option maxHeartbeats 2000000 in
theorem ct_X10_distance : mo_ct yX10_distance t_X10_distance S_X10_distance := by
  refine mo_ct_of (by decide) rfl ?_
  rintro g as σ Q ⟨m, rfl, hpre, hQ⟩
  refine ⟨Nat.le_of_ble_eq_true rfl, mo_go ok_X10_distance (cs_X10_distance_ok g) [2] 20 ?_⟩
  intro K hK
  exact hK _ _ _ _ (lp_X10_distance g σ Q m _ hpre.1 hpre.2 hQ ((σ.1 33 0 2).toNatClampNeg + 1) 0 (by omega) (by omega) (fun j hj => by omega))
def S_X9_covers : mo_S := fun as σ Q => ∃ w : Nat, ∃ v : Int32, as = [.inr (.inr (39, w)), .inl v] ∧ (w < 20 ∧ mo_le (σ.1 39 w 2) 30) ∧ Q (some (.inl (mo_bl (∃ k, k < (σ.1 39 w 2).toNatClampNeg ∧ σ.1 40 w k ≤ v ∧ v ≤ σ.1 41 w k)))) (σ)
theorem m_X9_covers : ∀ (as : List mo_V) (σ : mo_M) (P P' : mo_Q), (∀ x τ, P x τ → P' x τ) → S_X9_covers as σ P → S_X9_covers as σ P' := by
  rintro as σ P P' h ⟨w, v, e, hp, hq⟩
  exact ⟨w, v, e, hp, h _ _ hq⟩
set_option maxRecDepth 20000 in
set_option maxHeartbeats 2000000 in
theorem lp_X9_covers (g : mo_E) (σ : mo_M) (Q : mo_Q) (w : Nat) (v : Int32) (n : Nat) (hw : w < 20) (hn : σ.1 39 w 2 = nI n) (hle : n ≤ 30) (hQ : Q (some (.inl (mo_bl (∃ k, k < n ∧ σ.1 40 w k ≤ v ∧ v ≤ σ.1 41 w k)))) σ) : ∀ (d k : Nat), n < k + d → k ≤ n → (∀ j, j < k → ¬ (fun k => σ.1 40 w k ≤ v ∧ v ≤ σ.1 41 w k) j) → mo_X g t_X9_covers Q 2 [some (.inr (.inr (39, w))), some (.inl v), some (.inl (nI k))] [] (σ) := by
  intro d
  induction d with
  | zero => intro k h1 h2; omega
  | succ d ih =>
    intro k h1 h2 hinv
    have hkc : (nI k).toNatClampNeg = k := mo_cl (by omega)
    refine mo_go ok_X9_covers (mo_no_ok g _) [2] 25 ?_
    intro K hK
    refine And.intro (by exact hw) ?_
    refine And.intro (fun (c1 : (σ.1 39 w 2) ≤ (nI k)) => ?_) (fun (c1 : ¬ (σ.1 39 w 2) ≤ (nI k)) => ?_)
    · have hk : n ≤ k := mo_cge hn (by omega) (by omega) c1
      refine And.intro (by first | decide | exact mo_bl01 _) ?_
      exact mo_q hQ (mo_r0 (fun q => by obtain ⟨j, hj, q⟩ := q; exact hinv j (by omega) q)) rfl
    · have hk : k < n := mo_clt hn (by omega) (by omega) c1
      refine And.intro (by exact hw) ?_
      refine And.intro (by exact hw) ?_
      refine And.intro (show vp_in (nI k) 30 by exact mo_inN (by omega) (by decide)) ?_
      refine And.intro (fun (c2 : v < (σ.1 40 w ((nI k).toNatClampNeg))) => ?_) (fun (c2 : ¬ v < (σ.1 40 w ((nI k).toNatClampNeg))) => ?_)
      · (have hih := ih (k + 1) (by omega) (by omega) (lt_s hinv (by rw [hkc] at c2; intro q; exact absurd q.1 (by simpa using c2))); rw [nI_succ] at hih; exact hK _ _ _ _ hih)
      · refine And.intro (by exact hw) ?_
        refine And.intro (by exact hw) ?_
        refine And.intro (show vp_in (nI k) 30 by exact mo_inN (by omega) (by decide)) ?_
        refine And.intro (fun (c3 : (σ.1 41 w ((nI k).toNatClampNeg)) < v) => ?_) (fun (c3 : ¬ (σ.1 41 w ((nI k).toNatClampNeg)) < v) => ?_)
        · (have hih := ih (k + 1) (by omega) (by omega) (lt_s hinv (by rw [hkc] at c2 c3; intro q; exact absurd q.2 (by simpa using c3))); rw [nI_succ] at hih; exact hK _ _ _ _ hih)
        · refine And.intro (by first | decide | exact mo_bl01 _) ?_
          (rw [hkc] at c2 c3; exact mo_q hQ (mo_r1 ⟨k, hk, by simp only [Int32.not_lt] at c2 c3; exact ⟨c2, c3⟩⟩) rfl)
set_option maxRecDepth 20000 in
set_option maxHeartbeats 2000000 in
theorem ct_X9_covers : mo_ct yX9_covers t_X9_covers S_X9_covers := by
  refine mo_ct_of (by decide) rfl ?_
  rintro g as σ Q ⟨w, v, rfl, hpre, hQ⟩
  refine ⟨Nat.le_of_ble_eq_true rfl, mo_go ok_X9_covers (mo_no_ok g _) [2] 25 ?_⟩
  intro K hK
  exact hK _ _ _ _ (lp_X9_covers g σ Q w v _ hpre.1 hpre.2.1 hpre.2.2 hQ ((σ.1 39 w 2).toNatClampNeg + 1) 0 (by omega) (by omega) (fun j hj => by omega))
def S_X10_holdersOf : mo_S := fun as σ Q => ∃ s : Int64, as = [.inr (.inr (33, 0)), .inr (.inl s)] ∧ (True) ∧ Q (some (.inr (.inl (mo_fo (fun k a => mo_ite (¬ (σ.2 34 0 k &&& s) = 0) (a ||| (1 : Int64) <<< ((nI k).toInt64 &&& 63)) a) 0 60)))) (σ)
theorem m_X10_holdersOf : ∀ (as : List mo_V) (σ : mo_M) (P P' : mo_Q), (∀ x τ, P x τ → P' x τ) → S_X10_holdersOf as σ P → S_X10_holdersOf as σ P' := by
  rintro as σ P P' h ⟨s, e, hp, hq⟩
  exact ⟨s, e, hp, h _ _ hq⟩
set_option maxRecDepth 20000 in
set_option maxHeartbeats 2000000 in
theorem lp_X10_holdersOf (g : mo_E) (σ : mo_M) (Q : mo_Q) (s : Int64) (n : Nat) (hn : (60 : Int32) = nI n) (hle : n ≤ 60) (hQ : Q (some (.inr (.inl (mo_fo (fun k a => mo_ite (¬ (σ.2 34 0 k &&& s) = 0) (a ||| (1 : Int64) <<< ((nI k).toInt64 &&& 63)) a) 0 n)))) σ) : ∀ (d k : Nat), n < k + d → k ≤ n → (True) → mo_X g t_X10_holdersOf Q 5 [some (.inr (.inr (33, 0))), some (.inr (.inl s)), none, some (.inr (.inl (mo_fo (fun k a => mo_ite (¬ (σ.2 34 0 k &&& s) = 0) (a ||| (1 : Int64) <<< ((nI k).toInt64 &&& 63)) a) 0 k))), none, some (.inl (nI k))] [] (σ) := by
  intro d
  induction d with
  | zero => intro k h1 h2; omega
  | succ d ih =>
    intro k h1 h2 hinv
    have hkc : (nI k).toNatClampNeg = k := mo_cl (by omega)
    refine mo_go ok_X10_holdersOf (mo_no_ok g _) [5] 27 ?_
    intro K hK
    refine And.intro (fun (c1 : (60 : Int32) ≤ (nI k)) => ?_) (fun (c1 : ¬ (60 : Int32) ≤ (nI k)) => ?_)
    · have hk : n ≤ k := mo_cge hn (by omega) (by omega) c1
      (have e : k = n := (by omega); subst e; exact hQ)
    · have hk : k < n := mo_clt hn (by omega) (by omega) c1
      refine And.intro (show vp_in (nI k) 60 by exact mo_inN (by omega) (by decide)) ?_
      refine And.intro (fun (c2 : (lg_cmp ((σ.2 34 0 ((nI k).toNatClampNeg)) &&& s) (0 : Int64)) = 0) => ?_) (fun (c2 : ¬ (lg_cmp ((σ.2 34 0 ((nI k).toNatClampNeg)) &&& s) (0 : Int64)) = 0) => ?_)
      · (rw [lg_cmp_eq, hkc] at c2; have hih := ih (k + 1) (by omega) (by omega) trivial; rw [nI_succ, show mo_fo (fun k a => mo_ite (¬ (σ.2 34 0 k &&& s) = 0) (a ||| (1 : Int64) <<< ((nI k).toInt64 &&& 63)) a) 0 (k + 1) = mo_fo (fun k a => mo_ite (¬ (σ.2 34 0 k &&& s) = 0) (a ||| (1 : Int64) <<< ((nI k).toInt64 &&& 63)) a) 0 k from mo_ite_f (fun q => q c2)] at hih; exact hK _ _ _ _ hih)
      · (rw [lg_cmp_eq, hkc] at c2; have hih := ih (k + 1) (by omega) (by omega) trivial; rw [nI_succ, show mo_fo (fun k a => mo_ite (¬ (σ.2 34 0 k &&& s) = 0) (a ||| (1 : Int64) <<< ((nI k).toInt64 &&& 63)) a) 0 (k + 1) = (mo_fo (fun k a => mo_ite (¬ (σ.2 34 0 k &&& s) = 0) (a ||| (1 : Int64) <<< ((nI k).toInt64 &&& 63)) a) 0 k) ||| ((1 : Int64) <<< ((nI k).toInt64 &&& 63)) from mo_ite_t c2] at hih; exact hK _ _ _ _ hih)
set_option maxRecDepth 20000 in
set_option maxHeartbeats 2000000 in
theorem ct_X10_holdersOf : mo_ct yX10_holdersOf t_X10_holdersOf S_X10_holdersOf := by
  refine mo_ct_of (by decide) rfl ?_
  rintro g as σ Q ⟨s, rfl, hpre, hQ⟩
  refine ⟨Nat.le_of_ble_eq_true rfl, mo_go ok_X10_holdersOf (mo_no_ok g _) [5] 27 ?_⟩
  intro K hK
  exact hK _ _ _ _ (lp_X10_holdersOf g σ Q s 60 rfl (by omega) hQ 61 0 (by omega) (by omega) trivial)
def S_J7_fill_53178 : mo_S := fun as σ Q => ∃ v : Int32, as = [.inr (.inr (37, 0)), .inl v] ∧ (True) ∧ Q (none) (mo_rowI σ 37 0 (mo_fo (fun k r => upd r k v) (σ.1 37 0) 10))
theorem m_J7_fill_53178 : ∀ (as : List mo_V) (σ : mo_M) (P P' : mo_Q), (∀ x τ, P x τ → P' x τ) → S_J7_fill_53178 as σ P → S_J7_fill_53178 as σ P' := by
  rintro as σ P P' h ⟨v, e, hp, hq⟩
  exact ⟨v, e, hp, h _ _ hq⟩
set_option maxRecDepth 20000 in
set_option maxHeartbeats 2000000 in
theorem lp_J7_fill_53178 (g : mo_E) (σ : mo_M) (Q : mo_Q) (v : Int32) (n : Nat) (hn : (10 : Int32) = nI n) (hle : n ≤ 10) (hQ : Q none (mo_rowI σ 37 0 (mo_fo (fun k r => upd r k v) (σ.1 37 0) n))) : ∀ (d k : Nat), n < k + d → k ≤ n → (True) → mo_X g t_J7_fill_53178 Q 5 [some (.inr (.inr (37, 0))), some (.inl v), some (.inl (nI k)), some (.inl (10 : Int32))] [] (mo_rowI σ 37 0 (mo_fo (fun k r => upd r k v) (σ.1 37 0) k)) := by
  intro d
  induction d with
  | zero => intro k h1 h2; omega
  | succ d ih =>
    intro k h1 h2 hinv
    have hkc : (nI k).toNatClampNeg = k := mo_cl (by omega)
    refine mo_go ok_J7_fill_53178 (mo_no_ok g _) [5] 16 ?_
    intro K hK
    refine And.intro (fun (c1 : (10 : Int32) ≤ (nI k)) => ?_) (fun (c1 : ¬ (10 : Int32) ≤ (nI k)) => ?_)
    · have hk : n ≤ k := mo_cge hn (by omega) (by omega) c1
      (have e : k = n := (by omega); subst e; exact hQ)
    · have hk : k < n := mo_clt hn (by omega) (by omega) c1
      refine And.intro (show vp_in (nI k) 10 by exact mo_inN (by omega) (by decide)) ?_
      (have hih := ih (k + 1) (by omega) (by omega) trivial; rw [nI_succ] at hih; refine hK _ _ _ _ ?_; rw [hkc, mo_rowI_w]; exact hih)
set_option maxRecDepth 20000 in
set_option maxHeartbeats 2000000 in
theorem ct_J7_fill_53178 : mo_ct yJ7_fill_53178 t_J7_fill_53178 S_J7_fill_53178 := by
  refine mo_ct_of (by decide) rfl ?_
  rintro g as σ Q ⟨v, rfl, hpre, hQ⟩
  refine ⟨Nat.le_of_ble_eq_true rfl, mo_go ok_J7_fill_53178 (mo_no_ok g _) [5] 16 ?_⟩
  intro K hK
  (have h0 := lp_J7_fill_53178 g σ Q v 10 rfl (by omega) hQ 11 0 (by omega) (by omega) trivial; rw [show mo_rowI σ 37 0 (mo_fo (fun k r => upd r k v) (σ.1 37 0) 0) = σ from mo_rowI_id σ 37 0] at h0; exact hK _ _ _ _ h0)
def S_J7_fill_d0a16 : mo_S := fun as σ Q => ∃ v : Int64, as = [.inr (.inr (34, 0)), .inr (.inl v)] ∧ (True) ∧ Q (none) (mo_rowL σ 34 0 (mo_fo (fun k r => vp_updL r k v) (σ.2 34 0) 60))
theorem m_J7_fill_d0a16 : ∀ (as : List mo_V) (σ : mo_M) (P P' : mo_Q), (∀ x τ, P x τ → P' x τ) → S_J7_fill_d0a16 as σ P → S_J7_fill_d0a16 as σ P' := by
  rintro as σ P P' h ⟨v, e, hp, hq⟩
  exact ⟨v, e, hp, h _ _ hq⟩
set_option maxRecDepth 20000 in
set_option maxHeartbeats 2000000 in
theorem lp_J7_fill_d0a16 (g : mo_E) (σ : mo_M) (Q : mo_Q) (v : Int64) (n : Nat) (hn : (60 : Int32) = nI n) (hle : n ≤ 60) (hQ : Q none (mo_rowL σ 34 0 (mo_fo (fun k r => vp_updL r k v) (σ.2 34 0) n))) : ∀ (d k : Nat), n < k + d → k ≤ n → (True) → mo_X g t_J7_fill_d0a16 Q 6 [some (.inr (.inr (34, 0))), some (.inr (.inl v)), none, some (.inl (nI k)), some (.inl (60 : Int32))] [] (mo_rowL σ 34 0 (mo_fo (fun k r => vp_updL r k v) (σ.2 34 0) k)) := by
  intro d
  induction d with
  | zero => intro k h1 h2; omega
  | succ d ih =>
    intro k h1 h2 hinv
    have hkc : (nI k).toNatClampNeg = k := mo_cl (by omega)
    refine mo_go ok_J7_fill_d0a16 (mo_no_ok g _) [6] 16 ?_
    intro K hK
    refine And.intro (fun (c1 : (60 : Int32) ≤ (nI k)) => ?_) (fun (c1 : ¬ (60 : Int32) ≤ (nI k)) => ?_)
    · have hk : n ≤ k := mo_cge hn (by omega) (by omega) c1
      (have e : k = n := (by omega); subst e; exact hQ)
    · have hk : k < n := mo_clt hn (by omega) (by omega) c1
      refine And.intro (show vp_in (nI k) 60 by exact mo_inN (by omega) (by decide)) ?_
      (have hih := ih (k + 1) (by omega) (by omega) trivial; rw [nI_succ] at hih; refine hK _ _ _ _ ?_; rw [hkc, mo_rowL_w]; exact hih)
set_option maxRecDepth 20000 in
set_option maxHeartbeats 2000000 in
theorem ct_J7_fill_d0a16 : mo_ct yJ7_fill_d0a16 t_J7_fill_d0a16 S_J7_fill_d0a16 := by
  refine mo_ct_of (by decide) rfl ?_
  rintro g as σ Q ⟨v, rfl, hpre, hQ⟩
  refine ⟨Nat.le_of_ble_eq_true rfl, mo_go ok_J7_fill_d0a16 (mo_no_ok g _) [6] 16 ?_⟩
  intro K hK
  (have h0 := lp_J7_fill_d0a16 g σ Q v 60 rfl (by omega) hQ 61 0 (by omega) (by omega) trivial; rw [show mo_rowL σ 34 0 (mo_fo (fun k r => vp_updL r k v) (σ.2 34 0) 0) = σ from mo_rowL_id σ 34 0] at h0; exact hK _ _ _ _ h0)
def S_X0_merge : mo_S := fun as σ Q => ∃ m : Int32, as = [.inr (.inr (28, 0)), .inl m] ∧ (True) ∧ Q (none) (mo_rowI σ 29 0 (mo_fo (fun k r => mo_ite (mo_bt m.toInt64 (nI k)) (upd r k m) r) (σ.1 29 0) 30))
theorem m_X0_merge : ∀ (as : List mo_V) (σ : mo_M) (P P' : mo_Q), (∀ x τ, P x τ → P' x τ) → S_X0_merge as σ P → S_X0_merge as σ P' := by
  rintro as σ P P' h ⟨m, e, hp, hq⟩
  exact ⟨m, e, hp, h _ _ hq⟩
def cs_X0_merge : Nat → mo_C := fun j => match j with
  | 0 => (2, false, 38, 50, S_X11_contains)
  | _ => (0, false, 0, 50, fun _ _ _ => False)
theorem cs_X0_merge_ok (g : mo_E) : ∀ j, mo_cok g t_X0_merge (cs_X0_merge j) ∧ mo_mon (cs_X0_merge j) := by
  intro j
  unfold cs_X0_merge
  split
  · exact ⟨mo_cokN ct_X11_contains (by simp [mo_nw, t_X0_merge]) (by decide +kernel), m_X11_contains⟩
  · exact ⟨mo_cok0 g _, mo_mon0⟩
set_option maxRecDepth 20000 in
set_option maxHeartbeats 2000000 in
theorem lp_X0_merge (g : mo_E) (σ : mo_M) (Q : mo_Q) (m : Int32) (n : Nat) (hn : (30 : Int32) = nI n) (hle : n ≤ 30) (hQ : Q none (mo_rowI σ 29 0 (mo_fo (fun k r => mo_ite (mo_bt m.toInt64 (nI k)) (upd r k m) r) (σ.1 29 0) n))) : ∀ (d k : Nat), n < k + d → k ≤ n → (True) → mo_X g t_X0_merge Q 2 [some (.inr (.inr (28, 0))), some (.inl m), some (.inl (nI k))] [] (mo_rowI σ 29 0 (mo_fo (fun k r => mo_ite (mo_bt m.toInt64 (nI k)) (upd r k m) r) (σ.1 29 0) k)) := by
  intro d
  induction d with
  | zero => intro k h1 h2; omega
  | succ d ih =>
    intro k h1 h2 hinv
    have hkc : (nI k).toNatClampNeg = k := mo_cl (by omega)
    refine mo_go ok_X0_merge (cs_X0_merge_ok g) [2] 19 ?_
    intro K hK
    refine And.intro (fun (c1 : (30 : Int32) ≤ (nI k)) => ?_) (fun (c1 : ¬ (30 : Int32) ≤ (nI k)) => ?_)
    · have hk : n ≤ k := mo_cge hn (by omega) (by omega) c1
      (have e : k = n := (by omega); subst e; exact hQ)
    · have hk : k < n := mo_clt hn (by omega) (by omega) c1
      refine Exists.intro m.toInt64 (Exists.intro (nI k) (And.intro rfl (And.intro (show True by trivial) ?_)))
      refine And.intro (fun (c2 : (mo_bl (mo_bt m.toInt64 (nI k))) = 0) => ?_) (fun (c2 : ¬ (mo_bl (mo_bt m.toInt64 (nI k))) = 0) => ?_)
      · (have hih := ih (k + 1) (by omega) (by omega) trivial; rw [nI_succ] at hih; refine hK _ _ _ _ (show mo_X g t_X0_merge Q 2 [some (.inr (.inr (28, 0))), some (.inl m), some (.inl ((nI k) + (1 : Int32)))] [] (mo_rowI σ 29 0 (mo_fo (fun k r => mo_ite (mo_bt m.toInt64 (nI k)) (upd r k m) r) (σ.1 29 0) k)) from ?_); rw [show mo_fo (fun k r => mo_ite (mo_bt m.toInt64 (nI k)) (upd r k m) r) (σ.1 29 0) (k + 1) = mo_fo (fun k r => mo_ite (mo_bt m.toInt64 (nI k)) (upd r k m) r) (σ.1 29 0) k from mo_ite_f (mo_bl0.mp c2)] at hih; exact hih)
      · refine And.intro (show vp_in (nI k) 30 by exact mo_inN (by omega) (by decide)) ?_
        (have hih := ih (k + 1) (by omega) (by omega) trivial; rw [nI_succ] at hih; refine hK _ _ _ _ (show mo_X g t_X0_merge Q 2 [some (.inr (.inr (28, 0))), some (.inl m), some (.inl ((nI k) + (1 : Int32)))] [] (mo_wI (mo_rowI σ 29 0 (mo_fo (fun k r => mo_ite (mo_bt m.toInt64 (nI k)) (upd r k m) r) (σ.1 29 0) k)) 29 0 ((nI k).toNatClampNeg) m) from ?_); rw [hkc, mo_rowI_w]; rw [show mo_fo (fun k r => mo_ite (mo_bt m.toInt64 (nI k)) (upd r k m) r) (σ.1 29 0) (k + 1) = upd (mo_fo (fun k r => mo_ite (mo_bt m.toInt64 (nI k)) (upd r k m) r) (σ.1 29 0) k) k m from mo_ite_t (mo_blT c2)] at hih; exact hih)
set_option maxRecDepth 20000 in
set_option maxHeartbeats 2000000 in
theorem ct_X0_merge : mo_ct yX0_merge t_X0_merge S_X0_merge := by
  refine mo_ct_of (by decide) rfl ?_
  rintro g as σ Q ⟨m, rfl, hpre, hQ⟩
  refine ⟨Nat.le_of_ble_eq_true rfl, mo_go ok_X0_merge (cs_X0_merge_ok g) [2] 19 ?_⟩
  intro K hK
  (have h0 := lp_X0_merge g σ Q m 30 rfl (by omega) hQ 31 0 (by omega) (by omega) trivial; rw [show mo_rowI σ 29 0 (mo_fo (fun k r => mo_ite (mo_bt m.toInt64 (nI k)) (upd r k m) r) (σ.1 29 0) 0) = σ from mo_rowI_id σ 29 0] at h0; exact hK _ _ _ _ h0)
