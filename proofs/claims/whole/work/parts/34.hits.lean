theorem mo_ct_or {y : MethodName} {mt : mo_T} {S S' : mo_S} (h : mo_ct y mt S) (h' : mo_ct y mt S') : mo_ct y mt (fun as σ Q => S as σ Q ∨ S' as σ Q) := by
  intro g l as σ Q hS
  rcases hS with q | q
  · exact h g l as σ Q q
  · exact h' g l as σ Q q
theorem mo_wlk_c {E : Nat → Nat → Prop} {B B' : Nat → Prop} {N : Nat} (hE : ∀ a b, E a b → b < N) (hB : ∀ m, m < N → (B m ↔ B' m)) : ∀ (d m : Nat), m < N → (mo_wlk E B d m ↔ mo_wlk E B' d m)
  | 0, m, hm => hB m hm
  | d + 1, m, hm => ⟨fun ⟨b, h1, h2⟩ => ⟨b, h1, (mo_wlk_c hE hB d b (hE _ _ h1)).mp h2⟩, fun ⟨b, h1, h2⟩ => ⟨b, h1, (mo_wlk_c hE hB d b (hE _ _ h1)).mpr h2⟩⟩
theorem mo_sh_c {E : Nat → Nat → Prop} {B B' : Nat → Prop} {r : Nat → Int32} {N : Nat} (hE : ∀ a b, E a b → b < N) (hB : ∀ m, m < N → (B m ↔ B' m)) (h : mo_sh E B r N) : mo_sh E B' r N := by
  intro m hm
  rcases h m hm with ⟨q, z⟩ | ⟨d, h1, h2, h3, h4⟩
  · exact Or.inl ⟨q, fun d w => z d ((mo_wlk_c hE hB d m hm).mpr w)⟩
  · exact Or.inr ⟨d, h1, h2, (mo_wlk_c hE hB d m hm).mp h3, fun e he w => h4 e he ((mo_wlk_c hE hB e m hm).mpr w)⟩
theorem mo_fo_upd {f : Nat → Int32} {r : Nat → Int32} : ∀ {n m : Nat}, m < n → mo_fo (fun k r => upd r k (f k)) r n m = f m
  | 0, m, h => absurd h (by omega)
  | n + 1, m, h => by
    show upd (mo_fo (fun k r => upd r k (f k)) r n) n (f n) m = f m
    by_cases e : m = n
    · subst e; simp [upd]
    · rw [show upd (mo_fo (fun k r => upd r k (f k)) r n) n (f n) m = mo_fo (fun k r => upd r k (f k)) r n m from by simp [upd, e]]
      exact mo_fo_upd (by omega)
theorem mo_rowI_c (σ : mo_M) {o o' : Nat} (r r' : Nat → Int32) (h : o ≠ o') : mo_rowI (mo_rowI σ o 0 r) o' 0 r' = mo_rowI (mo_rowI σ o' 0 r') o 0 r := by
  refine Prod.ext ?_ rfl
  funext a b
  show (if a = o' ∧ b = 0 then r' else (if a = o ∧ b = 0 then r else σ.1 a b)) = (if a = o ∧ b = 0 then r else (if a = o' ∧ b = 0 then r' else σ.1 a b))
  by_cases h1 : a = o' ∧ b = 0
  · rw [if_pos h1, if_neg (by omega), if_pos h1]
  · rw [if_neg h1, if_neg h1]
def S_X12_spreads : mo_S := fun as σ Q => S_X12_spreads80 as σ Q ∨ S_X12_spreads81 as σ Q
theorem m_X12_spreads : ∀ (as : List mo_V) (σ : mo_M) (P P' : mo_Q), (∀ x τ, P x τ → P' x τ) → S_X12_spreads as σ P → S_X12_spreads as σ P' := by
  rintro as σ P P' h (q | q)
  · exact Or.inl (m_X12_spreads80 as σ P P' h q)
  · exact Or.inr (m_X12_spreads81 as σ P P' h q)
theorem ct_X12_spreads : mo_ct yX12_spreads t_X12_spreads S_X12_spreads := mo_ct_or ct_X12_spreads80 ct_X12_spreads81
def S_X12_nextOf : mo_S := fun as σ Q => S_X12_nextOf80 as σ Q ∨ S_X12_nextOf81 as σ Q
theorem m_X12_nextOf : ∀ (as : List mo_V) (σ : mo_M) (P P' : mo_Q), (∀ x τ, P x τ → P' x τ) → S_X12_nextOf as σ P → S_X12_nextOf as σ P' := by
  rintro as σ P P' h (q | q)
  · exact Or.inl (m_X12_nextOf80 as σ P P' h q)
  · exact Or.inr (m_X12_nextOf81 as σ P P' h q)
theorem ct_X12_nextOf : mo_ct yX12_nextOf t_X12_nextOf S_X12_nextOf := mo_ct_or ct_X12_nextOf80 ct_X12_nextOf81
noncomputable def mo_gM (σ : mo_M) (a : Int32) : mo_M := mo_rowI (mo_wI σ 50 0 28 (mo_gat σ a (σ.1 50 0 18).toNatClampNeg).2) 71 0 (mo_gat σ a (σ.1 50 0 18).toNatClampNeg).1
def mo_gP (σ : mo_M) : Prop := mo_le (σ.1 50 0 18) 40 ∧ (mo_le (σ.1 50 0 19) 40 ∧ ∀ u, u < (σ.1 50 0 19).toNatClampNeg → vp_in (σ.1 68 0 u) 30 ∧ vp_in (σ.1 69 0 u) 30) ∧ ∀ k, k < (σ.1 50 0 18).toNatClampNeg → vp_in (σ.1 64 0 k) 30 ∧ vp_in (σ.1 65 0 k) 30
def mo_hP (σ : mo_M) (a : Int32) : Prop := mo_gP σ ∧ (mo_le (σ.1 50 0 6) 200 ∧ ∀ u, u < (σ.1 50 0 6).toNatClampNeg → vp_in (σ.1 54 0 u) (σ.1 50 0 2).toNatClampNeg ∧ vp_in (σ.1 55 0 u) (σ.1 50 0 2).toNatClampNeg) ∧ mo_le (σ.1 50 0 2) 60 ∧ vp_in a 20 ∧ (∀ m, m < (σ.1 50 0 2).toNatClampNeg → vp_in (σ.1 52 0 m) 30) ∧ vp_in (σ.1 73 0 a.toNatClampNeg) 30 ∧ mo_le (σ.1 74 0 a.toNatClampNeg) 30
noncomputable def mo_hC (σ : mo_M) (a c : Int32) (r q : Nat → Int32) : Prop := mo_sh (mo_lnk σ c 0) (fun m => mo_isB (mo_gM σ c) a (nI m)) r (σ.1 50 0 2).toNatClampNeg ∧ mo_sh (mo_lnk σ c 1) (fun m => mo_isB (mo_gM σ c) a (nI m)) q (σ.1 50 0 2).toNatClampNeg
noncomputable def mo_hM (σ : mo_M) (c : Int32) (r q : Nat → Int32) : mo_M := mo_rowI (mo_rowI (mo_gM σ c) 80 0 r) 81 0 q
def cs_X12_hits : Nat → mo_C := fun j => match j with
  | 0 => (2, true, 172, 12, S_X12_gathers)
  | 1 => (3, true, 252, 12, S_X12_isBad)
  | 2 => (4, true, 255, 12, S_X12_spreads)
  | _ => (0, false, 0, 50, fun _ _ _ => False)
theorem cs_X12_hits_ok (g : mo_E) : ∀ j, mo_cok g t_X12_hits (cs_X12_hits j) ∧ mo_mon (cs_X12_hits j) := by
  intro j
  unfold cs_X12_hits
  split
  · exact ⟨mo_cokV ct_X12_gathers (by decide) ⟨_, _, rfl⟩ (by decide +kernel), m_X12_gathers⟩
  · exact ⟨mo_cokV ct_X12_isBad (by decide) ⟨_, _, rfl⟩ (by decide +kernel), m_X12_isBad⟩
  · exact ⟨mo_cokV ct_X12_spreads (by decide) ⟨_, _, rfl⟩ (by decide +kernel), m_X12_spreads⟩
  · exact ⟨mo_cok0 g _, mo_mon0⟩

theorem mo_rowI_w2 (σ : mo_M) (r r' : Nat → Int32) (k : Nat) (v : Int32) : mo_wI (mo_rowI (mo_rowI σ 80 0 r) 81 0 r') 81 0 k v = mo_rowI (mo_rowI σ 80 0 r) 81 0 (upd r' k v) := mo_rowI_w _ _ _ _ _ _
theorem mo_sw2 (σ : mo_M) (r r' : Nat → Int32) (k : Nat) (v : Int32) : mo_wI (mo_rowI (mo_rowI σ 80 0 r) 81 0 r') 80 0 k v = mo_rowI (mo_rowI σ 80 0 (upd r k v)) 81 0 r' := by
  rw [mo_rowI_c σ r r' (by decide), mo_rowI_w, mo_rowI_c _ _ _ (by decide)]
theorem mo_r80g (σ : mo_M) (r r' : Nat → Int32) (k : Nat) (v : Int32) : (mo_rowI (mo_rowI σ 80 0 (upd r k v)) 81 0 r').1 80 0 k = v := by
  show upd r k v k = v
  simp [upd]
set_option maxRecDepth 20000 in
set_option maxHeartbeats 2000000 in
theorem lp_X12_hits (g : mo_E) (σ : mo_M) (Q : mo_Q) (a c : Int32) (n : Nat) (hn : σ.1 50 0 2 = nI n) (hle : n ≤ 60) (ha : vp_in a 20) (hp : ∀ m, m < n → vp_in (σ.1 52 0 m) 30) (hwp : vp_in (σ.1 73 0 a.toNatClampNeg) 30) (hwt : mo_le (σ.1 74 0 a.toNatClampNeg) 30) (hL : mo_le (σ.1 50 0 6) 200 ∧ ∀ u, u < (σ.1 50 0 6).toNatClampNeg → vp_in (σ.1 54 0 u) n ∧ vp_in (σ.1 55 0 u) n) (hQ : ∀ r q, mo_sh (mo_lnk σ c 0) (fun m => mo_isB σ a (nI m)) r n → mo_sh (mo_lnk σ c 1) (fun m => mo_isB σ a (nI m)) q n → Q none (mo_rowI (mo_rowI σ 80 0 r) 81 0 q)) : ∀ (d k : Nat), n < k + d → k ≤ n → True → mo_X g t_X12_hits Q 7 [some (.inr (.inr (50, 0))), some (.inl a), some (.inl c), some (.inl (nI k))] [] (mo_rowI (mo_rowI σ 80 0 (mo_fo (fun k r => upd r k ((fun k => mo_ite (mo_isB σ a (nI k)) (0 : Int32) (-1 : Int32)) k)) (σ.1 80 0) k)) 81 0 (mo_fo (fun k r => upd r k ((fun k => mo_ite (mo_isB σ a (nI k)) (0 : Int32) (-1 : Int32)) k)) (σ.1 81 0) k)) := by
  intro d
  induction d with
  | zero => intro k h1 h2; omega
  | succ d ih =>
    intro k h1 h2 hinv
    have hkc : (nI k).toNatClampNeg = k := mo_cl (by omega)
    refine mo_go ok_X12_hits (cs_X12_hits_ok g) [7] 45 ?_
    intro K hK
    refine And.intro (fun (c1 : (σ.1 50 0 2) ≤ (nI k)) => ?_) (fun (c1 : ¬ (σ.1 50 0 2) ≤ (nI k)) => ?_)
    · have hk : n ≤ k := mo_cge hn (by omega) (by omega) c1
      refine Or.inl ?_
      refine Exists.intro c (Exists.intro (0 : Int32) (And.intro rfl (And.intro (show (mo_le (σ.1 50 0 6) 200 ∧ ∀ u_, u_ < (σ.1 50 0 6).toNatClampNeg → vp_in (σ.1 54 0 u_) (σ.1 50 0 2).toNatClampNeg ∧ vp_in (σ.1 55 0 u_) (σ.1 50 0 2).toNatClampNeg) ∧ (σ.1 50 0 2).toNatClampNeg ≤ 60 ∧ ∀ m_, m_ < (σ.1 50 0 2).toNatClampNeg → (mo_rowI (mo_rowI σ 80 0 (mo_fo (fun k r => upd r k ((fun k => mo_ite (mo_isB σ a (nI k)) (0 : Int32) (-1 : Int32)) k)) (σ.1 80 0) k)) 81 0 (mo_fo (fun k r => upd r k ((fun k => mo_ite (mo_isB σ a (nI k)) (0 : Int32) (-1 : Int32)) k)) (σ.1 81 0) k)).1 80 0 m_ = -1 ∨ (mo_rowI (mo_rowI σ 80 0 (mo_fo (fun k r => upd r k ((fun k => mo_ite (mo_isB σ a (nI k)) (0 : Int32) (-1 : Int32)) k)) (σ.1 80 0) k)) 81 0 (mo_fo (fun k r => upd r k ((fun k => mo_ite (mo_isB σ a (nI k)) (0 : Int32) (-1 : Int32)) k)) (σ.1 81 0) k)).1 80 0 m_ = 0 by exact ⟨⟨hL.1, fun u hu => (by rw [show (σ.1 50 0 2).toNatClampNeg = n from by rw [hn]; exact mo_cl (by omega)]; exact hL.2 u hu)⟩, (by show (σ.1 50 0 2).toNatClampNeg ≤ 60; rw [hn, mo_cl (by omega)]; omega), fun m hm => (by have hm : m < n := (by have q : m < (σ.1 50 0 2).toNatClampNeg := hm; rw [hn, mo_cl (by omega)] at q; exact q); show mo_fo (fun k r => upd r k ((fun k => mo_ite (mo_isB σ a (nI k)) (0 : Int32) (-1 : Int32)) k)) (σ.1 80 0) k m = -1 ∨ mo_fo (fun k r => upd r k ((fun k => mo_ite (mo_isB σ a (nI k)) (0 : Int32) (-1 : Int32)) k)) (σ.1 80 0) k m = 0; rw [mo_fo_upd (f := (fun k => mo_ite (mo_isB σ a (nI k)) (0 : Int32) (-1 : Int32))) (by omega)]; by_cases z : mo_isB σ a (nI m); (· exact Or.inr (mo_ite_t z)); exact Or.inl (mo_ite_f z))⟩) ?_)))
      intro r1 hr1
      refine Or.inr ?_
      refine Exists.intro c (Exists.intro (1 : Int32) (And.intro rfl (And.intro (show (mo_le (σ.1 50 0 6) 200 ∧ ∀ u_, u_ < (σ.1 50 0 6).toNatClampNeg → vp_in (σ.1 54 0 u_) (σ.1 50 0 2).toNatClampNeg ∧ vp_in (σ.1 55 0 u_) (σ.1 50 0 2).toNatClampNeg) ∧ (σ.1 50 0 2).toNatClampNeg ≤ 60 ∧ ∀ m_, m_ < (σ.1 50 0 2).toNatClampNeg → (mo_rowI (mo_rowI (mo_rowI σ 80 0 (mo_fo (fun k r => upd r k ((fun k => mo_ite (mo_isB σ a (nI k)) (0 : Int32) (-1 : Int32)) k)) (σ.1 80 0) k)) 81 0 (mo_fo (fun k r => upd r k ((fun k => mo_ite (mo_isB σ a (nI k)) (0 : Int32) (-1 : Int32)) k)) (σ.1 81 0) k)) 80 0 r1).1 81 0 m_ = -1 ∨ (mo_rowI (mo_rowI (mo_rowI σ 80 0 (mo_fo (fun k r => upd r k ((fun k => mo_ite (mo_isB σ a (nI k)) (0 : Int32) (-1 : Int32)) k)) (σ.1 80 0) k)) 81 0 (mo_fo (fun k r => upd r k ((fun k => mo_ite (mo_isB σ a (nI k)) (0 : Int32) (-1 : Int32)) k)) (σ.1 81 0) k)) 80 0 r1).1 81 0 m_ = 0 by exact ⟨⟨hL.1, fun u hu => (by rw [show (σ.1 50 0 2).toNatClampNeg = n from by rw [hn]; exact mo_cl (by omega)]; exact hL.2 u hu)⟩, (by show (σ.1 50 0 2).toNatClampNeg ≤ 60; rw [hn, mo_cl (by omega)]; omega), fun m hm => (by have hm : m < n := (by have q : m < (σ.1 50 0 2).toNatClampNeg := hm; rw [hn, mo_cl (by omega)] at q; exact q); show mo_fo (fun k r => upd r k ((fun k => mo_ite (mo_isB σ a (nI k)) (0 : Int32) (-1 : Int32)) k)) (σ.1 81 0) k m = -1 ∨ mo_fo (fun k r => upd r k ((fun k => mo_ite (mo_isB σ a (nI k)) (0 : Int32) (-1 : Int32)) k)) (σ.1 81 0) k m = 0; rw [mo_fo_upd (f := (fun k => mo_ite (mo_isB σ a (nI k)) (0 : Int32) (-1 : Int32))) (by omega)]; by_cases z : mo_isB σ a (nI m); (· exact Or.inr (mo_ite_t z)); exact Or.inl (mo_ite_f z))⟩) ?_)))
      intro r2 hr2
      (have e : k = n := (by omega); subst e; have hNk : (σ.1 50 0 2).toNatClampNeg = k := (by rw [hn]; exact mo_cl (by omega)); have hln : σ.1 50 0 6 = nI (σ.1 50 0 6).toNatClampNeg := hL.1.1; have hL3 : ∀ j, j < (σ.1 50 0 6).toNatClampNeg → vp_in (σ.1 54 0 j) k ∧ vp_in (σ.1 55 0 j) k := hL.2; have hle2 := hL.1.2; exact mo_q (hQ r1 r2 (mo_sh_c (fun x y hxy => (mo_lnk_in (z := 0) hln hL3 hxy).2) (fun m hm => (by show mo_fo (fun k r => upd r k ((fun k => mo_ite (mo_isB σ a (nI k)) (0 : Int32) (-1 : Int32)) k)) (σ.1 80 0) k m = 0 ↔ mo_isB σ a (nI m); rw [mo_fo_upd (f := (fun k => mo_ite (mo_isB σ a (nI k)) (0 : Int32) (-1 : Int32))) (by omega)]; by_cases z : mo_isB σ a (nI m); (· rw [mo_ite_t z]; exact ⟨fun _ => z, fun _ => rfl⟩); rw [mo_ite_f z]; exact ⟨fun q => absurd q (by decide), fun q => absurd q z⟩)) (show mo_sh (mo_lnk σ c 0) (fun m => mo_fo (fun k r => upd r k ((fun k => mo_ite (mo_isB σ a (nI k)) (0 : Int32) (-1 : Int32)) k)) (σ.1 80 0) k m = 0) r1 k from (hNk ▸ hr1))) (mo_sh_c (fun x y hxy => (mo_lnk_in (z := 1) hln hL3 hxy).2) (fun m hm => (by show mo_fo (fun k r => upd r k ((fun k => mo_ite (mo_isB σ a (nI k)) (0 : Int32) (-1 : Int32)) k)) (σ.1 81 0) k m = 0 ↔ mo_isB σ a (nI m); rw [mo_fo_upd (f := (fun k => mo_ite (mo_isB σ a (nI k)) (0 : Int32) (-1 : Int32))) (by omega)]; by_cases z : mo_isB σ a (nI m); (· rw [mo_ite_t z]; exact ⟨fun _ => z, fun _ => rfl⟩); rw [mo_ite_f z]; exact ⟨fun q => absurd q (by decide), fun q => absurd q z⟩)) (show mo_sh (mo_lnk σ c 1) (fun m => mo_fo (fun k r => upd r k ((fun k => mo_ite (mo_isB σ a (nI k)) (0 : Int32) (-1 : Int32)) k)) (σ.1 81 0) k m = 0) r2 k from (hNk ▸ hr2)))) rfl (by rw [mo_rowI_c _ _ _ (show (80 : Nat) ≠ 81 by decide), mo_rowI_r, mo_rowI_c _ _ _ (show (81 : Nat) ≠ 80 by decide), mo_rowI_r]))
    · have hk : k < n := mo_clt hn (by omega) (by omega) c1
      refine Exists.intro a (Exists.intro (nI k) (And.intro rfl (And.intro (show vp_in a 20 ∧ vp_in (nI k) 60 ∧ vp_in (σ.1 52 0 (nI k).toNatClampNeg) 30 ∧ vp_in (σ.1 73 0 a.toNatClampNeg) 30 ∧ mo_le (σ.1 74 0 a.toNatClampNeg) 30 by exact ⟨ha, mo_inN (by omega) (by decide), (by rw [hkc]; exact hp k hk), hwp, hwt⟩) ?_)))
      refine And.intro (fun (c2 : (mo_bl (mo_isB (mo_rowI (mo_rowI σ 80 0 (mo_fo (fun k r => upd r k ((fun k => mo_ite (mo_isB σ a (nI k)) (0 : Int32) (-1 : Int32)) k)) (σ.1 80 0) k)) 81 0 (mo_fo (fun k r => upd r k ((fun k => mo_ite (mo_isB σ a (nI k)) (0 : Int32) (-1 : Int32)) k)) (σ.1 81 0) k)) a (nI k))) = 0) => ?_) (fun (c2 : ¬ (mo_bl (mo_isB (mo_rowI (mo_rowI σ 80 0 (mo_fo (fun k r => upd r k ((fun k => mo_ite (mo_isB σ a (nI k)) (0 : Int32) (-1 : Int32)) k)) (σ.1 80 0) k)) 81 0 (mo_fo (fun k r => upd r k ((fun k => mo_ite (mo_isB σ a (nI k)) (0 : Int32) (-1 : Int32)) k)) (σ.1 81 0) k)) a (nI k))) = 0) => ?_)
      · refine And.intro (show vp_in (nI k) 60 by exact mo_inN (by omega) (by decide)) ?_
        refine And.intro (show vp_in (nI k) 60 by exact mo_inN (by omega) (by decide)) ?_
        refine And.intro (show vp_in (nI k) 60 by exact mo_inN (by omega) (by decide)) ?_
        (have hih := ih (k + 1) (by omega) (by omega) trivial; have e : mo_ite (mo_isB σ a (nI k)) (0 : Int32) (-1 : Int32) = (-1 : Int32) := mo_ite_f (mo_bl0.mp c2); rw [nI_succ] at hih; refine hK _ _ _ _ (show mo_X g t_X12_hits Q 7 [some (.inr (.inr (50, 0))), some (.inl a), some (.inl c), some (.inl ((nI k) + (1 : Int32)))] [] (mo_wI (mo_wI (mo_rowI (mo_rowI σ 80 0 (mo_fo (fun k r => upd r k ((fun k => mo_ite (mo_isB σ a (nI k)) (0 : Int32) (-1 : Int32)) k)) (σ.1 80 0) k)) 81 0 (mo_fo (fun k r => upd r k ((fun k => mo_ite (mo_isB σ a (nI k)) (0 : Int32) (-1 : Int32)) k)) (σ.1 81 0) k)) 80 0 ((nI k).toNatClampNeg) (-1 : Int32)) 81 0 ((nI k).toNatClampNeg) ((mo_wI (mo_rowI (mo_rowI σ 80 0 (mo_fo (fun k r => upd r k ((fun k => mo_ite (mo_isB σ a (nI k)) (0 : Int32) (-1 : Int32)) k)) (σ.1 80 0) k)) 81 0 (mo_fo (fun k r => upd r k ((fun k => mo_ite (mo_isB σ a (nI k)) (0 : Int32) (-1 : Int32)) k)) (σ.1 81 0) k)) 80 0 ((nI k).toNatClampNeg) (-1 : Int32)).1 80 0 ((nI k).toNatClampNeg))) from ?_); rw [hkc, mo_sw2, mo_r80g, mo_rowI_w]; rw [show mo_fo (fun k r => upd r k ((fun k => mo_ite (mo_isB σ a (nI k)) (0 : Int32) (-1 : Int32)) k)) (σ.1 80 0) (k + 1) = upd (mo_fo (fun k r => upd r k ((fun k => mo_ite (mo_isB σ a (nI k)) (0 : Int32) (-1 : Int32)) k)) (σ.1 80 0) k) k (-1 : Int32) from congrArg (upd (mo_fo (fun k r => upd r k ((fun k => mo_ite (mo_isB σ a (nI k)) (0 : Int32) (-1 : Int32)) k)) (σ.1 80 0) k) k) e, show mo_fo (fun k r => upd r k ((fun k => mo_ite (mo_isB σ a (nI k)) (0 : Int32) (-1 : Int32)) k)) (σ.1 81 0) (k + 1) = upd (mo_fo (fun k r => upd r k ((fun k => mo_ite (mo_isB σ a (nI k)) (0 : Int32) (-1 : Int32)) k)) (σ.1 81 0) k) k (-1 : Int32) from congrArg (upd (mo_fo (fun k r => upd r k ((fun k => mo_ite (mo_isB σ a (nI k)) (0 : Int32) (-1 : Int32)) k)) (σ.1 81 0) k) k) e] at hih; exact hih)
      · refine And.intro (show vp_in (nI k) 60 by exact mo_inN (by omega) (by decide)) ?_
        refine And.intro (show vp_in (nI k) 60 by exact mo_inN (by omega) (by decide)) ?_
        refine And.intro (show vp_in (nI k) 60 by exact mo_inN (by omega) (by decide)) ?_
        (have hih := ih (k + 1) (by omega) (by omega) trivial; have e : mo_ite (mo_isB σ a (nI k)) (0 : Int32) (-1 : Int32) = (0 : Int32) := mo_ite_t (mo_blT c2); rw [nI_succ] at hih; refine hK _ _ _ _ (show mo_X g t_X12_hits Q 7 [some (.inr (.inr (50, 0))), some (.inl a), some (.inl c), some (.inl ((nI k) + (1 : Int32)))] [] (mo_wI (mo_wI (mo_rowI (mo_rowI σ 80 0 (mo_fo (fun k r => upd r k ((fun k => mo_ite (mo_isB σ a (nI k)) (0 : Int32) (-1 : Int32)) k)) (σ.1 80 0) k)) 81 0 (mo_fo (fun k r => upd r k ((fun k => mo_ite (mo_isB σ a (nI k)) (0 : Int32) (-1 : Int32)) k)) (σ.1 81 0) k)) 80 0 ((nI k).toNatClampNeg) (0 : Int32)) 81 0 ((nI k).toNatClampNeg) ((mo_wI (mo_rowI (mo_rowI σ 80 0 (mo_fo (fun k r => upd r k ((fun k => mo_ite (mo_isB σ a (nI k)) (0 : Int32) (-1 : Int32)) k)) (σ.1 80 0) k)) 81 0 (mo_fo (fun k r => upd r k ((fun k => mo_ite (mo_isB σ a (nI k)) (0 : Int32) (-1 : Int32)) k)) (σ.1 81 0) k)) 80 0 ((nI k).toNatClampNeg) (0 : Int32)).1 80 0 ((nI k).toNatClampNeg))) from ?_); rw [hkc, mo_sw2, mo_r80g, mo_rowI_w]; rw [show mo_fo (fun k r => upd r k ((fun k => mo_ite (mo_isB σ a (nI k)) (0 : Int32) (-1 : Int32)) k)) (σ.1 80 0) (k + 1) = upd (mo_fo (fun k r => upd r k ((fun k => mo_ite (mo_isB σ a (nI k)) (0 : Int32) (-1 : Int32)) k)) (σ.1 80 0) k) k (0 : Int32) from congrArg (upd (mo_fo (fun k r => upd r k ((fun k => mo_ite (mo_isB σ a (nI k)) (0 : Int32) (-1 : Int32)) k)) (σ.1 80 0) k) k) e, show mo_fo (fun k r => upd r k ((fun k => mo_ite (mo_isB σ a (nI k)) (0 : Int32) (-1 : Int32)) k)) (σ.1 81 0) (k + 1) = upd (mo_fo (fun k r => upd r k ((fun k => mo_ite (mo_isB σ a (nI k)) (0 : Int32) (-1 : Int32)) k)) (σ.1 81 0) k) k (0 : Int32) from congrArg (upd (mo_fo (fun k r => upd r k ((fun k => mo_ite (mo_isB σ a (nI k)) (0 : Int32) (-1 : Int32)) k)) (σ.1 81 0) k) k) e] at hih; exact hih)
def S_X12_hits : mo_S := fun as σ Q => ∃ a : Int32, ∃ c : Int32, as = [.inr (.inr (50, 0)), .inl a, .inl c] ∧ (mo_hP σ a) ∧ ∀ r : Nat → Int32, ∀ q : Nat → Int32, (mo_hC σ a c r q) → Q (none) (mo_hM σ c r q)
theorem m_X12_hits : ∀ (as : List mo_V) (σ : mo_M) (P P' : mo_Q), (∀ x τ, P x τ → P' x τ) → S_X12_hits as σ P → S_X12_hits as σ P' := by
  rintro as σ P P' h ⟨a, c, e, hp, hq⟩
  exact ⟨a, c, e, hp, fun r q hz => h _ _ (hq r q hz)⟩
set_option maxRecDepth 20000 in
set_option maxHeartbeats 2000000 in
theorem ct_X12_hits : mo_ct yX12_hits t_X12_hits S_X12_hits := by
  refine mo_ct_of (by decide) rfl ?_
  rintro g as σ Q ⟨a, c, rfl, hpre, hQ⟩
  refine ⟨Nat.le_of_ble_eq_true rfl, mo_go ok_X12_hits (cs_X12_hits_ok g) [7] 45 ?_⟩
  intro K hK
  refine Exists.intro c (And.intro rfl (And.intro (show mo_gP σ by exact hpre.1) ?_))
  (obtain ⟨hg, hL, hm, ha, hp, hwp, hwt⟩ := hpre; have h0 := lp_X12_hits g (mo_gM σ c) Q a c (σ.1 50 0 2).toNatClampNeg hm.1 hm.2 ha hp hwp hwt hL (fun r q h1 h2 => hQ r q ⟨h1, h2⟩) ((σ.1 50 0 2).toNatClampNeg + 1) 0 (by omega) (by omega) trivial; rw [show mo_rowI (mo_rowI (mo_gM σ c) 80 0 (mo_fo (fun k r => upd r k ((fun k => mo_ite (mo_isB (mo_gM σ c) a (nI k)) (0 : Int32) (-1 : Int32)) k)) ((mo_gM σ c).1 80 0) 0)) 81 0 (mo_fo (fun k r => upd r k ((fun k => mo_ite (mo_isB (mo_gM σ c) a (nI k)) (0 : Int32) (-1 : Int32)) k)) ((mo_gM σ c).1 81 0) 0) = mo_gM σ c from (congrArg (fun x => mo_rowI x 81 0 ((mo_gM σ c).1 81 0)) (mo_rowI_id _ 80 0)).trans (mo_rowI_id _ 81 0)] at h0; exact hK _ _ _ _ h0)
def S_X12_bad : mo_S := fun as σ Q => ∃ a : Int32, ∃ b : Int32, ∃ c : Int32, as = [.inr (.inr (50, 0)), .inl a, .inl b, .inl c] ∧ ((¬ (0 ≤ a ∧ a ≤ σ.1 50 0 36 - 1) → Q (some (.inl (-1 : Int32))) (σ)) ∧ (0 ≤ a ∧ a ≤ σ.1 50 0 36 - 1 → ((¬ (0 ≤ b ∧ b ≤ σ.1 50 0 2 - 1) → Q (some (.inl (-1 : Int32))) (σ)) ∧ (0 ≤ b ∧ b ≤ σ.1 50 0 2 - 1 → ((0 ≤ c ∧ c ≤ (10000 : Int32) → ((mo_gP σ) ∧ ((vp_in a 20 ∧ vp_in b 60 ∧ vp_in ((mo_gM σ c).1 52 0 b.toNatClampNeg) 30 ∧ vp_in ((mo_gM σ c).1 73 0 a.toNatClampNeg) 30 ∧ mo_le ((mo_gM σ c).1 74 0 a.toNatClampNeg) 30) ∧ ((¬ (mo_isB (mo_gM σ c) a b) → Q (some (.inl (0 : Int32))) (mo_gM σ c)) ∧ (mo_isB (mo_gM σ c) a b → Q (some (.inl (1 : Int32))) (mo_gM σ c)))))) ∧ (¬ (0 ≤ c ∧ c ≤ (10000 : Int32)) → Q (some (.inl (-1 : Int32))) (σ)))))))
theorem m_X12_bad : ∀ (as : List mo_V) (σ : mo_M) (P P' : mo_Q), (∀ x τ, P x τ → P' x τ) → S_X12_bad as σ P → S_X12_bad as σ P' := by
  rintro as σ P P' hm ⟨a, b, c, e, hq⟩
  exact ⟨a, b, c, e, ⟨fun c1 => hm _ _ (hq.1 c1), fun c1 => ⟨fun c2 => hm _ _ ((hq.2 c1).1 c2), fun c2 => ⟨fun c3 => ⟨(((hq.2 c1).2 c2).1 c3).1, ⟨(((hq.2 c1).2 c2).1 c3).2.1, ⟨fun c4 => hm _ _ ((((hq.2 c1).2 c2).1 c3).2.2.1 c4), fun c4 => hm _ _ ((((hq.2 c1).2 c2).1 c3).2.2.2 c4)⟩⟩⟩, fun c3 => hm _ _ (((hq.2 c1).2 c2).2 c3)⟩⟩⟩⟩
def cs_X12_bad : Nat → mo_C := fun j => match j with
  | 0 => (2, true, 249, 12, S_X12_isWarning)
  | 1 => (2, true, 144, 12, S_X12_isMake)
  | 2 => (1, false, 141, 50, S_X12_isDay)
  | 3 => (2, true, 172, 12, S_X12_gathers)
  | 4 => (3, true, 252, 12, S_X12_isBad)
  | _ => (0, false, 0, 50, fun _ _ _ => False)
theorem cs_X12_bad_ok (g : mo_E) : ∀ j, mo_cok g t_X12_bad (cs_X12_bad j) ∧ mo_mon (cs_X12_bad j) := by
  intro j
  unfold cs_X12_bad
  split
  · exact ⟨mo_cokV ct_X12_isWarning (by decide) ⟨_, _, rfl⟩ (by decide +kernel), m_X12_isWarning⟩
  · exact ⟨mo_cokV ct_X12_isMake (by decide) ⟨_, _, rfl⟩ (by decide +kernel), m_X12_isMake⟩
  · exact ⟨mo_cokS ct_X12_isDay (by decide +kernel), m_X12_isDay⟩
  · exact ⟨mo_cokV ct_X12_gathers (by decide) ⟨_, _, rfl⟩ (by decide +kernel), m_X12_gathers⟩
  · exact ⟨mo_cokV ct_X12_isBad (by decide) ⟨_, _, rfl⟩ (by decide +kernel), m_X12_isBad⟩
  · exact ⟨mo_cok0 g _, mo_mon0⟩
set_option maxRecDepth 20000 in
set_option maxHeartbeats 2000000 in
theorem ct_X12_bad : mo_ct yX12_bad t_X12_bad S_X12_bad := by
  refine mo_ct_of (by decide) rfl ?_
  rintro g as σ Q ⟨a, b, c, rfl, hQ⟩
  refine ⟨Nat.le_of_ble_eq_true rfl, mo_go ok_X12_bad (cs_X12_bad_ok g) [] 26 ?_⟩
  intro K hK
  refine Exists.intro a (And.intro rfl (And.intro trivial ?_))
  refine And.intro (fun (c1 : (mo_bl (0 ≤ a ∧ a ≤ σ.1 50 0 36 - 1)) = 0) => ?_) (fun (c1 : ¬ (mo_bl (0 ≤ a ∧ a ≤ σ.1 50 0 36 - 1)) = 0) => ?_)
  · replace c1 : ¬ (0 ≤ a ∧ a ≤ σ.1 50 0 36 - 1) := mo_bl0.mp c1
    exact (hQ.1 c1)
  · replace c1 : 0 ≤ a ∧ a ≤ σ.1 50 0 36 - 1 := mo_blT c1
    refine Exists.intro b (And.intro rfl (And.intro trivial ?_))
    refine And.intro (fun (c2 : (mo_bl (0 ≤ b ∧ b ≤ σ.1 50 0 2 - 1)) = 0) => ?_) (fun (c2 : ¬ (mo_bl (0 ≤ b ∧ b ≤ σ.1 50 0 2 - 1)) = 0) => ?_)
    · replace c2 : ¬ (0 ≤ b ∧ b ≤ σ.1 50 0 2 - 1) := mo_bl0.mp c2
      exact ((hQ.2 c1).1 c2)
    · replace c2 : 0 ≤ b ∧ b ≤ σ.1 50 0 2 - 1 := mo_blT c2
      refine Exists.intro c (And.intro rfl (And.intro trivial ?_))
      refine And.intro (fun (c3 : ¬ (mo_bl (0 ≤ c ∧ c ≤ (10000 : Int32))) = 0) => ?_) (fun (c3 : (mo_bl (0 ≤ c ∧ c ≤ (10000 : Int32))) = 0) => ?_)
      · replace c3 : 0 ≤ c ∧ c ≤ (10000 : Int32) := mo_blT c3
        refine Exists.intro c (And.intro rfl (And.intro (show mo_gP σ from (((hQ.2 c1).2 c2).1 c3).1) ?_))
        refine Exists.intro a (Exists.intro b (And.intro rfl (And.intro (show vp_in a 20 ∧ vp_in b 60 ∧ vp_in ((mo_gM σ c).1 52 0 b.toNatClampNeg) 30 ∧ vp_in ((mo_gM σ c).1 73 0 a.toNatClampNeg) 30 ∧ mo_le ((mo_gM σ c).1 74 0 a.toNatClampNeg) 30 from (((hQ.2 c1).2 c2).1 c3).2.1) ?_)))
        refine And.intro (fun (c4 : (mo_bl (mo_isB (mo_gM σ c) a b)) = 0) => ?_) (fun (c4 : ¬ (mo_bl (mo_isB (mo_gM σ c) a b)) = 0) => ?_)
        · replace c4 : ¬ (mo_isB (mo_gM σ c) a b) := mo_bl0.mp c4
          exact ((((hQ.2 c1).2 c2).1 c3).2.2.1 c4)
        · replace c4 : mo_isB (mo_gM σ c) a b := mo_blT c4
          exact ((((hQ.2 c1).2 c2).1 c3).2.2.2 c4)
      · replace c3 : ¬ (0 ≤ c ∧ c ≤ (10000 : Int32)) := mo_bl0.mp c3
        exact (((hQ.2 c1).2 c2).2 c3)
def S_X12_hit : mo_S := fun as σ Q => ∃ a : Int32, ∃ b : Int32, ∃ c : Int32, as = [.inr (.inr (50, 0)), .inl a, .inl b, .inl c] ∧ ((¬ (0 ≤ a ∧ a ≤ σ.1 50 0 36 - 1) → Q (some (.inl (-1 : Int32))) (σ)) ∧ (0 ≤ a ∧ a ≤ σ.1 50 0 36 - 1 → ((¬ (0 ≤ b ∧ b ≤ σ.1 50 0 2 - 1) → Q (some (.inl (-1 : Int32))) (σ)) ∧ (0 ≤ b ∧ b ≤ σ.1 50 0 2 - 1 → ((0 ≤ c ∧ c ≤ (10000 : Int32) → ((mo_hP σ a) ∧ (∀ r1 : Nat → Int32, ∀ q1 : Nat → Int32, (mo_hC σ a c r1 q1) → ((vp_in b 60) ∧ Q (some (.inl (mo_hof (mo_hM σ c r1 q1) b))) (mo_hM σ c r1 q1))))) ∧ (¬ (0 ≤ c ∧ c ≤ (10000 : Int32)) → Q (some (.inl (-1 : Int32))) (σ)))))))
theorem m_X12_hit : ∀ (as : List mo_V) (σ : mo_M) (P P' : mo_Q), (∀ x τ, P x τ → P' x τ) → S_X12_hit as σ P → S_X12_hit as σ P' := by
  rintro as σ P P' hm ⟨a, b, c, e, hq⟩
  exact ⟨a, b, c, e, ⟨fun c1 => hm _ _ (hq.1 c1), fun c1 => ⟨fun c2 => hm _ _ ((hq.2 c1).1 c2), fun c2 => ⟨fun c3 => ⟨(((hq.2 c1).2 c2).1 c3).1, fun r1 q1 hr1 => ⟨((((hq.2 c1).2 c2).1 c3).2 r1 q1 hr1).1, hm _ _ ((((hq.2 c1).2 c2).1 c3).2 r1 q1 hr1).2⟩⟩, fun c3 => hm _ _ (((hq.2 c1).2 c2).2 c3)⟩⟩⟩⟩
def cs_X12_hit : Nat → mo_C := fun j => match j with
  | 0 => (2, true, 249, 12, S_X12_isWarning)
  | 1 => (2, true, 144, 12, S_X12_isMake)
  | 2 => (1, false, 141, 50, S_X12_isDay)
  | 3 => (3, true, 259, 12, S_X12_hits)
  | 4 => (2, true, 262, 12, S_X12_hitOf)
  | _ => (0, false, 0, 50, fun _ _ _ => False)
theorem cs_X12_hit_ok (g : mo_E) : ∀ j, mo_cok g t_X12_hit (cs_X12_hit j) ∧ mo_mon (cs_X12_hit j) := by
  intro j
  unfold cs_X12_hit
  split
  · exact ⟨mo_cokV ct_X12_isWarning (by decide) ⟨_, _, rfl⟩ (by decide +kernel), m_X12_isWarning⟩
  · exact ⟨mo_cokV ct_X12_isMake (by decide) ⟨_, _, rfl⟩ (by decide +kernel), m_X12_isMake⟩
  · exact ⟨mo_cokS ct_X12_isDay (by decide +kernel), m_X12_isDay⟩
  · exact ⟨mo_cokV ct_X12_hits (by decide) ⟨_, _, rfl⟩ (by decide +kernel), m_X12_hits⟩
  · exact ⟨mo_cokV ct_X12_hitOf (by decide) ⟨_, _, rfl⟩ (by decide +kernel), m_X12_hitOf⟩
  · exact ⟨mo_cok0 g _, mo_mon0⟩
set_option maxRecDepth 20000 in
set_option maxHeartbeats 2000000 in
theorem ct_X12_hit : mo_ct yX12_hit t_X12_hit S_X12_hit := by
  refine mo_ct_of (by decide) rfl ?_
  rintro g as σ Q ⟨a, b, c, rfl, hQ⟩
  refine ⟨Nat.le_of_ble_eq_true rfl, mo_go ok_X12_hit (cs_X12_hit_ok g) [] 22 ?_⟩
  intro K hK
  refine Exists.intro a (And.intro rfl (And.intro trivial ?_))
  refine And.intro (fun (c1 : (mo_bl (0 ≤ a ∧ a ≤ σ.1 50 0 36 - 1)) = 0) => ?_) (fun (c1 : ¬ (mo_bl (0 ≤ a ∧ a ≤ σ.1 50 0 36 - 1)) = 0) => ?_)
  · replace c1 : ¬ (0 ≤ a ∧ a ≤ σ.1 50 0 36 - 1) := mo_bl0.mp c1
    exact (hQ.1 c1)
  · replace c1 : 0 ≤ a ∧ a ≤ σ.1 50 0 36 - 1 := mo_blT c1
    refine Exists.intro b (And.intro rfl (And.intro trivial ?_))
    refine And.intro (fun (c2 : (mo_bl (0 ≤ b ∧ b ≤ σ.1 50 0 2 - 1)) = 0) => ?_) (fun (c2 : ¬ (mo_bl (0 ≤ b ∧ b ≤ σ.1 50 0 2 - 1)) = 0) => ?_)
    · replace c2 : ¬ (0 ≤ b ∧ b ≤ σ.1 50 0 2 - 1) := mo_bl0.mp c2
      exact ((hQ.2 c1).1 c2)
    · replace c2 : 0 ≤ b ∧ b ≤ σ.1 50 0 2 - 1 := mo_blT c2
      refine Exists.intro c (And.intro rfl (And.intro trivial ?_))
      refine And.intro (fun (c3 : ¬ (mo_bl (0 ≤ c ∧ c ≤ (10000 : Int32))) = 0) => ?_) (fun (c3 : (mo_bl (0 ≤ c ∧ c ≤ (10000 : Int32))) = 0) => ?_)
      · replace c3 : 0 ≤ c ∧ c ≤ (10000 : Int32) := mo_blT c3
        refine Exists.intro a (Exists.intro c (And.intro rfl (And.intro (show mo_hP σ a from (((hQ.2 c1).2 c2).1 c3).1) ?_)))
        intro r1 q1 hr1
        refine Exists.intro b (And.intro rfl (And.intro (show vp_in b 60 from ((((hQ.2 c1).2 c2).1 c3).2 r1 q1 hr1).1) ?_))
        exact ((((hQ.2 c1).2 c2).1 c3).2 r1 q1 hr1).2
      · replace c3 : ¬ (0 ≤ c ∧ c ≤ (10000 : Int32)) := mo_bl0.mp c3
        exact (((hQ.2 c1).2 c2).2 c3)
noncomputable def mo_hasf (σ : mo_M) (a b c : Int32) : Int32 := mo_fo (fun k s => mo_ite (σ.1 59 0 k = a ∧ σ.1 63 0 k ≤ c ∧ (σ.1 61 0 k ≤ b ∧ b ≤ σ.1 62 0 k)) (mo_ite (s < mo_hof σ (σ.1 60 0 k)) (mo_hof σ (σ.1 60 0 k)) s) s) 0 (σ.1 50 0 12).toNatClampNeg
def S_X12_has : mo_S := fun as σ Q => ∃ a : Int32, ∃ b : Int32, ∃ c : Int32, ∃ f : Int32, as = [.inr (.inr (50, 0)), .inl a, .inl b, .inl c, .inl f] ∧ ((¬ (0 ≤ a ∧ a ≤ σ.1 50 0 36 - 1) → Q (some (.inl (-1 : Int32))) (σ)) ∧ (0 ≤ a ∧ a ≤ σ.1 50 0 36 - 1 → ((¬ (0 ≤ b ∧ b ≤ (29 : Int32)) → Q (some (.inl (-1 : Int32))) (σ)) ∧ (0 ≤ b ∧ b ≤ (29 : Int32) → ((¬ (0 ≤ c ∧ c ≤ (10000 : Int32)) → Q (some (.inl (-1 : Int32))) (σ)) ∧ (0 ≤ c ∧ c ≤ (10000 : Int32) → ((0 ≤ f ∧ f ≤ (10000 : Int32) → ((mo_hP σ a) ∧ (∀ r1 : Nat → Int32, ∀ q1 : Nat → Int32, (mo_hC σ a f r1 q1) → ((mo_le ((mo_hM σ f r1 q1).1 50 0 12) 100 ∧ ∀ k_, k_ < ((mo_hM σ f r1 q1).1 50 0 12).toNatClampNeg → vp_in ((mo_hM σ f r1 q1).1 60 0 k_) 60) ∧ Q (some (.inl (mo_hasf (mo_hM σ f r1 q1) b c f))) (mo_hM σ f r1 q1))))) ∧ (¬ (0 ≤ f ∧ f ≤ (10000 : Int32)) → Q (some (.inl (-1 : Int32))) (σ)))))))))
theorem m_X12_has : ∀ (as : List mo_V) (σ : mo_M) (P P' : mo_Q), (∀ x τ, P x τ → P' x τ) → S_X12_has as σ P → S_X12_has as σ P' := by
  rintro as σ P P' hm ⟨a, b, c, f, e, hq⟩
  exact ⟨a, b, c, f, e, ⟨fun c1 => hm _ _ (hq.1 c1), fun c1 => ⟨fun c2 => hm _ _ ((hq.2 c1).1 c2), fun c2 => ⟨fun c3 => hm _ _ (((hq.2 c1).2 c2).1 c3), fun c3 => ⟨fun c4 => ⟨((((hq.2 c1).2 c2).2 c3).1 c4).1, fun r1 q1 hr1 => ⟨(((((hq.2 c1).2 c2).2 c3).1 c4).2 r1 q1 hr1).1, hm _ _ (((((hq.2 c1).2 c2).2 c3).1 c4).2 r1 q1 hr1).2⟩⟩, fun c4 => hm _ _ ((((hq.2 c1).2 c2).2 c3).2 c4)⟩⟩⟩⟩⟩
def cs_X12_has : Nat → mo_C := fun j => match j with
  | 0 => (2, true, 249, 12, S_X12_isWarning)
  | 1 => (1, false, 269, 50, S_X12_isSite)
  | 2 => (1, false, 141, 50, S_X12_isDay)
  | 3 => (3, true, 259, 12, S_X12_hits)
  | 4 => (4, true, 272, 12, S_X12_hasOf)
  | _ => (0, false, 0, 50, fun _ _ _ => False)
theorem cs_X12_has_ok (g : mo_E) : ∀ j, mo_cok g t_X12_has (cs_X12_has j) ∧ mo_mon (cs_X12_has j) := by
  intro j
  unfold cs_X12_has
  split
  · exact ⟨mo_cokV ct_X12_isWarning (by decide) ⟨_, _, rfl⟩ (by decide +kernel), m_X12_isWarning⟩
  · exact ⟨mo_cokS ct_X12_isSite (by decide +kernel), m_X12_isSite⟩
  · exact ⟨mo_cokS ct_X12_isDay (by decide +kernel), m_X12_isDay⟩
  · exact ⟨mo_cokV ct_X12_hits (by decide) ⟨_, _, rfl⟩ (by decide +kernel), m_X12_hits⟩
  · exact ⟨mo_cokV ct_X12_hasOf (by decide) ⟨_, _, rfl⟩ (by decide +kernel), m_X12_hasOf⟩
  · exact ⟨mo_cok0 g _, mo_mon0⟩
set_option maxRecDepth 20000 in
set_option maxHeartbeats 2000000 in
theorem ct_X12_has : mo_ct yX12_has t_X12_has S_X12_has := by
  refine mo_ct_of (by decide) rfl ?_
  rintro g as σ Q ⟨a, b, c, f, rfl, hQ⟩
  refine ⟨Nat.le_of_ble_eq_true rfl, mo_go ok_X12_has (cs_X12_has_ok g) [] 26 ?_⟩
  intro K hK
  refine Exists.intro a (And.intro rfl (And.intro trivial ?_))
  refine And.intro (fun (c1 : (mo_bl (0 ≤ a ∧ a ≤ σ.1 50 0 36 - 1)) = 0) => ?_) (fun (c1 : ¬ (mo_bl (0 ≤ a ∧ a ≤ σ.1 50 0 36 - 1)) = 0) => ?_)
  · replace c1 : ¬ (0 ≤ a ∧ a ≤ σ.1 50 0 36 - 1) := mo_bl0.mp c1
    exact (hQ.1 c1)
  · replace c1 : 0 ≤ a ∧ a ≤ σ.1 50 0 36 - 1 := mo_blT c1
    refine Exists.intro b (And.intro rfl (And.intro trivial ?_))
    refine And.intro (fun (c2 : (mo_bl (0 ≤ b ∧ b ≤ (29 : Int32))) = 0) => ?_) (fun (c2 : ¬ (mo_bl (0 ≤ b ∧ b ≤ (29 : Int32))) = 0) => ?_)
    · replace c2 : ¬ (0 ≤ b ∧ b ≤ (29 : Int32)) := mo_bl0.mp c2
      exact ((hQ.2 c1).1 c2)
    · replace c2 : 0 ≤ b ∧ b ≤ (29 : Int32) := mo_blT c2
      refine Exists.intro c (And.intro rfl (And.intro trivial ?_))
      refine And.intro (fun (c3 : (mo_bl (0 ≤ c ∧ c ≤ (10000 : Int32))) = 0) => ?_) (fun (c3 : ¬ (mo_bl (0 ≤ c ∧ c ≤ (10000 : Int32))) = 0) => ?_)
      · replace c3 : ¬ (0 ≤ c ∧ c ≤ (10000 : Int32)) := mo_bl0.mp c3
        exact (((hQ.2 c1).2 c2).1 c3)
      · replace c3 : 0 ≤ c ∧ c ≤ (10000 : Int32) := mo_blT c3
        refine Exists.intro f (And.intro rfl (And.intro trivial ?_))
        refine And.intro (fun (c4 : ¬ (mo_bl (0 ≤ f ∧ f ≤ (10000 : Int32))) = 0) => ?_) (fun (c4 : (mo_bl (0 ≤ f ∧ f ≤ (10000 : Int32))) = 0) => ?_)
        · replace c4 : 0 ≤ f ∧ f ≤ (10000 : Int32) := mo_blT c4
          refine Exists.intro a (Exists.intro f (And.intro rfl (And.intro (show mo_hP σ a from ((((hQ.2 c1).2 c2).2 c3).1 c4).1) ?_)))
          intro r1 q1 hr1
          refine Exists.intro b (Exists.intro c (Exists.intro f (And.intro rfl (And.intro (show mo_le ((mo_hM σ f r1 q1).1 50 0 12) 100 ∧ ∀ k_, k_ < ((mo_hM σ f r1 q1).1 50 0 12).toNatClampNeg → vp_in ((mo_hM σ f r1 q1).1 60 0 k_) 60 from (((((hQ.2 c1).2 c2).2 c3).1 c4).2 r1 q1 hr1).1) ?_))))
          exact (((((hQ.2 c1).2 c2).2 c3).1 c4).2 r1 q1 hr1).2
        · replace c4 : ¬ (0 ≤ f ∧ f ≤ (10000 : Int32)) := mo_bl0.mp c4
          exact ((((hQ.2 c1).2 c2).2 c3).2 c4)
noncomputable def mo_sin (σ : mo_M) (b c : Int32) : Nat → Int32 := mo_fo (fun k s => mo_ite (σ.1 59 0 k = b ∧ σ.1 63 0 k ≤ c ∧ ¬ mo_hof σ (σ.1 60 0 k) = 0 ∧ (s = (-1 : Int32) ∨ σ.1 61 0 k < s)) (σ.1 61 0 k) s) (-1 : Int32)
def cs_X12_since : Nat → mo_C := fun j => match j with
  | 0 => (2, true, 249, 12, S_X12_isWarning)
  | 1 => (1, false, 269, 50, S_X12_isSite)
  | 2 => (1, false, 141, 50, S_X12_isDay)
  | 3 => (3, true, 259, 12, S_X12_hits)
  | 4 => (2, true, 262, 12, S_X12_hitOf)
  | _ => (0, false, 0, 50, fun _ _ _ => False)
theorem cs_X12_since_ok (g : mo_E) : ∀ j, mo_cok g t_X12_since (cs_X12_since j) ∧ mo_mon (cs_X12_since j) := by
  intro j
  unfold cs_X12_since
  split
  · exact ⟨mo_cokV ct_X12_isWarning (by decide) ⟨_, _, rfl⟩ (by decide +kernel), m_X12_isWarning⟩
  · exact ⟨mo_cokS ct_X12_isSite (by decide +kernel), m_X12_isSite⟩
  · exact ⟨mo_cokS ct_X12_isDay (by decide +kernel), m_X12_isDay⟩
  · exact ⟨mo_cokV ct_X12_hits (by decide) ⟨_, _, rfl⟩ (by decide +kernel), m_X12_hits⟩
  · exact ⟨mo_cokV ct_X12_hitOf (by decide) ⟨_, _, rfl⟩ (by decide +kernel), m_X12_hitOf⟩
  · exact ⟨mo_cok0 g _, mo_mon0⟩
set_option maxRecDepth 20000 in
set_option maxHeartbeats 2000000 in
theorem lp_X12_since (g : mo_E) (σ : mo_M) (Q : mo_Q) (a b c : Int32) (n : Nat) (hn : σ.1 50 0 12 = nI n) (hle : n ≤ 100) (hin : ∀ k, k < n → vp_in (σ.1 60 0 k) 60) (hQ : Q (some (.inl (mo_sin σ b c n))) σ) : ∀ (d k : Nat), n < k + d → k ≤ n → (True) → mo_X g t_X12_since Q 36 [some (.inr (.inr (50, 0))), some (.inl a), some (.inl b), some (.inl c), some (.inl (mo_sin σ b c k)), some (.inl (nI k))] [] (σ) := by
  intro d
  induction d with
  | zero => intro k h1 h2; omega
  | succ d ih =>
    intro k h1 h2 hinv
    have hkc : (nI k).toNatClampNeg = k := mo_cl (by omega)
    refine mo_go ok_X12_since (cs_X12_since_ok g) [36] 63 ?_
    intro K hK
    refine And.intro (fun (c1 : (σ.1 50 0 12) ≤ (nI k)) => ?_) (fun (c1 : ¬ (σ.1 50 0 12) ≤ (nI k)) => ?_)
    · have hk : n ≤ k := mo_cge hn (by omega) (by omega) c1
      (have e : k = n := (by omega); subst e; exact hQ)
    · have hk : k < n := mo_clt hn (by omega) (by omega) c1
      refine And.intro (show vp_in (nI k) 100 by exact mo_inN (by omega) (by decide)) ?_
      refine And.intro (fun (c2 : ¬ (σ.1 59 0 ((nI k).toNatClampNeg)) = b) => ?_) (fun (c2 : (σ.1 59 0 ((nI k).toNatClampNeg)) = b) => ?_)
      · (have hih := ih (k + 1) (by omega) (by omega) trivial; have e : mo_sin σ b c (k + 1) = mo_sin σ b c k := mo_ite_f (by show ¬ (σ.1 59 0 k = b ∧ σ.1 63 0 k ≤ c ∧ ¬ mo_hof σ (σ.1 60 0 k) = 0 ∧ (mo_sin σ b c k = (-1 : Int32) ∨ σ.1 61 0 k < mo_sin σ b c k)); ((try simp only [hkc, mo_bl0, Classical.not_not, ← Int32.not_lt] at c2 ⊢); (try clear ih); (try clear hih); clear hK hQ; grind)); rw [nI_succ, e] at hih; refine hK _ _ _ _ (show mo_X g t_X12_since Q 36 [some (.inr (.inr (50, 0))), some (.inl a), some (.inl b), some (.inl c), some (.inl (mo_sin σ b c k)), some (.inl ((nI k) + (1 : Int32)))] [] (σ) from ?_); (try simp only [hkc]); exact hih)
      · refine And.intro (show vp_in (nI k) 100 by exact mo_inN (by omega) (by decide)) ?_
        refine And.intro (fun (c3 : c < (σ.1 63 0 ((nI k).toNatClampNeg))) => ?_) (fun (c3 : ¬ c < (σ.1 63 0 ((nI k).toNatClampNeg))) => ?_)
        · (have hih := ih (k + 1) (by omega) (by omega) trivial; have e : mo_sin σ b c (k + 1) = mo_sin σ b c k := mo_ite_f (by show ¬ (σ.1 59 0 k = b ∧ σ.1 63 0 k ≤ c ∧ ¬ mo_hof σ (σ.1 60 0 k) = 0 ∧ (mo_sin σ b c k = (-1 : Int32) ∨ σ.1 61 0 k < mo_sin σ b c k)); ((try simp only [hkc, mo_bl0, Classical.not_not, ← Int32.not_lt] at c2 c3 ⊢); (try clear ih); (try clear hih); clear hK hQ; grind)); rw [nI_succ, e] at hih; refine hK _ _ _ _ (show mo_X g t_X12_since Q 36 [some (.inr (.inr (50, 0))), some (.inl a), some (.inl b), some (.inl c), some (.inl (mo_sin σ b c k)), some (.inl ((nI k) + (1 : Int32)))] [] (σ) from ?_); (try simp only [hkc]); exact hih)
        · refine And.intro (show vp_in (nI k) 100 by exact mo_inN (by omega) (by decide)) ?_
          refine Exists.intro (σ.1 60 0 ((nI k).toNatClampNeg)) (And.intro rfl (And.intro (show vp_in (σ.1 60 0 ((nI k).toNatClampNeg)) 60 by rw [hkc]; exact hin k hk) ?_))
          refine And.intro (fun (c4 : ¬ (mo_hof σ (σ.1 60 0 ((nI k).toNatClampNeg))) = 0) => ?_) (fun (c4 : (mo_hof σ (σ.1 60 0 ((nI k).toNatClampNeg))) = 0) => ?_)
          · refine And.intro (fun (c5 : (mo_sin σ b c k) = (-1 : Int32)) => ?_) (fun (c5 : ¬ (mo_sin σ b c k) = (-1 : Int32)) => ?_)
            · refine And.intro (show vp_in (nI k) 100 by exact mo_inN (by omega) (by decide)) ?_
              (have hih := ih (k + 1) (by omega) (by omega) trivial; have e : mo_sin σ b c (k + 1) = σ.1 61 0 (k) := mo_ite_t (by show σ.1 59 0 k = b ∧ σ.1 63 0 k ≤ c ∧ ¬ mo_hof σ (σ.1 60 0 k) = 0 ∧ (mo_sin σ b c k = (-1 : Int32) ∨ σ.1 61 0 k < mo_sin σ b c k); ((try simp only [hkc, mo_bl0, Classical.not_not, ← Int32.not_lt] at c2 c3 c4 c5 ⊢); (try clear ih); (try clear hih); clear hK hQ; grind)); rw [nI_succ, e] at hih; refine hK _ _ _ _ (show mo_X g t_X12_since Q 36 [some (.inr (.inr (50, 0))), some (.inl a), some (.inl b), some (.inl c), some (.inl (σ.1 61 0 ((nI k).toNatClampNeg))), some (.inl ((nI k) + (1 : Int32)))] [] (σ) from ?_); (try simp only [hkc]); exact hih)
            · refine And.intro (show vp_in (nI k) 100 by exact mo_inN (by omega) (by decide)) ?_
              refine And.intro (fun (c6 : (mo_sin σ b c k) ≤ (σ.1 61 0 ((nI k).toNatClampNeg))) => ?_) (fun (c6 : ¬ (mo_sin σ b c k) ≤ (σ.1 61 0 ((nI k).toNatClampNeg))) => ?_)
              · (have hih := ih (k + 1) (by omega) (by omega) trivial; have e : mo_sin σ b c (k + 1) = mo_sin σ b c k := mo_ite_f (by show ¬ (σ.1 59 0 k = b ∧ σ.1 63 0 k ≤ c ∧ ¬ mo_hof σ (σ.1 60 0 k) = 0 ∧ (mo_sin σ b c k = (-1 : Int32) ∨ σ.1 61 0 k < mo_sin σ b c k)); ((try simp only [hkc, mo_bl0, Classical.not_not, ← Int32.not_lt] at c2 c3 c4 c5 c6 ⊢); (try clear ih); (try clear hih); clear hK hQ; grind)); rw [nI_succ, e] at hih; refine hK _ _ _ _ (show mo_X g t_X12_since Q 36 [some (.inr (.inr (50, 0))), some (.inl a), some (.inl b), some (.inl c), some (.inl (mo_sin σ b c k)), some (.inl ((nI k) + (1 : Int32)))] [] (σ) from ?_); (try simp only [hkc]); exact hih)
              · refine And.intro (show vp_in (nI k) 100 by exact mo_inN (by omega) (by decide)) ?_
                (have hih := ih (k + 1) (by omega) (by omega) trivial; have e : mo_sin σ b c (k + 1) = σ.1 61 0 (k) := mo_ite_t (by show σ.1 59 0 k = b ∧ σ.1 63 0 k ≤ c ∧ ¬ mo_hof σ (σ.1 60 0 k) = 0 ∧ (mo_sin σ b c k = (-1 : Int32) ∨ σ.1 61 0 k < mo_sin σ b c k); ((try simp only [hkc, mo_bl0, Classical.not_not, ← Int32.not_lt] at c2 c3 c4 c5 c6 ⊢); (try clear ih); (try clear hih); clear hK hQ; grind)); rw [nI_succ, e] at hih; refine hK _ _ _ _ (show mo_X g t_X12_since Q 36 [some (.inr (.inr (50, 0))), some (.inl a), some (.inl b), some (.inl c), some (.inl (σ.1 61 0 ((nI k).toNatClampNeg))), some (.inl ((nI k) + (1 : Int32)))] [] (σ) from ?_); (try simp only [hkc]); exact hih)
          · (have hih := ih (k + 1) (by omega) (by omega) trivial; have e : mo_sin σ b c (k + 1) = mo_sin σ b c k := mo_ite_f (by show ¬ (σ.1 59 0 k = b ∧ σ.1 63 0 k ≤ c ∧ ¬ mo_hof σ (σ.1 60 0 k) = 0 ∧ (mo_sin σ b c k = (-1 : Int32) ∨ σ.1 61 0 k < mo_sin σ b c k)); ((try simp only [hkc, mo_bl0, Classical.not_not, ← Int32.not_lt] at c2 c3 c4 ⊢); (try clear ih); (try clear hih); clear hK hQ; grind)); rw [nI_succ, e] at hih; refine hK _ _ _ _ (show mo_X g t_X12_since Q 36 [some (.inr (.inr (50, 0))), some (.inl a), some (.inl b), some (.inl c), some (.inl (mo_sin σ b c k)), some (.inl ((nI k) + (1 : Int32)))] [] (σ) from ?_); (try simp only [hkc]); exact hih)
def S_X12_since : mo_S := fun as σ Q => ∃ a : Int32, ∃ b : Int32, ∃ c : Int32, as = [.inr (.inr (50, 0)), .inl a, .inl b, .inl c] ∧ ((¬ (0 ≤ a ∧ a ≤ σ.1 50 0 36 - 1) → Q (some (.inl (-1 : Int32))) (σ)) ∧ (0 ≤ a ∧ a ≤ σ.1 50 0 36 - 1 → ((¬ (0 ≤ b ∧ b ≤ (29 : Int32)) → Q (some (.inl (-1 : Int32))) (σ)) ∧ (0 ≤ b ∧ b ≤ (29 : Int32) → ((0 ≤ c ∧ c ≤ (10000 : Int32) → ((mo_hP σ a) ∧ (∀ r1 : Nat → Int32, ∀ q1 : Nat → Int32, (mo_hC σ a c r1 q1) → ((mo_le ((mo_hM σ c r1 q1).1 50 0 12) 100 ∧ ∀ k, k < ((mo_hM σ c r1 q1).1 50 0 12).toNatClampNeg → vp_in ((mo_hM σ c r1 q1).1 60 0 k) 60) ∧ Q (some (.inl (mo_sin (mo_hM σ c r1 q1) b c ((mo_hM σ c r1 q1).1 50 0 12).toNatClampNeg))) (mo_hM σ c r1 q1))))) ∧ (¬ (0 ≤ c ∧ c ≤ (10000 : Int32)) → Q (some (.inl (-1 : Int32))) (σ)))))))
theorem m_X12_since : ∀ (as : List mo_V) (σ : mo_M) (P P' : mo_Q), (∀ x τ, P x τ → P' x τ) → S_X12_since as σ P → S_X12_since as σ P' := by
  rintro as σ P P' hm ⟨a, b, c, e, hq⟩
  exact ⟨a, b, c, e, ⟨fun c1 => hm _ _ (hq.1 c1), fun c1 => ⟨fun c2 => hm _ _ ((hq.2 c1).1 c2), fun c2 => ⟨fun c3 => ⟨(((hq.2 c1).2 c2).1 c3).1, fun r1 q1 hr1 => ⟨((((hq.2 c1).2 c2).1 c3).2 r1 q1 hr1).1, hm _ _ ((((hq.2 c1).2 c2).1 c3).2 r1 q1 hr1).2⟩⟩, fun c3 => hm _ _ (((hq.2 c1).2 c2).2 c3)⟩⟩⟩⟩
set_option maxRecDepth 20000 in
set_option maxHeartbeats 2000000 in
theorem ct_X12_since : mo_ct yX12_since t_X12_since S_X12_since := by
  refine mo_ct_of (by decide) rfl ?_
  rintro g as σ Q ⟨a, b, c, rfl, hQ⟩
  refine ⟨Nat.le_of_ble_eq_true rfl, mo_go ok_X12_since (cs_X12_since_ok g) [36] 63 ?_⟩
  intro K hK
  refine Exists.intro a (And.intro rfl (And.intro trivial ?_))
  refine And.intro (fun (c1 : (mo_bl (0 ≤ a ∧ a ≤ σ.1 50 0 36 - 1)) = 0) => ?_) (fun (c1 : ¬ (mo_bl (0 ≤ a ∧ a ≤ σ.1 50 0 36 - 1)) = 0) => ?_)
  · replace c1 : ¬ (0 ≤ a ∧ a ≤ σ.1 50 0 36 - 1) := mo_bl0.mp c1
    exact (hQ.1 c1)
  · replace c1 : 0 ≤ a ∧ a ≤ σ.1 50 0 36 - 1 := mo_blT c1
    refine Exists.intro b (And.intro rfl (And.intro trivial ?_))
    refine And.intro (fun (c2 : (mo_bl (0 ≤ b ∧ b ≤ (29 : Int32))) = 0) => ?_) (fun (c2 : ¬ (mo_bl (0 ≤ b ∧ b ≤ (29 : Int32))) = 0) => ?_)
    · replace c2 : ¬ (0 ≤ b ∧ b ≤ (29 : Int32)) := mo_bl0.mp c2
      exact ((hQ.2 c1).1 c2)
    · replace c2 : 0 ≤ b ∧ b ≤ (29 : Int32) := mo_blT c2
      refine Exists.intro c (And.intro rfl (And.intro trivial ?_))
      refine And.intro (fun (c3 : ¬ (mo_bl (0 ≤ c ∧ c ≤ (10000 : Int32))) = 0) => ?_) (fun (c3 : (mo_bl (0 ≤ c ∧ c ≤ (10000 : Int32))) = 0) => ?_)
      · replace c3 : 0 ≤ c ∧ c ≤ (10000 : Int32) := mo_blT c3
        refine Exists.intro a (Exists.intro c (And.intro rfl (And.intro (show mo_hP σ a from (((hQ.2 c1).2 c2).1 c3).1) ?_)))
        intro r1 q1 hr1
        exact hK _ _ _ _ (lp_X12_since g (mo_hM σ c r1 q1) Q a b c _ ((((hQ.2 c1).2 c2).1 c3).2 r1 q1 hr1).1.1.1 ((((hQ.2 c1).2 c2).1 c3).2 r1 q1 hr1).1.1.2 ((((hQ.2 c1).2 c2).1 c3).2 r1 q1 hr1).1.2 ((((hQ.2 c1).2 c2).1 c3).2 r1 q1 hr1).2 (((mo_hM σ c r1 q1).1 50 0 12).toNatClampNeg + 1) 0 (by omega) (by omega) trivial)
      · replace c3 : ¬ (0 ≤ c ∧ c ≤ (10000 : Int32)) := mo_bl0.mp c3
        exact (((hQ.2 c1).2 c2).2 c3)
