theorem fo_pw {C : Nat → Int32 → Prop} {v : Int32} {r : Nat → Int32} : ∀ {n j : Nat}, mo_fo (fun i r => mo_ite (C i (r i)) (upd r i v) r) r n j = if j < n then mo_ite (C j (r j)) v (r j) else r j
  | 0, j => by rw [if_neg (by omega)]; rfl
  | n + 1, j => by
    have ih : ∀ j, mo_fo (fun i r => mo_ite (C i (r i)) (upd r i v) r) r n j = if j < n then mo_ite (C j (r j)) v (r j) else r j := fun j => fo_pw (C := C) (v := v) (r := r) (n := n) (j := j)
    show (mo_ite (C n (mo_fo (fun i r => mo_ite (C i (r i)) (upd r i v) r) r n n)) (upd (mo_fo (fun i r => mo_ite (C i (r i)) (upd r i v) r) r n) n v) (mo_fo (fun i r => mo_ite (C i (r i)) (upd r i v) r) r n)) j = _
    have hn := ih n
    rw [if_neg (by omega)] at hn
    have hj := ih j
    rw [hn]
    by_cases c : C n (r n)
    · rw [mo_ite_t c]
      by_cases e : j = n
      · subst e; rw [mo_ueq, if_pos (by omega), mo_ite_t c]
      · rw [mo_une _ _ e, hj]
        by_cases l : j < n
        · rw [if_pos l, if_pos (by omega)]
        · rw [if_neg l, if_neg (by omega)]
    · rw [mo_ite_f c]
      by_cases e : j = n
      · subst e; rw [hn, if_pos (by omega), mo_ite_f c]
      · rw [hj]
        by_cases l : j < n
        · rw [if_pos l, if_pos (by omega)]
        · rw [if_neg l, if_neg (by omega)]
/-- members against lowest -/
def gz_R (m l : Nat → Int32) : Prop := (∀ i, i < 30 → l i = nI (l i).toNatClampNeg ∧ (l i).toNatClampNeg ≤ i ∧ l (l i).toNatClampNeg = l i) ∧ ∀ i, i < 30 → ∀ j, j < 64 → (mo_bt (m i).toInt64 (nI j) ↔ j < 30 ∧ l i = l j)
/-- no pair known as unlike is in one group -/
def gz_N (σ : mo_M) (d : Int32) (U : Nat) (l : Nat → Int32) : Prop := ∀ u, u < U → σ.1 27 0 u ≤ d → ¬ l (σ.1 24 0 u).toNatClampNeg = l (σ.1 25 0 u).toNatClampNeg
theorem gz_0 (r r' : Nat → Int32) : gz_R (mo_fo (fun k r => upd r k ((1 : Int32) <<< (nI k &&& 31))) r 30) (mo_fo (fun k r => upd r k (nI k)) r' 30) := by
  have e1 : ∀ i, i < 30 → mo_fo (fun k r => upd r k ((1 : Int32) <<< (nI k &&& 31))) r 30 i = (1 : Int32) <<< (nI i &&& 31) := fun i hi => mo_fo_upd (f := fun k => (1 : Int32) <<< (nI k &&& 31)) hi
  have e2 : ∀ i, i < 30 → mo_fo (fun k r => upd r k (nI k)) r' 30 i = nI i := fun i hi => mo_fo_upd (f := fun k => nI k) hi
  refine ⟨fun i hi => ?_, fun i hi j hj => ?_⟩
  · rw [e2 i hi, mo_cl (by omega)]
    exact ⟨rfl, Nat.le_refl _, e2 i hi⟩
  · rw [e1 i hi, bt_ibit hi hj, e2 i hi]
    constructor
    · rintro rfl; exact ⟨hi, (e2 _ hi).symm⟩
    · rintro ⟨h1, h2⟩
      rw [e2 j h1, nI_eq (by omega) (by omega)] at h2
      exact h2
theorem gz_step {σ : mo_M} {d : Int32} {U P A B : Nat} {m l : Nat → Int32} (hU : iv_U σ P U) (hP : P ≤ 30) (hA : A < 30) (hB : B < 30) (hR : gz_R m l) (hN : gz_N σ d U l) :
    (l A = l B → ¬ (∃ u, u < (σ.1 23 0 4).toNatClampNeg ∧ (σ.1 27 0 u ≤ d ∧ σ.1 26 0 u = 0) ∧ mo_bt (m A ||| m B).toInt64 (σ.1 24 0 u) ∧ mo_bt (m A ||| m B).toInt64 (σ.1 25 0 u)) ∧ gz_R (mo_fo (fun i r => mo_ite (mo_bt (m A ||| m B).toInt64 (nI i)) (upd r i (m A ||| m B)) r) m 30) l) ∧
    (¬ l A = l B → ((∃ u, u < (σ.1 23 0 4).toNatClampNeg ∧ (σ.1 27 0 u ≤ d ∧ σ.1 26 0 u = 0) ∧ mo_bt (m A ||| m B).toInt64 (σ.1 24 0 u) ∧ mo_bt (m A ||| m B).toInt64 (σ.1 25 0 u)) ↔ ∃ u, u < (σ.1 50 0 19).toNatClampNeg ∧ σ.1 70 0 u ≤ d ∧ ((l (σ.1 68 0 u).toNatClampNeg = l A ∧ l (σ.1 69 0 u).toNatClampNeg = l B) ∨ (l (σ.1 68 0 u).toNatClampNeg = l B ∧ l (σ.1 69 0 u).toNatClampNeg = l A))) ∧
      (¬ (∃ u, u < (σ.1 23 0 4).toNatClampNeg ∧ (σ.1 27 0 u ≤ d ∧ σ.1 26 0 u = 0) ∧ mo_bt (m A ||| m B).toInt64 (σ.1 24 0 u) ∧ mo_bt (m A ||| m B).toInt64 (σ.1 25 0 u)) → gz_R (mo_fo (fun i r => mo_ite (mo_bt (m A ||| m B).toInt64 (nI i)) (upd r i (m A ||| m B)) r) m 30) (mo_fo (fun i r => mo_ite (r i = l A ∨ r i = l B) (upd r i (mo_ite (l A < l B) (l A) (l B))) r) l 30) ∧ gz_N σ d U (mo_fo (fun i r => mo_ite (r i = l A ∨ r i = l B) (upd r i (mo_ite (l A < l B) (l A) (l B))) r) l 30))) := by
  obtain ⟨u1, u2, u3, u4, u5⟩ := hU
  obtain ⟨R1, R2⟩ := hR
  rw [iv_cl u1 (by omega), iv_cl u2 (by omega)]
  have hbt : ∀ j, j < 64 → (mo_bt (m A ||| m B).toInt64 (nI j) ↔ j < 30 ∧ (l A = l j ∨ l B = l j)) := by
    intro j hj
    rw [bt_ior _ _ hj, R2 A hA j hj, R2 B hB j hj]
    constructor
    · rintro (⟨x, y⟩ | ⟨x, y⟩)
      · exact ⟨x, Or.inl y⟩
      · exact ⟨x, Or.inr y⟩
    · rintro ⟨x, y | y⟩
      · exact Or.inl ⟨x, y⟩
      · exact Or.inr ⟨x, y⟩
  have hua : ∀ u, u < U → (σ.1 24 0 u).toNatClampNeg < 30 ∧ (σ.1 25 0 u).toNatClampNeg < 30 ∧ (mo_bt (m A ||| m B).toInt64 (σ.1 24 0 u) ↔ (l A = l (σ.1 24 0 u).toNatClampNeg ∨ l B = l (σ.1 24 0 u).toNatClampNeg)) ∧ (mo_bt (m A ||| m B).toInt64 (σ.1 25 0 u) ↔ (l A = l (σ.1 25 0 u).toNatClampNeg ∨ l B = l (σ.1 25 0 u).toNatClampNeg)) := by
    intro u hu
    obtain ⟨x1, x2, x3, x4, x5, x6⟩ := u4 u hu
    have y4 := mo_inI x4
    have y5 := mo_inI x5
    refine ⟨by omega, by omega, ?_, ?_⟩
    · have := hbt (σ.1 24 0 u).toNatClampNeg (by omega)
      rw [← y4.1] at this
      rw [this]
      exact ⟨fun q => q.2, fun q => ⟨by omega, q⟩⟩
    · have := hbt (σ.1 25 0 u).toNatClampNeg (by omega)
      rw [← y5.1] at this
      rw [this]
      exact ⟨fun q => q.2, fun q => ⟨by omega, q⟩⟩
  have hm' : ∀ i, i < 30 → mo_fo (fun i r => mo_ite (mo_bt (m A ||| m B).toInt64 (nI i)) (upd r i (m A ||| m B)) r) m 30 i = mo_ite (l A = l i ∨ l B = l i) (m A ||| m B) (m i) := by
    intro i hi
    have z := fo_pw (C := fun i _ => mo_bt (m A ||| m B).toInt64 (nI i)) (v := m A ||| m B) (r := m) (n := 30) (j := i)
    rw [if_pos hi] at z
    refine z.trans ?_
    have e : mo_bt (m A ||| m B).toInt64 (nI i) = (l A = l i ∨ l B = l i) := propext ⟨fun q => ((hbt i (by omega)).mp q).2, fun q => (hbt i (by omega)).mpr ⟨hi, q⟩⟩
    rw [e]
  refine ⟨fun hAB => ⟨?_, R1, fun i hi j hj => ?_⟩, fun hAB => ⟨?_, fun hq => ?_⟩⟩
  · rintro ⟨u, hu, ⟨h1, -⟩, h2, h3⟩
    obtain ⟨-, -, x, y⟩ := hua u hu
    have x := x.mp h2
    have y := y.mp h3
    rw [← hAB] at x y
    exact hN u hu h1 ((x.elim id id).symm.trans (y.elim id id))
  · rw [hm' i hi]
    by_cases q : l A = l i ∨ l B = l i
    · rw [mo_ite_t q, hbt j hj]
      have e : l i = l A := by rcases q with q | q; (· exact q.symm); exact q.symm.trans hAB.symm
      rw [e, ← hAB]
      exact ⟨fun z => ⟨z.1, z.2.elim id id⟩, fun z => ⟨z.1, Or.inl z.2⟩⟩
    · rw [mo_ite_f q]; exact R2 i hi j hj
  · constructor
    · rintro ⟨u, hu, ⟨h1, -⟩, h2, h3⟩
      obtain ⟨-, -, x, y⟩ := hua u hu
      obtain ⟨x1, x2, x3, x4, x5, x6⟩ := u4 u hu
      have hn := hN u hu h1
      refine ⟨u, hu, by rw [x3]; exact h1, ?_⟩
      rw [x1, x2]
      rcases x.mp h2 with z | z <;> rcases y.mp h3 with z2 | z2
      · exact absurd (z.symm.trans z2) hn
      · exact Or.inl ⟨z.symm, z2.symm⟩
      · exact Or.inr ⟨z.symm, z2.symm⟩
      · exact absurd (z.symm.trans z2) hn
    · rintro ⟨u, hu, h1, h2⟩
      obtain ⟨-, -, x, y⟩ := hua u hu
      obtain ⟨x1, x2, x3, x4, x5, x6⟩ := u4 u hu
      rw [x1, x2] at h2
      rw [x3] at h1
      refine ⟨u, hu, ⟨h1, u5 u (by omega)⟩, x.mpr ?_, y.mpr ?_⟩
      · rcases h2 with z | z
        · exact Or.inl z.1.symm
        · exact Or.inr z.1.symm
      · rcases h2 with z | z
        · exact Or.inr z.2.symm
        · exact Or.inl z.2.symm
  · have hl' : ∀ i, i < 30 → mo_fo (fun i r => mo_ite (r i = l A ∨ r i = l B) (upd r i (mo_ite (l A < l B) (l A) (l B))) r) l 30 i = mo_ite (l i = l A ∨ l i = l B) (mo_ite (l A < l B) (l A) (l B)) (l i) := by
      intro i hi
      have z := fo_pw (C := fun _ x => x = l A ∨ x = l B) (v := mo_ite (l A < l B) (l A) (l B)) (r := l) (n := 30) (j := i)
      rw [if_pos hi] at z
      exact z
    generalize hl2 : mo_fo (fun i r => mo_ite (r i = l A ∨ r i = l B) (upd r i (mo_ite (l A < l B) (l A) (l B))) r) l 30 = l' at hl' ⊢
    generalize mo_fo (fun i r => mo_ite (mo_bt (m A ||| m B).toInt64 (nI i)) (upd r i (m A ||| m B)) r) m 30 = m' at hm' ⊢
    obtain ⟨a1, a2, a3⟩ := R1 A hA
    obtain ⟨b1, b2, b3⟩ := R1 B hB
    have hlow : (mo_ite (l A < l B) (l A) (l B) = l A ∨ mo_ite (l A < l B) (l A) (l B) = l B) ∧ mo_ite (l A < l B) (l A) (l B) = nI (mo_ite (l A < l B) (l A) (l B)).toNatClampNeg ∧ (mo_ite (l A < l B) (l A) (l B)).toNatClampNeg ≤ (l A).toNatClampNeg ∧ (mo_ite (l A < l B) (l A) (l B)).toNatClampNeg ≤ (l B).toNatClampNeg ∧ l (mo_ite (l A < l B) (l A) (l B)).toNatClampNeg = mo_ite (l A < l B) (l A) (l B) := by
      by_cases c : l A < l B
      · rw [mo_ite_t c]
        have c2 := c
        rw [a1, b1, nI_ltI (by omega) (by omega)] at c2
        exact ⟨Or.inl rfl, a1, Nat.le_refl _, by omega, a3⟩
      · rw [mo_ite_f c]
        have c2 := c
        rw [a1, b1, nI_ltI (by omega) (by omega)] at c2
        exact ⟨Or.inr rfl, b1, by omega, Nat.le_refl _, b3⟩
    generalize mo_ite (l A < l B) (l A) (l B) = lo at hl' hlow
    obtain ⟨w1, w2, w3, w4, w5⟩ := hlow
    have key : ∀ i, i < 30 → ∀ j, j < 30 → (l' i = l' j ↔ (l i = l j ∨ ((l i = l A ∨ l i = l B) ∧ (l j = l A ∨ l j = l B)))) := by
      intro i hi j hj
      rw [hl' i hi, hl' j hj]
      by_cases c : l i = l A ∨ l i = l B
      · rw [mo_ite_t c]
        by_cases c2 : l j = l A ∨ l j = l B
        · rw [mo_ite_t c2]; exact ⟨fun _ => Or.inr ⟨c, c2⟩, fun _ => rfl⟩
        · rw [mo_ite_f c2]
          constructor
          · intro q
            exact absurd (by rcases w1 with w | w; (· exact Or.inl (q.symm.trans w)); exact Or.inr (q.symm.trans w)) c2
          · rintro (q | ⟨-, q⟩)
            · exact absurd (by rw [← q]; exact c) c2
            · exact absurd q c2
      · rw [mo_ite_f c]
        by_cases c2 : l j = l A ∨ l j = l B
        · rw [mo_ite_t c2]
          constructor
          · intro q
            exact absurd (by rcases w1 with w | w; (· exact Or.inl (q.trans w)); exact Or.inr (q.trans w)) c
          · rintro (q | ⟨q, -⟩)
            · exact absurd (by rw [q]; exact c2) c
            · exact absurd q c
        · rw [mo_ite_f c2]
          exact ⟨Or.inl, fun q => q.elim id (fun z => absurd z.1 c)⟩
    refine ⟨⟨fun i hi => ?_, fun i hi j hj => ?_⟩, fun u hu hd => ?_⟩
    · obtain ⟨i1, i2, i3⟩ := R1 i hi
      rw [hl' i hi]
      by_cases c : l i = l A ∨ l i = l B
      · rw [mo_ite_t c]
        refine ⟨w2, ?_, ?_⟩
        · rcases c with c | c
          · rw [c] at i2; omega
          · rw [c] at i2; omega
        · rw [hl' _ (by omega), w5, mo_ite_t w1]
      · rw [mo_ite_f c]
        exact ⟨i1, i2, by rw [hl' _ (by omega), i3, mo_ite_f c]⟩
    · rw [hm' i hi]
      by_cases c : l A = l i ∨ l B = l i
      · rw [mo_ite_t c, hbt j hj]
        constructor
        · rintro ⟨x, y⟩
          refine ⟨x, (key i hi j x).mpr (Or.inr ⟨?_, ?_⟩)⟩
          · exact c.imp Eq.symm Eq.symm
          · exact y.imp Eq.symm Eq.symm
        · rintro ⟨x, y⟩
          refine ⟨x, ?_⟩
          rcases (key i hi j x).mp y with z | ⟨-, z⟩
          · rw [← z]; exact c
          · exact z.imp Eq.symm Eq.symm
      · rw [mo_ite_f c, R2 i hi j hj]
        constructor
        · rintro ⟨x, y⟩; exact ⟨x, (key i hi j x).mpr (Or.inl y)⟩
        · rintro ⟨x, y⟩
          refine ⟨x, ?_⟩
          rcases (key i hi j x).mp y with z | ⟨z, -⟩
          · exact z
          · exact absurd (z.imp Eq.symm Eq.symm) c
    · obtain ⟨x, y, x2, y2⟩ := hua u hu
      intro z
      rcases (key _ x _ y).mp z with z | ⟨z1, z2⟩
      · exact hN u hu hd z
      · exact hq ⟨u, hu, ⟨hd, u5 u (by omega)⟩, x2.mpr (z1.imp Eq.symm Eq.symm), y2.mpr (z2.imp Eq.symm Eq.symm)⟩
theorem gz_main {σ : mo_M} {d : Int32} {P J U : Nat} (hP : P ≤ 30) (hJ : iv_J σ P J) (hU : iv_U σ P U) : ∀ k, k ≤ J → gz_R (mo_set1 σ d k).1 (mo_gat σ d k).1 ∧ gz_N σ d U (mo_gat σ d k).1 ∧ (mo_set1 σ d k).2 = (mo_gat σ d k).2
  | 0, _ => by
    refine ⟨gz_0 _ _, fun u hu hd => ?_, rfl⟩
    obtain ⟨x1, x2, x3, x4, x5, x6⟩ := hU.2.2.2.1 u hu
    have y4 := mo_inI x4
    have y5 := mo_inI x5
    show ¬ mo_fo (fun k r => upd r k (nI k)) (σ.1 71 0) 30 _ = mo_fo (fun k r => upd r k (nI k)) (σ.1 71 0) 30 _
    rw [mo_fo_upd (f := fun k => nI k) (by omega), mo_fo_upd (f := fun k => nI k) (by omega), ← y4.1, ← y5.1]
    exact x6
  | k + 1, hk => by
    obtain ⟨ih1, ih2, ih3⟩ := gz_main (d := d) hP hJ hU k (by omega)
    obtain ⟨j1, j2, j3, j4, j5⟩ := hJ
    obtain ⟨x1, x2, x3, x4, x5⟩ := j4 k (by omega)
    have y4 := mo_inI x4
    have y5 := mo_inI x5
    have e67 := j5 k (by omega)
    have hst := gz_step (d := d) hU hP (A := (σ.1 19 0 k).toNatClampNeg) (B := (σ.1 20 0 k).toNatClampNeg) (by omega) (by omega) ih1 ih2
    have s1 : mo_set1 σ d (k + 1) = mo_ite (σ.1 22 0 k ≤ d ∧ σ.1 21 0 k = 0) (mo_ite (∃ u, u < (σ.1 23 0 4).toNatClampNeg ∧ (σ.1 27 0 u ≤ d ∧ σ.1 26 0 u = 0) ∧ mo_bt ((mo_set1 σ d k).1 (σ.1 19 0 k).toNatClampNeg ||| (mo_set1 σ d k).1 (σ.1 20 0 k).toNatClampNeg).toInt64 (σ.1 24 0 u) ∧ mo_bt ((mo_set1 σ d k).1 (σ.1 19 0 k).toNatClampNeg ||| (mo_set1 σ d k).1 (σ.1 20 0 k).toNatClampNeg).toInt64 (σ.1 25 0 u)) ((mo_set1 σ d k).1, (mo_set1 σ d k).2 + 1) (mo_fo (fun i r => mo_ite (mo_bt ((mo_set1 σ d k).1 (σ.1 19 0 k).toNatClampNeg ||| (mo_set1 σ d k).1 (σ.1 20 0 k).toNatClampNeg).toInt64 (nI i)) (upd r i ((mo_set1 σ d k).1 (σ.1 19 0 k).toNatClampNeg ||| (mo_set1 σ d k).1 (σ.1 20 0 k).toNatClampNeg)) r) (mo_set1 σ d k).1 30, (mo_set1 σ d k).2)) (mo_set1 σ d k) := rfl
    have s2 : mo_gat σ d (k + 1) = mo_ite (σ.1 67 0 k = 0 ∧ σ.1 66 0 k ≤ d) (mo_ite ((mo_gat σ d k).1 (σ.1 64 0 k).toNatClampNeg = (mo_gat σ d k).1 (σ.1 65 0 k).toNatClampNeg) (mo_gat σ d k) (mo_ite (∃ u, u < (σ.1 50 0 19).toNatClampNeg ∧ σ.1 70 0 u ≤ d ∧ (((mo_gat σ d k).1 (σ.1 68 0 u).toNatClampNeg = (mo_gat σ d k).1 (σ.1 64 0 k).toNatClampNeg ∧ (mo_gat σ d k).1 (σ.1 69 0 u).toNatClampNeg = (mo_gat σ d k).1 (σ.1 65 0 k).toNatClampNeg) ∨ ((mo_gat σ d k).1 (σ.1 68 0 u).toNatClampNeg = (mo_gat σ d k).1 (σ.1 65 0 k).toNatClampNeg ∧ (mo_gat σ d k).1 (σ.1 69 0 u).toNatClampNeg = (mo_gat σ d k).1 (σ.1 64 0 k).toNatClampNeg))) ((mo_gat σ d k).1, (mo_gat σ d k).2 + 1) (mo_fo (fun i r => mo_ite (r i = (mo_gat σ d k).1 (σ.1 64 0 k).toNatClampNeg ∨ r i = (mo_gat σ d k).1 (σ.1 65 0 k).toNatClampNeg) (upd r i (mo_ite ((mo_gat σ d k).1 (σ.1 64 0 k).toNatClampNeg < (mo_gat σ d k).1 (σ.1 65 0 k).toNatClampNeg) ((mo_gat σ d k).1 (σ.1 64 0 k).toNatClampNeg) ((mo_gat σ d k).1 (σ.1 65 0 k).toNatClampNeg))) r) (mo_gat σ d k).1 30, (mo_gat σ d k).2))) (mo_gat σ d k) := rfl
    rw [x1, x2, x3, e67] at s2
    rw [s1, s2]
    by_cases c : σ.1 22 0 k ≤ d ∧ σ.1 21 0 k = 0
    · rw [mo_ite_t c, mo_ite_t (show σ.1 21 0 k = 0 ∧ σ.1 22 0 k ≤ d from ⟨c.2, c.1⟩)]
      by_cases e : (mo_gat σ d k).1 (σ.1 19 0 k).toNatClampNeg = (mo_gat σ d k).1 (σ.1 20 0 k).toNatClampNeg
      · rw [mo_ite_t e, mo_ite_f (hst.1 e).1]
        exact ⟨(hst.1 e).2, ih2, ih3⟩
      · rw [mo_ite_f e]
        by_cases q : ∃ u, u < (σ.1 23 0 4).toNatClampNeg ∧ (σ.1 27 0 u ≤ d ∧ σ.1 26 0 u = 0) ∧ mo_bt ((mo_set1 σ d k).1 (σ.1 19 0 k).toNatClampNeg ||| (mo_set1 σ d k).1 (σ.1 20 0 k).toNatClampNeg).toInt64 (σ.1 24 0 u) ∧ mo_bt ((mo_set1 σ d k).1 (σ.1 19 0 k).toNatClampNeg ||| (mo_set1 σ d k).1 (σ.1 20 0 k).toNatClampNeg).toInt64 (σ.1 25 0 u)
        · rw [mo_ite_t q, mo_ite_t ((hst.2 e).1.mp q)]
          exact ⟨ih1, ih2, by show _ + 1 = _ + 1; rw [ih3]⟩
        · rw [mo_ite_f q, mo_ite_f (mt (hst.2 e).1.mpr q)]
          exact ⟨((hst.2 e).2 q).1, ((hst.2 e).2 q).2, ih3⟩
    · rw [mo_ite_f c, mo_ite_f (show ¬ (σ.1 21 0 k = 0 ∧ σ.1 22 0 k ≤ d) from fun z => c ⟨z.2, z.1⟩)]
      exact ⟨ih1, ih2, ih3⟩
