/-! the law: its loop -/
def lw_QQ : mo_Q := fun r _ => r = some (.inl (1 : Int32))
theorem lw_6 {L i : Nat} (hL : L ≤ 3072) (hi : i ≤ 4000) : ¬ (Int32.ofNat L - Int32.ofInt 6) < nI i ↔ i + 6 ≤ L := by
  by_cases h : 6 ≤ L
  · have e : Int32.ofNat L - Int32.ofInt 6 = nI (L - 6) := by
      have e1 : Int32.ofNat L = nI (L - 6) + Int32.ofInt 6 := by
        rw [show Int32.ofInt 6 = nI 6 from rfl, nI_add, show L - 6 + 6 = L from by omega]
        rfl
      rw [e1, Int32.add_sub_cancel]
    rw [e, nI_ltI (by omega) (by omega)]
    omega
  · have hd : ∀ L, L < 6 → (Int32.ofNat L - Int32.ofInt 6).toInt < 0 := by decide
    have h1 := hd L (by omega)
    refine ⟨fun q => absurd ?_ q, fun q => absurd q (by omega)⟩
    rw [Int32.lt_iff_toInt_lt, nI_toInt (by omega)]
    omega
theorem lw_ix (i c : Nat) : nI i + Int32.ofInt (c : Int) = nI (i + c) := by
  rw [← nI_add]
  refine congrArg (fun z => nI i + z) ?_
  exact Int32.ofInt_eq_ofNat
set_option maxRecDepth 100000 in
theorem lw_31 : ∀ k : Nat, k < 32 → ∀ t : Nat, mo_sw 33 (1151) (0) (27) #[127, 150, 203, 256, 309, 342, 375, 438, 481, 504, 547, 580, 603, 666, 689, 702, 715, 758, 801, 854, 907, 950, 993, 1026, 1049, 1092, 1115, 1138] (nI k) = (t : Int) → t = ([160, 183, 236, 289, 342, 375, 408, 471, 514, 537, 580, 613, 636, 699, 722, 735, 748, 791, 834, 887, 940, 983, 1026, 1059, 1082, 1125, 1148, 1171].getD k 1184) := by
  intro k hk t ht
  have q : ∀ k : Nat, k < 32 → mo_sw 33 (1151) (0) (27) #[127, 150, 203, 256, 309, 342, 375, 438, 481, 504, 547, 580, 603, 666, 689, 702, 715, 758, 801, 854, 907, 950, 993, 1026, 1049, 1092, 1115, 1138] (nI k) = (([160, 183, 236, 289, 342, 375, 408, 471, 514, 537, 580, 613, 636, 699, 722, 735, 748, 791, 834, 887, 940, 983, 1026, 1059, 1082, 1125, 1148, 1171].getD k 1184 : Nat) : Int) := by decide +kernel
  have z := ht.symm.trans (q k hk)
  omega
theorem lw_and (y : Int32) : ∃ k, k < 32 ∧ y &&& Int32.ofInt 31 = nI k := by
  have e : (y &&& Int32.ofInt 31).toBitVec.toNat = y.toBitVec.toNat % 32 := by
    rw [pq_an]
    exact Nat.and_two_pow_sub_one_eq_mod _ 5
  refine ⟨y.toBitVec.toNat % 32, Nat.mod_lt _ (by decide), ?_⟩
  apply Int32.toBitVec_inj.mp
  apply BitVec.eq_of_toNat_eq
  rw [e, pq_nI (by have := Nat.mod_lt y.toBitVec.toNat (show 32 > 0 by decide); omega)]
set_option maxRecDepth 20000 in
set_option maxHeartbeats 2000000 in
theorem lw_tail (g : mo_E) (Q : mo_Q) (x : Int32) (σ : mo_M) (h : mo_X g t_law Q 18 (lw_ls (x + Int32.ofInt 6)) [] σ) : mo_X g t_law Q 1184 (lw_ls x) [] σ := by
  refine mo_goS ok_lawt (mo_no_ok g _) [] 4 ?_
  intro K hK
  exact hK _ _ _ _ h
set_option maxRecDepth 20000 in
set_option maxHeartbeats 2000000 in
theorem lw_end (g : mo_E) (ls : mo_L) (σ : mo_M) : mo_X g t_law lw_QQ 1190 ls [] σ := by
  refine mo_goS ok_lawe (mo_no_ok g _) [] 4 ?_
  intro K hK
  exact And.intro (Or.inr rfl) rfl
set_option maxRecDepth 20000 in
set_option maxHeartbeats 4000000 in
theorem lw_head (g : mo_E) (Q : mo_Q) (x : Int32) (σ : mo_M) (hi : ¬ (Int32.ofNat (mo_en g.2.2.2.2 95) - Int32.ofInt 6) < x → vp_in x (mo_en g.2.2.2.2 95)) (he : (Int32.ofNat (mo_en g.2.2.2.2 95) - Int32.ofInt 6) < x → mo_X g t_law Q 1190 (lw_ls x) [] σ) (hc : ¬ (Int32.ofNat (mo_en g.2.2.2.2 95) - Int32.ofInt 6) < x → ∀ t : Nat, mo_sw 33 (1151) (0) (27) #[127, 150, 203, 256, 309, 342, 375, 438, 481, 504, 547, 580, 603, 666, 689, 702, 715, 758, 801, 854, 907, 950, 993, 1026, 1049, 1092, 1115, 1138] (mo_ev g.2.2.2.2 95 x.toNatClampNeg &&& Int32.ofInt 31) = (t : Int) → mo_X g t_law Q t (lw_ls x) [] σ ∧ (mo_hs [160, 183, 236, 289, 342, 375, 408, 471, 514, 537, 580, 613, 636, 699, 722, 735, 748, 791, 834, 887, 940, 983, 1026, 1059, 1082, 1125, 1148, 1171, 1184] t = true)) : mo_X g t_law Q 18 (lw_ls x) [] σ := by
  refine mo_goS ok_lawh (mo_no_ok g _) [1190, 160, 183, 236, 289, 342, 375, 408, 471, 514, 537, 580, 613, 636, 699, 722, 735, 748, 791, 834, 887, 940, 983, 1026, 1059, 1082, 1125, 1148, 1171, 1184] 16 ?_
  intro K hK
  refine And.intro (fun c1 => hK _ _ _ _ (he c1)) (fun c1 => And.intro (hi c1) ?_)
  intro t ht
  obtain ⟨h1, h2⟩ := hc c1 t ht
  have h3 : mo_hs [1190, 160, 183, 236, 289, 342, 375, 408, 471, 514, 537, 580, 613, 636, 699, 722, 735, 748, 791, 834, 887, 940, 983, 1026, 1059, 1082, 1125, 1148, 1171, 1184] t = true := by
    show (bif Nat.beq 1190 t then true else mo_hs [160, 183, 236, 289, 342, 375, 408, 471, 514, 537, 580, 613, 636, 699, 722, 735, 748, 791, 834, 887, 940, 983, 1026, 1059, 1082, 1125, 1148, 1171, 1184] t) = true
    rw [h2]
    cases Nat.beq 1190 t <;> rfl
  show (bif Nat.blt 33 t && !(mo_hs [1190, 160, 183, 236, 289, 342, 375, 408, 471, 514, 537, 580, 613, 636, 699, 722, 735, 748, 791, 834, 887, 940, 983, 1026, 1059, 1082, 1125, 1148, 1171, 1184] t) then _ else K t (lw_ls x) [] σ)
  rw [h3]
  show (bif Nat.blt 33 t && false then _ else K t (lw_ls x) [] σ)
  rw [Bool.and_false]
  exact hK _ _ _ _ h1
set_option maxRecDepth 20000 in
set_option maxHeartbeats 2000000 in
theorem lw_begin (g : mo_E) (Q : mo_Q) (σ : mo_M) (y : Option mo_V) (h : mo_X g t_law Q 18 (lw_ls (nI 0)) [] σ) : mo_X g t_law Q 16 [some (.inr (.inr (95, 0))), some (.inr (.inr (0, 0))), some (.inr (.inr (50, 0))), none] [] σ := by
  refine mo_goS ok_lawh (mo_no_ok g _) [18] 16 ?_
  intro K hK
  exact hK _ _ _ _ h
theorem lw_loop (g : mo_E) (hL : g.2.2.2.2.1 ≤ 3072) : ∀ (d i : Nat), i + 6 * d ≥ 3078 → i ≤ 3078 → ∀ σ, iv σ → mo_X g t_law lw_QQ 18 (lw_ls (nI i)) [] σ
  | 0, i, h1, h2, σ, hiv => by
    have hn : mo_en g.2.2.2.2 95 = g.2.2.2.2.1 := rfl
    have key := lw_6 (L := g.2.2.2.2.1) (i := i) hL (by omega)
    refine lw_head g lw_QQ (nI i) σ (fun q => absurd (key.mp q) (by omega)) (fun _ => lw_end g _ σ) (fun q => absurd (key.mp q) (by omega))
  | d + 1, i, h1, h2, σ, hiv => by
    have key := lw_6 (L := g.2.2.2.2.1) (i := i) hL (by omega)
    have hn : mo_en g.2.2.2.2 95 = g.2.2.2.2.1 := rfl
    refine lw_head g lw_QQ (nI i) σ (fun q => ?_) (fun _ => lw_end g _ σ) (fun q t ht => ?_)
    · have := key.mp q
      rw [hn]
      exact mo_inN (by omega) (by omega)
    have hle := key.mp q
    have hv : ∀ c : Nat, c < 6 → vp_in (nI i + Int32.ofInt (c : Int)) (mo_en g.2.2.2.2 95) := fun c hc => by
      rw [lw_ix, hn]
      exact mo_inN (by omega) (by omega)
    have hT : ∀ υ, iv υ → mo_X g t_law lw_QQ 1184 (lw_ls (nI i)) [] υ := fun υ hυ => by
      refine lw_tail g lw_QQ (nI i) υ ?_
      have e := lw_ix i 6
      rw [show Int32.ofInt ((6 : Nat) : Int) = Int32.ofInt 6 from rfl] at e
      rw [e]
      exact lw_loop g hL d (i + 6) (by omega) (by omega) υ hυ
    obtain ⟨k, hk, ek⟩ := lw_and (mo_ev g.2.2.2.2 95 (nI i).toNatClampNeg)
    rw [ek] at ht
    have et := lw_31 k hk t ht
    subst et
    rcases (by omega : k = 0 ∨ k = 1 ∨ k = 2 ∨ k = 3 ∨ k = 4 ∨ k = 5 ∨ k = 6 ∨ k = 7 ∨ k = 8 ∨ k = 9 ∨ k = 10 ∨ k = 11 ∨ k = 12 ∨ k = 13 ∨ k = 14 ∨ k = 15 ∨ k = 16 ∨ k = 17 ∨ k = 18 ∨ k = 19 ∨ k = 20 ∨ k = 21 ∨ k = 22 ∨ k = 23 ∨ k = 24 ∨ k = 25 ∨ k = 26 ∨ k = 27 ∨ k = 28 ∨ k = 29 ∨ k = 30 ∨ k = 31) with rfl | rfl | rfl | rfl | rfl | rfl | rfl | rfl | rfl | rfl | rfl | rfl | rfl | rfl | rfl | rfl | rfl | rfl | rfl | rfl | rfl | rfl | rfl | rfl | rfl | rfl | rfl | rfl | rfl | rfl | rfl | rfl
    · exact ⟨lw_c0 g lw_QQ (nI i) σ (hv 1 (by omega)) hT hiv, rfl⟩
    · exact ⟨lw_c1 g lw_QQ (nI i) σ (hv 1 (by omega)) (hv 2 (by omega)) (hv 3 (by omega)) (hv 4 (by omega)) hT hiv, rfl⟩
    · exact ⟨lw_c2 g lw_QQ (nI i) σ (hv 1 (by omega)) (hv 2 (by omega)) (hv 3 (by omega)) (hv 4 (by omega)) hT hiv, rfl⟩
    · exact ⟨lw_c3 g lw_QQ (nI i) σ (hv 1 (by omega)) (hv 2 (by omega)) (hv 3 (by omega)) (hv 4 (by omega)) hT hiv, rfl⟩
    · exact ⟨lw_c4 g lw_QQ (nI i) σ (hv 1 (by omega)) (hv 2 (by omega)) hT hiv, rfl⟩
    · exact ⟨lw_c5 g lw_QQ (nI i) σ (hv 1 (by omega)) (hv 2 (by omega)) hT hiv, rfl⟩
    · exact ⟨lw_c6 g lw_QQ (nI i) σ (hv 1 (by omega)) (hv 2 (by omega)) (hv 3 (by omega)) (hv 4 (by omega)) (hv 5 (by omega)) hT hiv, rfl⟩
    · exact ⟨lw_c7 g lw_QQ (nI i) σ (hv 1 (by omega)) (hv 2 (by omega)) (hv 3 (by omega)) hT hiv, rfl⟩
    · exact ⟨lw_c8 g lw_QQ (nI i) σ (hv 1 (by omega)) hT hiv, rfl⟩
    · exact ⟨lw_c9 g lw_QQ (nI i) σ (hv 1 (by omega)) (hv 2 (by omega)) (hv 3 (by omega)) hT hiv, rfl⟩
    · exact ⟨lw_c10 g lw_QQ (nI i) σ (hv 1 (by omega)) (hv 2 (by omega)) hT hiv, rfl⟩
    · exact ⟨lw_c11 g lw_QQ (nI i) σ (hv 1 (by omega)) hT hiv, rfl⟩
    · exact ⟨lw_c12 g lw_QQ (nI i) σ (hv 1 (by omega)) (hv 2 (by omega)) (hv 3 (by omega)) (hv 4 (by omega)) (hv 5 (by omega)) hT hiv, rfl⟩
    · exact ⟨lw_c13 g lw_QQ (nI i) σ (hv 1 (by omega)) hT hiv, rfl⟩
    · exact ⟨lw_c14 g lw_QQ (nI i) σ hT hiv, rfl⟩
    · exact ⟨lw_c15 g lw_QQ (nI i) σ hT hiv, rfl⟩
    · exact ⟨lw_c16 g lw_QQ (nI i) σ (hv 1 (by omega)) (hv 2 (by omega)) (hv 3 (by omega)) hT hiv, rfl⟩
    · exact ⟨lw_c17 g lw_QQ (nI i) σ (hv 1 (by omega)) (hv 2 (by omega)) (hv 3 (by omega)) hT hiv, rfl⟩
    · exact ⟨lw_c18 g lw_QQ (nI i) σ (hv 1 (by omega)) (hv 2 (by omega)) (hv 3 (by omega)) (hv 4 (by omega)) hT hiv, rfl⟩
    · exact ⟨lw_c19 g lw_QQ (nI i) σ (hv 1 (by omega)) (hv 2 (by omega)) (hv 3 (by omega)) (hv 4 (by omega)) hT hiv, rfl⟩
    · exact ⟨lw_c20 g lw_QQ (nI i) σ (hv 1 (by omega)) (hv 2 (by omega)) (hv 3 (by omega)) hT hiv, rfl⟩
    · exact ⟨lw_c21 g lw_QQ (nI i) σ (hv 1 (by omega)) (hv 2 (by omega)) (hv 3 (by omega)) hT hiv, rfl⟩
    · exact ⟨lw_c22 g lw_QQ (nI i) σ (hv 1 (by omega)) (hv 2 (by omega)) hT hiv, rfl⟩
    · exact ⟨lw_c23 g lw_QQ (nI i) σ (hv 1 (by omega)) hT hiv, rfl⟩
    · exact ⟨lw_c24 g lw_QQ (nI i) σ (hv 1 (by omega)) (hv 2 (by omega)) (hv 3 (by omega)) hT hiv, rfl⟩
    · exact ⟨lw_c25 g lw_QQ (nI i) σ (hv 1 (by omega)) hT hiv, rfl⟩
    · exact ⟨lw_c26 g lw_QQ (nI i) σ (hv 1 (by omega)) hT hiv, rfl⟩
    · exact ⟨lw_c27 g lw_QQ (nI i) σ hT hiv, rfl⟩
    · exact ⟨hT σ hiv, rfl⟩
    · exact ⟨hT σ hiv, rfl⟩
    · exact ⟨hT σ hiv, rfl⟩
    · exact ⟨hT σ hiv, rfl⟩
