/-! two rows of bytes that say the same: ints 0 to 255 and signed bytes -/
def tq (r r' : Nat → Int32) (n : Nat) : Prop := ∀ j, j < n → r j = r' j ∨ (¬ (0 ≤ r j ∧ r j ≤ 127) ∧ ¬ (0 ≤ r' j ∧ r' j ≤ 127))
theorem tq_eq {r r' : Nat → Int32} {n : Nat} (h : tq r r' n) {j : Nat} (hj : j < n) {c : Int32} (hc : 0 ≤ c ∧ c ≤ 127) : r j = c ↔ r' j = c := by
  rcases h j hj with e | ⟨e1, e2⟩
  · rw [e]
  · exact ⟨fun q => absurd (by rw [q]; exact hc) e1, fun q => absurd (by rw [q]; exact hc) e2⟩
theorem tq_in {r r' : Nat → Int32} {n : Nat} (h : tq r r' n) {j : Nat} (hj : j < n) {a b : Int32} (ha : 0 ≤ a) (hb : b ≤ 127) : (a ≤ r j ∧ r j ≤ b) ↔ (a ≤ r' j ∧ r' j ≤ b) := by
  rcases h j hj with e | ⟨e1, e2⟩
  · rw [e]
  · exact ⟨fun q => absurd ⟨Int32.le_trans ha q.1, Int32.le_trans q.2 hb⟩ e1, fun q => absurd ⟨Int32.le_trans ha q.1, Int32.le_trans q.2 hb⟩ e2⟩
theorem tq_kn {r r' : Nat → Int32} {n : Nat} (h : tq r r' n) (j : Nat) : mo_kn r n j = mo_kn r' n j := by
  unfold mo_kn
  by_cases c : n ≤ j
  · rw [if_pos c, if_pos c]
  · rw [if_neg c, if_neg c]
    have e1 := tq_in h (show j < n by omega) (a := 97) (b := 122) (by decide) (by decide)
    have e2 := tq_in h (show j < n by omega) (a := 48) (b := 57) (by decide) (by decide)
    by_cases c1 : 97 ≤ r j ∧ r j ≤ 122
    · rw [if_pos c1, if_pos (e1.mp c1)]
    · rw [if_neg c1, if_neg (fun q => c1 (e1.mpr q))]
      by_cases c2 : 48 ≤ r j ∧ r j ≤ 57
      · rw [if_pos c2, if_pos (e2.mp c2)]
      · rw [if_neg c2, if_neg (fun q => c2 (e2.mpr q))]
theorem tq_tS {r r' : Nat → Int32} {n : Nat} (h : tq r r' n) (p : Nat) : mo_tS r n p = mo_tS r' n p := mo_ex_c (fun j h1 h2 => tq_eq h (by omega) (by decide))
theorem tq_tE {r r' : Nat → Int32} {n : Nat} (h : tq r r' n) (s : Nat) : mo_tE r n s = mo_tE r' n s := by
  unfold mo_tE
  have e : (fun j => mo_kn r n j = mo_kn r n s) = (fun j => mo_kn r' n j = mo_kn r' n s) := by funext j; rw [tq_kn h j, tq_kn h s]
  rw [e, tq_kn h s]
theorem tq_N {r r' : Nat → Int32} {n : Nat} (h : tq r r' n) (s : Nat) : tk_N r n s = tk_N r' n s := by
  unfold tk_N; rw [tq_tE h, tq_tS h]
theorem tq_sg {r r' : Nat → Int32} {n : Nat} (h : tq r r' n) {c : Int32} (hc : 0 ≤ c ∧ c ≤ 127) (s : Nat) : tk_sg r n c s = tk_sg r' n c s := by
  refine propext ?_
  unfold tk_sg
  rw [tq_kn h s]
  refine and_congr_right (fun k => tq_eq h ?_ hc)
  apply Classical.byContradiction
  intro q
  rw [mo_kn0.mpr (show n ≤ s by omega)] at k
  exact absurd k (by decide)
theorem tq_nv {r r' : Nat → Int32} {n : Nat} (h : tq r r' n) {s : Nat} (k : mo_kn r n s = 2) : tk_nv r n s = tk_nv r' n s := by
  unfold tk_nv
  rw [← tq_tE h s]
  unfold tk_vl
  refine fo_c (fun i hi v => ?_)
  have k0 : ¬ mo_kn r n s = 0 := by rw [k]; decide
  have k3 : ¬ mo_kn r n s = 3 := by rw [k]; decide
  have ki := mo_tE_in k0 k3 (show s ≤ s + i by omega) (show s + i < mo_tE r n s by omega)
  rw [k] at ki
  have hd := mo_kn2 ki
  have hn : s + i < n := by
    apply Classical.byContradiction
    intro q
    rw [mo_kn0.mpr (show n ≤ s + i by omega)] at ki
    exact absurd ki (by decide)
  rcases h (s + i) hn with e | ⟨e1, -⟩
  · rw [e]
  · exact absurd ⟨Int32.le_trans (show (0 : Int32) ≤ 48 by decide) hd.1, Int32.le_trans hd.2 (show (57 : Int32) ≤ 127 by decide)⟩ e1
theorem tq_num {r r' : Nat → Int32} {n : Nat} (h : tq r r' n) (a : Int) (s : Nat) : tk_num r n a s = tk_num r' n a s := by
  refine propext ?_
  unfold tk_num
  constructor
  · rintro ⟨k, q⟩
    exact ⟨by rw [← tq_kn h s]; exact k, by rw [← tq_nv h k]; exact q⟩
  · rintro ⟨k, q⟩
    have k2 : mo_kn r n s = 2 := by rw [tq_kn h s]; exact k
    exact ⟨k2, by rw [tq_nv h k2]; exact q⟩
theorem tq_wd {r r' : Nat → Int32} {n : Nat} (h : tq r r' n) (ws : List Int32) (hw : ∀ i, i < ws.length → 0 ≤ ws.getD i 0 ∧ ws.getD i 0 ≤ 127) (s : Nat) : tk_wd r n ws s = tk_wd r' n ws s := by
  refine propext ?_
  unfold tk_wd
  rw [tq_kn h s, tq_tE h s]
  refine and_congr_right (fun k => and_congr_right (fun e => forall_congr' (fun i => forall_congr' (fun hi => tq_eq h ?_ (hw i hi)))))
  have hs : s < n := by
    apply Classical.byContradiction
    intro q
    rw [mo_kn0.mpr (show n ≤ s by omega)] at k
    exact absurd k (by decide)
  have := (mo_tE_le r' (show s ≤ n by omega)).2
  omega
theorem tq_any {r r' : Nat → Int32} {n : Nat} (h : tq r r' n) (s : Nat) : tk_wd r n [97, 110, 121] s = tk_wd r' n [97, 110, 121] s := tq_wd h _ (by decide) s
theorem tq_wor {r r' : Nat → Int32} {n : Nat} (h : tq r r' n) (s : Nat) : tk_wd r n [111, 114] s = tk_wd r' n [111, 114] s := tq_wd h _ (by decide) s
theorem tq_wan {r r' : Nat → Int32} {n : Nat} (h : tq r r' n) (s : Nat) : tk_wd r n [97, 110, 100] s = tk_wd r' n [97, 110, 100] s := tq_wd h _ (by decide) s
theorem tq_bad {r r' : Nat → Int32} {n : Nat} (h : tq r r' n) (s : Nat) : tk_wd r n [98, 97, 100] s = tk_wd r' n [98, 97, 100] s := tq_wd h _ (by decide) s
theorem tq_dot {r r' : Nat → Int32} {n : Nat} (h : tq r r' n) (s : Nat) : tk_sg r n 46 s = tk_sg r' n 46 s := tq_sg h (by decide) s
theorem tq_lt {r r' : Nat → Int32} {n : Nat} (h : tq r r' n) (s : Nat) : tk_sg r n 60 s = tk_sg r' n 60 s := tq_sg h (by decide) s
theorem tq_is {r r' : Nat → Int32} {n : Nat} (h : tq r r' n) (s : Nat) : tk_sg r n 61 s = tk_sg r' n 61 s := tq_sg h (by decide) s
theorem tq_gt {r r' : Nat → Int32} {n : Nat} (h : tq r r' n) (s : Nat) : tk_sg r n 62 s = tk_sg r' n 62 s := tq_sg h (by decide) s
theorem tq_k {r r' : Nat → Int32} {n : Nat} (h : tq r r' n) {a : Int} {s : Nat} (k : tk_num r' n a s) : tk_nv r n s = tk_nv r' n s := tq_nv h (by rw [tq_kn h s]; exact k.1)
theorem tq_ver {r r' : Nat → Int32} {n : Nat} (h : tq r r' n) (s : Nat) : tk_ver r n s = tk_ver r' n s := by
  unfold tk_ver
  simp only [tq_N h, tq_num h, tq_dot h]
  by_cases A : tk_num r' n 999 s
  · simp only [mo_ite_t A, tq_k h A]
    by_cases C : tk_num r' n 999 (tk_N r' n (tk_N r' n s))
    · simp only [mo_ite_t C, tq_k h C]
      by_cases E : tk_num r' n 999 (tk_N r' n (tk_N r' n (tk_N r' n (tk_N r' n s))))
      · simp only [mo_ite_t E, tq_k h E]
      · simp only [mo_ite_f E]
    · simp only [mo_ite_f C]
  · simp only [mo_ite_f A]
theorem tq_tst {r r' : Nat → Int32} {n : Nat} (h : tq r r' n) (s : Nat) : tk_tst r n s = tk_tst r' n s := by
  unfold tk_tst
  simp only [tq_N h, tq_any h, tq_lt h, tq_is h, tq_gt h, tq_ver h]
theorem tq_ps {r r' : Nat → Int32} {n : Nat} (h : tq r r' n) (s k : Nat) : tk_ps r n s k = tk_ps r' n s k := by
  unfold tk_ps
  refine fo_c (fun _ _ p => ?_)
  rw [tq_tst h, tq_N h]
theorem tq_or {r r' : Nat → Int32} {n : Nat} (h : tq r r' n) (p : Nat) : tk_or r n p = tk_or r' n p := by
  unfold tk_or
  rw [tq_tst h, tq_wor h]
theorem tq_an {r r' : Nat → Int32} {n : Nat} (h : tq r r' n) (p : Nat) : tk_an r n p = tk_an r' n p := by
  unfold tk_an
  rw [tq_tst h, tq_wan h]
theorem tq_tm {r r' : Nat → Int32} {n : Nat} (h : tq r r' n) (s k : Nat) : tk_tm r n s k = tk_tm r' n s k := by
  unfold tk_tm
  refine fo_c (fun i _ c => ?_)
  rw [tq_ps h, tq_or h]
theorem tq_go {r r' : Nat → Int32} {n : Nat} (h : tq r r' n) (s k : Nat) : tk_go r n s k = tk_go r' n s k := by
  unfold tk_go
  rw [tq_ps h, tq_tst h, tq_or h, tq_an h]
theorem tq_J {r r' : Nat → Int32} {n : Nat} (h : tq r r' n) (s : Nat) : tk_J r n s = tk_J r' n s := by
  unfold tk_J
  rw [show tk_go r n s = tk_go r' n s from funext (fun k => tq_go h s k)]
theorem tq_hj {r r' : Nat → Int32} {n : Nat} (h : tq r r' n) (s j : Nat) (v : Int32) : tk_hj r n s j v = tk_hj r' n s j v := by
  unfold tk_hj
  rw [tq_ps h, tq_tst h]
theorem tq_fl {r r' : Nat → Int32} {n : Nat} (h : tq r r' n) (s : Nat) : tk_fl r n s = tk_fl r' n s := by
  unfold tk_fl
  simp only [tq_J h, tq_ps h, tq_tst h, tq_kn h]
theorem tq_s0 {r r' : Nat → Int32} {n : Nat} (h : tq r r' n) : tk_s0 r n = tk_s0 r' n := tq_tS h 0
theorem tq_rd {r r' : Nat → Int32} {n : Nat} (h : tq r r' n) (a : Int) : tk_rd r n a = tk_rd r' n a := by
  unfold tk_rd
  simp only [tq_s0 h, tq_bad h, tq_N h, tq_num h, tq_fl h]
set_option maxRecDepth 100000 in
theorem tq_b : ∀ b : Nat, b < 256 → nI b = (nI b).toInt8.toInt32 ∨ (¬ ((0 : Int32) ≤ nI b ∧ nI b ≤ 127) ∧ ¬ ((0 : Int32) ≤ (nI b).toInt8.toInt32 ∧ (nI b).toInt8.toInt32 ≤ 127)) := by decide +kernel
theorem iv_tq {σ : mo_M} {T : Nat} (h : iv_T σ T) : tq (σ.1 31 0) (σ.1 72 0) T := by
  intro j hj
  obtain ⟨b, hb, e1, e2⟩ := h.2.2.2 j hj
  rw [e1, e2]
  exact tq_b b hb
