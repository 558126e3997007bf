/-! the constructor of MadeOf: the loop that makes the warnings -/
def mk_w3 (cA : Nat → ClassId) (aw lo hi : Nat → Nat) (w : Nat) : va_W := [(aw w, .inr (9, [.ref (lo w), .ref (hi w), .int 0, .int 0, .int 0])), (lo w, .inl (cA 1, 30, .inl (fun _ => 0))), (hi w, .inl (cA 1, 30, .inl (fun _ => 0)))]
def ml_wt (cA : Nat → ClassId) (aw lo hi : Nat → Nat) : Nat → va_W
  | 0 => []
  | i + 1 => ml_wt cA aw lo hi i ++ mk_w3 cA aw lo hi i
theorem ml_wt_c (cA : Nat → ClassId) {aw lo hi aw' lo' hi' : Nat → Nat} : ∀ i, (∀ w, w < i → aw w = aw' w ∧ lo w = lo' w ∧ hi w = hi' w) → ml_wt cA aw lo hi i = ml_wt cA aw' lo' hi' i
  | 0, _ => rfl
  | i + 1, h => by
    obtain ⟨h1, h2, h3⟩ := h i (by omega)
    show ml_wt cA aw lo hi i ++ mk_w3 cA aw lo hi i = ml_wt cA aw' lo' hi' i ++ mk_w3 cA aw' lo' hi' i
    rw [ml_wt_c cA i (fun w hw => h w (by omega))]
    unfold mk_w3
    rw [h1, h2, h3]
theorem ml_d0 : ∀ j, j < 5 → defaultValue (tyX9 j) = vp_V f0_X9 j := by
  intro j hj
  rcases (by omega : j = 0 ∨ j = 1 ∨ j = 2 ∨ j = 3 ∨ j = 4) with rfl | rfl | rfl | rfl | rfl <;> rfl
section MLL
variable {p : Program} {l : Launch} {e : Env} {R : Room} {s : State} {m : MethodId} {args : Array Value} {below : List Frame} {meth : Method} {c : Code} {Q : State → Prop} {D : va_G} {cA : Nat → ClassId} {A : Nat → Prop}
set_option maxHeartbeats 4000000 in
theorem ml_loop (C : mk_cx RX11 cX11_init 2 D cA A p s m args meth c) (hnest : va_Nw (.methodLinkNest RX11 100 yX9_init RX11) s) {cW : ClassId} {qW h0 : Nat} (hKW : va_K D vwCl (mk_ty cA ++ [(cW, .object RX9)]) s) {bs : (Nat → Option Nat) → va_W} {fs : List Value} (hb0 : ∀ f, (bs f)[0]? = some (h0, .inr (11, fs))) (hfs9 : fs[9]? = some (.ref qW)) (hb33 : ∀ f, (bs f)[33]? = some (qW, .inl (cW, 20, .inr (.inr (.inr (.inr f)))))) (hset : ∀ f f', (bs f).set 33 (qW, .inl (cW, 20, .inr (.inr (.inr (.inr f'))))) = bs f') (hRf : 2 ≤ R.frames) (hRl : 32 ≤ R.locals) (hRc : 98 ≤ R.cells) (hRs : 3690 ≤ R.slots)
    (hend : ∀ (f : Nat → Option Nat) (aw lo hi : Nat → Nat) (H1 : Heap) (locs1 : List Loc) (ls : Array Slot), (∀ w, w < 20 → f w = some (aw w)) → va_P D vwCl (bs f ++ ml_wt cA aw lo hi 20) H1 → va_D A (bs f ++ ml_wt cA aw lo hi 20) → va_S A s.heap H1 locs1 → W p l e R s m args below meth c H1 locs1 98 3690 Q (F0 m 180 ls [])) :
    ∀ (d i : Nat) (f : Nat → Option Nat) (aw lo hi : Nat → Nat) (H : Heap) (locs : List Loc) (ls : Array Slot), i + d = 20 → (∀ w, w < i → f w = some (aw w)) → va_P D vwCl (bs f ++ ml_wt cA aw lo hi i) H → va_D A (bs f ++ ml_wt cA aw lo hi i) → va_S A s.heap H locs → lv_has ls 2 [(1, .int (nI i)), (0, .ref h0)] → W p l e R s m args below meth c H locs (38 + 3 * i) (2390 + 65 * i) Q (F0 m 155 ls [])
  | 0, i, f, aw, lo, hi, H, locs, ls, hd, hf, hP, hD, hS, hl => by
    obtain ⟨hx, hb, hml, hown, hw, hin, hK, hA⟩ := id C
    have e : i = 20 := by omega
    subst e
    refine lv_iload_n hx hb (by decide +kernel : decode cX11_init 155 = .ok (.iload_n 1, 1)) rfl (lv_at hl 0 rfl) ?_
    refine lv_bipush (v := nI 20) hx hb (by decide +kernel : decode cX11_init 156 = .ok (.bipush 20, 2)) (by decide) ?_
    refine lv_icmp_ge (tgt := 180) hx hb (by decide +kernel : decode cX11_init 158 = .ok (.if_icmp .ge 22, 3)) (by decide) (fun _ => ?_) (fun q => absurd (nI_le (Nat.le_refl 20) (by omega)) q)
    exact hend f aw lo hi H locs ls hf hP hD hS
  | d + 1, i, f, aw, lo, hi, H, locs, ls, hd, hf, hP, hD, hS, hl => by
    obtain ⟨hx, hb, hml, hown, hw, hin, hK, hA⟩ := id C
    obtain ⟨b1, b2, b3, b4⟩ := mk_clX11
    obtain ⟨c1, c2, c3, c4⟩ := mk_clX9
    have l0 : 0 < (bs f).length := (List.getElem?_eq_some_iff.mp (hb0 f)).1
    have l33 : 33 < (bs f).length := (List.getElem?_eq_some_iff.mp (hb33 f)).1
    refine lv_iload_n hx hb (by decide +kernel : decode cX11_init 155 = .ok (.iload_n 1, 1)) rfl (lv_at hl 0 rfl) ?_
    refine lv_bipush (v := nI 20) hx hb (by decide +kernel : decode cX11_init 156 = .ok (.bipush 20, 2)) (by decide) ?_
    refine lv_icmp_ge (tgt := 180) hx hb (by decide +kernel : decode cX11_init 158 = .ok (.if_icmp .ge 22, 3)) (by decide) (fun q => absurd q (nI_ge (by omega) (by omega))) (fun _ => ?_)
    refine lv_aload_n hx hb (by decide +kernel : decode cX11_init 161 = .ok (.aload_n 0, 1)) rfl (lv_at hl 1 rfl) ?_
    refine va_get (D := D) (ci := 11) (v := .ref qW) (C := RX11) (T := TX11) (N := 15) (ref := RX11) hx hb hw b2 hown hK hP 0 (by rw [List.getElem?_append_left l0]; exact hb0 f) b1 9 (by decide) (hw (.fieldLink RX11 72 RX11 (TX11 9).2.1 (TX11 9).2.2.1) (mo_gB_of (by decide +kernel))) (fun _ h => h) hfs9 (by decide +kernel : decode cX11_init 162 = .ok (.getfield 72, 3)) ?_
    refine lv_iload_n hx hb (by decide +kernel : decode cX11_init 165 = .ok (.iload_n 1, 1)) rfl (lv_at hl 0 rfl) ?_
    refine va_new (ci := 9) (fs := f0_X9) (C := RX9) (T := TX9) (N := 5) hx hb hw c2 tyX9 c3 hown (hw (.classLink RX11 70 RX9) (mo_gB_of (by decide +kernel))) (hw (.instantiable RX9 5) (mo_gB_of (by decide +kernel))) (hw (.initialized RX9) (mo_gB_of (by decide +kernel))) hK hP hD hS hA c1 ml_d0 (by omega) (by omega) (by decide +kernel : decode cX11_init 166 = .ok (.new 70, 3)) (fun q H1 hP1 hD1 hS1 => ?_)
    refine lv_dup hx hb (by decide +kernel : decode cX11_init 169 = .ok (.dup, 1)) rfl ?_
    have hFc := mk_free (wc := [(q, .inr (9, f0_X9))]) hD1 hS1 hA
    have hPc := mk_sufP (wc := [(q, .inr (9, f0_X9))]) hP1
    have hDc := mk_sufD (wc := [(q, .inr (9, f0_X9))]) hD1
    have hcw : va_CN R s args RX11 100 yX9_init RX11 cX9_init 1 none (.code yX9_init cX9_init 1 none :: mo_gw) ({ frames := 1, cells := mk_nc it_X9, slots := mk_ns it_X9, locals := 12 }) (mk_nc it_X9) (mk_ns it_X9) 0 := va_cnB 0 hw (mo_gi (fun w h => by rcases List.mem_cons.mp h with rfl | h; (· exact mo_gB_of (by decide +kernel)); exact h)) rfl rfl rfl hnest (hw (.initialized RX9) (mo_gB_of (by decide +kernel))) (by decide +kernel) ⟨hRf, hRl⟩
    have m1 : mk_nc it_X9 = 2 := rfl
    have m2 : mk_ns it_X9 = 60 := rfl
    refine va_callv (va_runIN (As := []) (rest := [.ref q, .int (nI i), .ref qW]) (Ts := mo_gw) ⟨hx, hb, hml, hown, hw⟩ (ci_X9 l D cA q H1.size) ⟨hcw, rfl, hw (.instanceMethod yX9_init) (mo_gB_of (by decide +kernel))⟩ ⟨mk_blind _ _ _ _ _ (fun _ _ _ _ h => h), fun U hU hW => ⟨rfl, by rw [hU], by rw [hU]; exact hPc, va_K.moved hW.alike hK, hDc.weaken (fun _ _ _ _ => trivial), trivial⟩⟩ rfl rfl hl.1 rfl (lv_room (Nat.le_of_ble_eq_true rfl)) (by decide +kernel : decode cX11_init 170 = .ok (.invokespecial 100, 3)) ⟨by omega, by omega⟩) hS1 (fun q _ h => hFc q h) hFc (fun w1 t H2 locs2 ht hvm _ hB hz1 hk1 hS2 => ?_)
    obtain ⟨⟨r, hZ⟩, hPw, hDw⟩ := hB
    rw [ht] at hPw
    obtain ⟨hP3, hD3⟩ := mk_join hP1 hD1 hk1 hFc hPw hDw
    have hw1 : w1 = [(q, .inr (9, [.ref (r 0), .ref (r 1), .int 0, .int 0, .int 0])), (r 0, .inl (cA 1, 30, .inl (fun _ => 0))), (r 1, .inl (cA 1, 30, .inl (fun _ => 0)))] := hZ
    subst hw1
    have hi20 : vp_in (nI i) 20 := mo_inN (by omega) (by decide)
    have hcl : (nI i).toNatClampNeg = i := mo_cl (by omega)
    refine va_astq (r := (RX9, TX9, 5)) hx hb hKW hP3 hD3 hS2 33 4 (bs f ++ ml_wt cA aw lo hi i).length 9 (by rw [List.append_assoc, List.getElem?_append_left l33]; exact hb33 f) rfl (by rw [List.getElem?_append_right (Nat.le_refl _), Nat.sub_self]; rfl) c1 hi20 (by decide +kernel : decode cX11_init 173 = .ok (.aastore, 1)) (fun H4 locs4 hP4 hD4 hS4 => ?_)
    have hse : ((bs f ++ ml_wt cA aw lo hi i) ++ ([(q, .inr (9, [.ref (r 0), .ref (r 1), .int 0, .int 0, .int 0])), (r 0, .inl (cA 1, 30, .inl (fun _ => 0))), (r 1, .inl (cA 1, 30, .inl (fun _ => 0)))] : va_W)).set 33 (qW, .inl (cW, 20, .inr (.inr (.inr (.inr (va_up f (nI i).toNatClampNeg (some q))))))) = bs (va_up f (nI i).toNatClampNeg (some q)) ++ ml_wt cA (fun w => if w = i then q else aw w) (fun w => if w = i then r 0 else lo w) (fun w => if w = i then r 1 else hi w) (i + 1) := by
      rw [List.append_assoc, List.set_append_left _ _ l33, hset]
      congr 1
      show _ = ml_wt cA _ _ _ i ++ mk_w3 cA _ _ _ i
      rw [ml_wt_c cA (aw' := aw) (lo' := lo) (hi' := hi) i (fun w hw => ⟨if_neg (by omega), if_neg (by omega), if_neg (by omega)⟩)]
      unfold mk_w3
      simp only [if_pos]
    rw [hse] at hP4 hD4
    refine lv_iinc (v := nI (i + 1)) (lv' := [(1, .int (nI (i + 1))), (0, .ref h0)]) hx hb (by decide +kernel : decode cX11_init 174 = .ok (.iinc 1 1, 3)) hl (k := 0) rfl (nI_1 i) (by decide) rfl (fun ls' hl' => ?_)
    refine lv_goto (tgt := 155) hx hb (by decide +kernel : decode cX11_init 177 = .ok (.goto (-22), 3)) (by decide) ?_
    refine W.widen (k := 38 + 3 * (i + 1)) (n := 2390 + 65 * (i + 1)) (by omega) (by omega) ?_
    refine ml_loop C hnest hKW hb0 hfs9 hb33 hset hRf hRl hRc hRs hend d (i + 1) _ _ _ _ H4 locs4 ls' (by omega) (fun w hw => ?_) hP4 hD4 hS4 hl'
    rw [hcl]
    by_cases e : w = i
    · subst e; rw [va_up_self, if_pos rfl]
    · rw [va_up_ne _ _ e, if_neg e]; exact hf w (by omega)
end MLL
