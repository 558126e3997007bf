/-! THE LAW, from its entry -/
set_option maxRecDepth 100000 in
set_option maxHeartbeats 8000000 in
theorem whole_start {p : Program} {e : Env} {s : State} {m : MethodId} {below : List Frame} {meth : Method} {c : Code} (l : Launch) {b L : Nat} {xs : Nat → Int32} (hL : L ≤ 3072) (C0 : lw_At p s m meth c b L xs) : W p l e room_1 s m #[Value.ref b] below meth c s.heap [] 0 0 (lw_Z below #[Value.ref b] s) (entryFrame m ([Value.ref b] : List Value).toArray 4) := by
  obtain ⟨hx, hb, hr, hml, hown, hts, hX, hbl, hlocks, hgv⟩ := id C0
  have hown : s.vm.findClass RL = some m.cls := hown
  have hw : ∀ w ∈ mo_gw, w.before #[Value.ref b] s = true := fun w h => hts w (mo_gw_in h)
  have hA : ∀ q : Nat, s.heap.size ≤ q → (fun q : Nat => s.heap.size ≤ q) q := fun _ h => h
  have hA' : ∀ a : Nat, a < s.heap.size → ¬ (fun q : Nat => s.heap.size ≤ q) a := fun a h => Nat.not_le.mpr h
  obtain ⟨D, cA, hK⟩ := st_K hw
  obtain ⟨vs, ak, hxt⟩ := st_out (A := fun q : Nat => s.heap.size ≤ q) hts hgv hX hA'
  have hAO : va_AO RX9 s := va_AO.of (hts (.arrayOver (.object RX9)) (by decide +kernel))
  have onT : ∀ w ∈ ml_nw, w.onTables = true := by decide +kernel
  have onT2 : ∀ w ∈ mo_nw, w.onTables = true := by decide +kernel
  have hN : ∀ w ∈ ml_nw, va_Nw w s := fun w h => va_Nw.of (onT w h) (hts w (by
    have : ∀ w ∈ ml_nw, w ∈ lw_tbl := by decide +kernel
    exact this w h))
  have hN2 : ∀ w ∈ mo_nw, va_Nw w s := fun w h => va_Nw.of (onT2 w h) (hts w (by
    have : ∀ w ∈ mo_nw, w ∈ lw_tbl := by decide +kernel
    exact this w h))
  have hS : va_S (fun q : Nat => s.heap.size ≤ q) s.heap s.heap [] := va_S.rf
  have hP : va_P D vwCl [] s.heap := fun k q h => by simp at h
  have hD : va_D (fun q : Nat => s.heap.size ≤ q) [] := ⟨fun i j p q h => by simp at h, fun k q h => by simp at h⟩
  have hl := lv_entry ([.ref b]) (n := 4) (Nat.le_of_ble_eq_true rfl)
  rw [lg_entry_eq]
  generalize (lg_sl ([.ref b]) ++ List.replicate (4 - (lg_sl ([.ref b])).length) Slot.unset).toArray = ls at hl ⊢
  have hl : lv_has ls 4 [(0, .ref b)] := hl
  refine va_new (ci := 11) (fs := f0_X11) (C := RX11) (T := TX11) (N := 15) hx hb hw mk_clX11.2.1 tyX11 mk_clX11.2.2.1 hown (hw (.classLink RL 7 RX11) (mo_gB_of (by decide +kernel))) (hw (.instantiable RX11 15) (mo_gB_of (by decide +kernel))) (hw (.initialized RX11) (mo_gB_of (by decide +kernel))) hK hP hD hS hA mk_clX11.1 ml_d111 (Nat.le_of_ble_eq_true rfl) (Nat.le_of_ble_eq_true rfl) (by decide +kernel : decode code 0 = .ok (.new 7, 3)) (fun q0 H hP hD hS => ?_)
  refine lv_dup hx hb (by decide +kernel : decode code 3 = .ok (.dup, 1)) rfl ?_
  have hFc := mk_free (wc := [(q0, .inr (11, f0_X11))]) hD hS hA
  have hPc := mk_sufP (wc := [(q0, .inr (11, f0_X11))]) hP
  have hDc := mk_sufD (wc := [(q0, .inr (11, f0_X11))]) hD
  refine va_callv (va_runI (As := []) (rest := [.ref q0]) (Ts := mo_gw) ⟨hx, hb, hml, hown, hw⟩ (ci_X11 l D cA q0 H.size) (cwI 0 hw (mo_gi (fun w h => by rcases List.mem_cons.mp h with rfl | h; (· exact mo_gB_of (by decide +kernel)); exact h)) rfl rfl rfl (hw (.initialized RX11) (mo_gB_of (by decide +kernel))) (hw (.methodLink RL 9 yX11_init) (mo_gB_of (by decide +kernel))) (hw (.instanceMethod yX11_init) (mo_gB_of (by decide +kernel))) rfl (by decide +kernel) ⟨Nat.le_of_ble_eq_true rfl, Nat.le_of_ble_eq_true rfl⟩) ⟨mk_blind _ _ _ _ _ (fun U fr mk a h => ⟨va_AO.moved (u := U) (U := U.calling fr mk a) (Vm.Alike.refl U.vm) h.1, fun w hw => va_Nw.same (onT w hw) (u := U) (U := U.calling fr mk a) rfl (h.2 w hw)⟩), fun U hU hW => ⟨rfl, by rw [hU], by rw [hU]; exact hPc, va_K.moved hW.alike hK, hDc.weaken (fun _ _ _ _ => trivial), va_AO.moved hW.alike hAO, fun w hw => ?_⟩⟩ rfl rfl hl.1 rfl (lv_room (Nat.le_of_ble_eq_true rfl)) (by decide +kernel : decode code 4 = .ok (.invokespecial 9, 3)) ⟨Nat.le_of_ble_eq_true rfl, Nat.le_of_ble_eq_true rfl⟩) hS (fun q _ h => hFc q h) hFc (fun w1 t1 H2 locs2 ht hvm _ hB hz1 hk1 hS => ?_)
  · have hz := hN w hw
    simp only [ml_nw, List.mem_cons, List.not_mem_nil, or_false] at hw
    rcases hw with rfl | rfl | rfl | rfl | rfl | rfl | rfl | rfl | rfl | rfl <;> exact va_Nw.warmM hW hz
  obtain ⟨⟨cW, adC, had, hKW, rfl⟩, hPw, hDw⟩ := hB
  rw [ht] at hPw
  have hKW := va_K.moved hvm.symm hKW
  obtain ⟨hPx, hDx⟩ := mk_join hP hD hk1 hFc hPw hDw
  clear hP hD hPc hDc hFc hPw hDw hk1 hz1
  subst had
  refine lv_astore_n (lv' := [(1, .ref (adC 0 0)), (0, .ref b)]) hx hb (by decide +kernel : decode code 7 = .ok (.astore_n 1, 1)) rfl hl (by decide) rfl (fun ls hl => ?_)
  refine va_new (ci := 12) (fs := f0_X12) (C := RX12) (T := TX12) (N := 48) hx hb hw mk_clX12.2.1 tyX12 mk_clX12.2.2.1 hown (hw (.classLink RL 10 RX12) (mo_gB_of (by decide +kernel))) (hw (.instantiable RX12 48) (mo_gB_of (by decide +kernel))) (hw (.initialized RX12) (mo_gB_of (by decide +kernel))) hK hPx hDx hS hA mk_clX12.1 ml_d112 (Nat.le_of_ble_eq_true rfl) (Nat.le_of_ble_eq_true rfl) (by decide +kernel : decode code 8 = .ok (.new 10, 3)) (fun qm H3 hP hD hS => ?_)
  refine lv_dup hx hb (by decide +kernel : decode code 11 = .ok (.dup, 1)) rfl ?_
  have hFc := mk_free (wc := [(qm, .inr (12, f0_X12))]) hD hS hA
  have hPc := mk_sufP (wc := [(qm, .inr (12, f0_X12))]) hP
  have hDc := mk_sufD (wc := [(qm, .inr (12, f0_X12))]) hD
  refine va_callv (va_runI (As := []) (rest := [.ref qm]) (Ts := mo_gw) ⟨hx, hb, hml, hown, hw⟩ (ci_X12 l D cA qm H3.size) (cwI 0 hw (mo_gi (fun w h => by rcases List.mem_cons.mp h with rfl | h; (· exact mo_gB_of (by decide +kernel)); exact h)) rfl rfl rfl (hw (.initialized RX12) (mo_gB_of (by decide +kernel))) (hw (.methodLink RL 12 yX12_init) (mo_gB_of (by decide +kernel))) (hw (.instanceMethod yX12_init) (mo_gB_of (by decide +kernel))) rfl (by decide +kernel) ⟨Nat.le_of_ble_eq_true rfl, Nat.le_of_ble_eq_true rfl⟩) ⟨mk_blind _ _ _ _ _ (fun _ _ _ _ h => h), fun U hU hW => ⟨rfl, by rw [hU], by rw [hU]; exact hPc, va_K.moved hW.alike hK, hDc.weaken (fun _ _ _ _ => trivial), trivial⟩⟩ rfl rfl hl.1 rfl (lv_room (Nat.le_of_ble_eq_true rfl)) (by decide +kernel : decode code 12 = .ok (.invokespecial 12, 3)) ⟨Nat.le_of_ble_eq_true rfl, Nat.le_of_ble_eq_true rfl⟩) hS (fun q _ h => hFc q h) hFc (fun w2 t2 H4 locs4 ht2 hvm2 _ hB hz1 hk1 hS => ?_)
  obtain ⟨⟨r, rfl⟩, hPw, hDw⟩ := hB
  rw [ht2] at hPw
  obtain ⟨hP, hD⟩ := mk_join hP hD hk1 hFc hPw hDw
  refine lv_astore_n (lv' := [(2, .ref qm), (1, .ref (adC 0 0)), (0, .ref b)]) hx hb (by decide +kernel : decode code 15 = .ok (.astore_n 2, 1)) rfl hl (by decide) rfl (fun ls hl => ?_)
  have hwd := st_wd (D := D) (cA := cA) (cW := cW) (adC := adC) (qm := qm) (vs := vs) (b := b) (r := r) (ak := ak)
  have hP : va_P D vwCl (kl_a.map (mk_ce (ml_cA cA cW) (st_ad adC qm r vs b ak))) H4 := by rw [← hwd]; exact hP
  have hD : va_D (fun q : Nat => s.heap.size ≤ q) (kl_a.map (mk_ce (ml_cA cA cW) (st_ad adC qm r vs b ak))) := by rw [← hwd]; exact hD
  obtain ⟨pP, pI, pA⟩ := st_pic (L, xs) hP hD
  have hok : mo_ok (D, ml_cA cA cW, st_ad adC qm r vs b ak, (fun q : Nat => s.heap.size ≤ q), (L, xs)) s := ⟨hKW, pI, pA, hN2, hxt D (ml_cA cA cW) (st_ad adC qm r vs b ak) rfl rfl (fun i hi => by rcases (by omega : i = 0 ∨ i = 1 ∨ i = 2 ∨ i = 3) with rfl | rfl | rfl | rfl <;> rfl)⟩
  have hgo := lw_begin (D, ml_cA cA cW, st_ad adC qm r vs b ak, (fun q : Nat => s.heap.size ≤ q), (L, xs)) lw_QQ ini_s none (lw_loop (D, ml_cA cA cW, st_ad adC qm r vs b ak, (fun q : Nat => s.heap.size ≤ q), (L, xs)) hL 513 0 (by omega) (by omega) ini_s iv_ini)
  refine hgo p l e s m #[Value.ref b] below meth c _ _ (lw_Z below #[Value.ref b] s) ⟨hx, hb, hml, hown, hw, hok, ⟨Nat.le_of_ble_eq_true rfl, Nat.le_of_ble_eq_true rfl⟩, fun r' σ H5 locs5 ls5 pc hq hro hdg hP5 hS5 => ?_⟩ H4 locs4 ls pP hS (lv_sub hl [2, 1, 0] rfl)
  have hq : r' = some (.inl (1 : Int32)) := hq
  subst hq
  exact va_forget (fun q hq => hS5.2.2 q hq) (W.widen (k := 600000) (n := 7302250) (Nat.le_of_ble_eq_true rfl) (Nat.le_of_ble_eq_true rfl) (lw_ret hx hb hr hlocks hdg))
