/-! the picture out of the two objects' worlds -/
theorem iv_ini : iv ini_s := ⟨0, 0, 0, 0, 0, 0, 0, 0, ⟨rfl, rfl, by omega, fun i h => absurd h (by omega)⟩, ⟨rfl, rfl, by omega, fun i h => absurd h (by omega)⟩, ⟨rfl, rfl, by omega, fun i h => absurd h (by omega)⟩, ⟨rfl, rfl, by omega, fun i h => absurd h (by omega)⟩, ⟨rfl, rfl, by omega, fun i h => absurd h (by omega), fun _ _ => rfl⟩, ⟨rfl, rfl, by omega, fun i h => absurd h (by omega), fun _ _ => rfl⟩, ⟨rfl, rfl, by omega, fun i h => absurd h (by omega)⟩, ⟨rfl, rfl, by omega, fun i h => absurd h (by omega), fun _ _ _ => rfl⟩, rfl, rfl⟩
def kl_m : List (Nat × Nat) := [(50, 0), (51, 0), (52, 0), (53, 0), (54, 0), (55, 0), (56, 0), (57, 0), (58, 0), (59, 0), (60, 0), (61, 0), (62, 0), (63, 0), (64, 0), (65, 0), (66, 0), (67, 0), (68, 0), (69, 0), (70, 0), (71, 0), (72, 0), (73, 0), (74, 0), (75, 0), (76, 0), (77, 0), (78, 0), (79, 0), (80, 0), (81, 0)]
def kl_a : List (Nat × Nat) := (kl_0 ++ kl_w 20) ++ kl_m
theorem kl_in : ∀ q ∈ mo_ps, q ∈ kl_a := by decide +kernel
theorem kl_C : ∀ q ∈ kl_0 ++ kl_w 20, q.1 < 50 := by decide +kernel
theorem mo_as_lt : ∀ (l : List (Nat × Nat)) (k b : Nat), l.all (fun x => Nat.blt x.2 50) = true → mo_as l k = some b → b < 50
  | [], _, _, _, h => by cases h
  | (x, y) :: r, k, b, hl, h => by
    rw [List.all_cons, Bool.and_eq_true] at hl
    rw [mo_as] at h
    cases hq : Nat.beq x k with
    | true => rw [hq] at h; cases h; exact Nat.le_of_ble_eq_true hl.1
    | false => rw [hq] at h; exact mo_as_lt r k b hl.2 h
theorem mo_rf_ok : ∀ o, o < 50 → (match mo_at mo_lay o with | some (_, _, _, l) => l.all (fun x => Nat.blt x.2 50) | none => true) = true := by decide +kernel
theorem mo_rf_lt {o : Nat} (ho : o < 50) (k : Nat) : mo_rf o k < 50 := by
  have h := mo_rf_ok o ho
  unfold mo_rf
  cases he : mo_at mo_lay o with
  | none => exact Nat.zero_lt_succ _
  | some x =>
    obtain ⟨a, b, c, l⟩ := x
    rw [he] at h
    dsimp only at h ⊢
    cases hm : mo_as l k with
    | none => exact Nat.zero_lt_succ _
    | some y => exact mo_as_lt l k y h hm
theorem mo_cell_c {cA : Nat → ClassId} {ad ad' : Nat → Nat → Nat} (σ : mo_M) {o w : Nat} (ho : o < 50) (h : ∀ o' w', o' < 50 → ad o' w' = ad' o' w') : mo_cell cA ad σ o w = mo_cell cA ad' σ o w := by
  have h1 : ∀ ci, mo_fv ad σ o w ci = mo_fv ad' σ o w ci := fun ci => by
    funext k
    unfold mo_fv
    rw [h _ w (mo_rf_lt ho k)]
  have h2 : (fun k => some (ad (mo_rf o 0) k)) = (fun k => some (ad' (mo_rf o 0) k)) := by
    funext k
    rw [h _ k (mo_rf_lt ho 0)]
  unfold mo_cell
  simp only [h1, h2]
/-- addresses of both sides, and of what is only read -/
def st_ad (adC : Nat → Nat → Nat) (qm : Nat) (r : Nat → Nat) (vs b : Nat) (ak : Nat → Nat) (o w : Nat) : Nat := if o < 50 then adC o w else if o = 50 then qm else if o < 82 then r (o - 51) else if o = 90 then vs else if o = 95 then b else ak (o - 91)
set_option maxRecDepth 100000 in
set_option maxHeartbeats 8000000 in
theorem st_f12 (r : Nat → Nat) : mk_fs it_X12 r 0 f0_X12 = [.int 0, .int 0, .int 0, .ref (r 0), .ref (r 1), .ref (r 2), .int 0, .ref (r 3), .ref (r 4), .ref (r 5), .ref (r 6), .ref (r 7), .int 0, .ref (r 8), .ref (r 9), .ref (r 10), .ref (r 11), .ref (r 12), .int 0, .int 0, .ref (r 13), .ref (r 14), .ref (r 15), .ref (r 16), .ref (r 17), .ref (r 18), .ref (r 19), .ref (r 20), .int 0, .ref (r 21), .int 0, .int 0, .int 0, .int 0, .int (Int32.ofInt (-1)), .int 0, .int 0, .ref (r 22), .ref (r 23), .ref (r 24), .ref (r 25), .ref (r 26), .ref (r 27), .int 0, .int 0, .ref (r 28), .ref (r 29), .ref (r 30)] := by
  unfold it_X12
  simp only [mk_fs, List.set_cons_zero, List.set_cons_succ]
set_option maxRecDepth 100000 in
set_option maxHeartbeats 8000000 in
theorem st_w12 (cA : Nat → ClassId) (r : Nat → Nat) : mk_ws cA it_X12 r 0 = [(r 0, .inl (cA 1, 30, .inl (fun _ => 0))), (r 1, .inl (cA 1, 60, .inl (fun _ => 0))), (r 2, .inl (cA 1, 60, .inl (fun _ => 0))), (r 3, .inl (cA 1, 200, .inl (fun _ => 0))), (r 4, .inl (cA 1, 200, .inl (fun _ => 0))), (r 5, .inl (cA 1, 200, .inl (fun _ => 0))), (r 6, .inl (cA 1, 200, .inl (fun _ => 0))), (r 7, .inl (cA 1, 200, .inl (fun _ => 0))), (r 8, .inl (cA 1, 100, .inl (fun _ => 0))), (r 9, .inl (cA 1, 100, .inl (fun _ => 0))), (r 10, .inl (cA 1, 100, .inl (fun _ => 0))), (r 11, .inl (cA 1, 100, .inl (fun _ => 0))), (r 12, .inl (cA 1, 100, .inl (fun _ => 0))), (r 13, .inl (cA 1, 40, .inl (fun _ => 0))), (r 14, .inl (cA 1, 40, .inl (fun _ => 0))), (r 15, .inl (cA 1, 40, .inl (fun _ => 0))), (r 16, .inl (cA 3, 40, .inl (fun _ => 0))), (r 17, .inl (cA 1, 40, .inl (fun _ => 0))), (r 18, .inl (cA 1, 40, .inl (fun _ => 0))), (r 19, .inl (cA 1, 40, .inl (fun _ => 0))), (r 20, .inl (cA 1, 30, .inl (fun _ => 0))), (r 21, .inl (cA 4, 200, .inl (fun _ => 0))), (r 22, .inl (cA 1, 20, .inl (fun _ => 0))), (r 23, .inl (cA 1, 20, .inl (fun _ => 0))), (r 24, .inl (cA 1, 600, .inl (fun _ => 0))), (r 25, .inl (cA 1, 600, .inl (fun _ => 0))), (r 26, .inl (cA 1, 600, .inl (fun _ => 0))), (r 27, .inl (cA 1, 20, .inl (fun _ => 0))), (r 28, .inl (cA 1, 5, .inl (fun _ => 0))), (r 29, .inl (cA 1, 60, .inl (fun _ => 0))), (r 30, .inl (cA 1, 60, .inl (fun _ => 0)))] := rfl
set_option maxRecDepth 100000 in
set_option maxHeartbeats 8000000 in
theorem st_e50 {cA : Nat → ClassId} {cW : ClassId} {adC : Nat → Nat → Nat} {qm vs b : Nat} {r ak : Nat → Nat} : mk_ce (ml_cA cA cW) (st_ad adC qm r vs b ak) (50, 0) = (qm, .inr (12, [.int 0, .int 0, .int 0, .ref (r 0), .ref (r 1), .ref (r 2), .int 0, .ref (r 3), .ref (r 4), .ref (r 5), .ref (r 6), .ref (r 7), .int 0, .ref (r 8), .ref (r 9), .ref (r 10), .ref (r 11), .ref (r 12), .int 0, .int 0, .ref (r 13), .ref (r 14), .ref (r 15), .ref (r 16), .ref (r 17), .ref (r 18), .ref (r 19), .ref (r 20), .int 0, .ref (r 21), .int 0, .int 0, .int 0, .int 0, .int (Int32.ofInt (-1)), .int 0, .int 0, .ref (r 22), .ref (r 23), .ref (r 24), .ref (r 25), .ref (r 26), .ref (r 27), .int 0, .int 0, .ref (r 28), .ref (r 29), .ref (r 30)])) := rfl
theorem st_e51 {cA : Nat → ClassId} {cW : ClassId} {adC : Nat → Nat → Nat} {qm vs b : Nat} {r ak : Nat → Nat} : mk_ce (ml_cA cA cW) (st_ad adC qm r vs b ak) (51, 0) = (r 0, .inl (cA 1, 30, .inl (fun _ => 0))) := rfl
theorem st_e52 {cA : Nat → ClassId} {cW : ClassId} {adC : Nat → Nat → Nat} {qm vs b : Nat} {r ak : Nat → Nat} : mk_ce (ml_cA cA cW) (st_ad adC qm r vs b ak) (52, 0) = (r 1, .inl (cA 1, 60, .inl (fun _ => 0))) := rfl
theorem st_e53 {cA : Nat → ClassId} {cW : ClassId} {adC : Nat → Nat → Nat} {qm vs b : Nat} {r ak : Nat → Nat} : mk_ce (ml_cA cA cW) (st_ad adC qm r vs b ak) (53, 0) = (r 2, .inl (cA 1, 60, .inl (fun _ => 0))) := rfl
theorem st_e54 {cA : Nat → ClassId} {cW : ClassId} {adC : Nat → Nat → Nat} {qm vs b : Nat} {r ak : Nat → Nat} : mk_ce (ml_cA cA cW) (st_ad adC qm r vs b ak) (54, 0) = (r 3, .inl (cA 1, 200, .inl (fun _ => 0))) := rfl
theorem st_e55 {cA : Nat → ClassId} {cW : ClassId} {adC : Nat → Nat → Nat} {qm vs b : Nat} {r ak : Nat → Nat} : mk_ce (ml_cA cA cW) (st_ad adC qm r vs b ak) (55, 0) = (r 4, .inl (cA 1, 200, .inl (fun _ => 0))) := rfl
theorem st_e56 {cA : Nat → ClassId} {cW : ClassId} {adC : Nat → Nat → Nat} {qm vs b : Nat} {r ak : Nat → Nat} : mk_ce (ml_cA cA cW) (st_ad adC qm r vs b ak) (56, 0) = (r 5, .inl (cA 1, 200, .inl (fun _ => 0))) := rfl
theorem st_e57 {cA : Nat → ClassId} {cW : ClassId} {adC : Nat → Nat → Nat} {qm vs b : Nat} {r ak : Nat → Nat} : mk_ce (ml_cA cA cW) (st_ad adC qm r vs b ak) (57, 0) = (r 6, .inl (cA 1, 200, .inl (fun _ => 0))) := rfl
theorem st_e58 {cA : Nat → ClassId} {cW : ClassId} {adC : Nat → Nat → Nat} {qm vs b : Nat} {r ak : Nat → Nat} : mk_ce (ml_cA cA cW) (st_ad adC qm r vs b ak) (58, 0) = (r 7, .inl (cA 1, 200, .inl (fun _ => 0))) := rfl
theorem st_e59 {cA : Nat → ClassId} {cW : ClassId} {adC : Nat → Nat → Nat} {qm vs b : Nat} {r ak : Nat → Nat} : mk_ce (ml_cA cA cW) (st_ad adC qm r vs b ak) (59, 0) = (r 8, .inl (cA 1, 100, .inl (fun _ => 0))) := rfl
theorem st_e60 {cA : Nat → ClassId} {cW : ClassId} {adC : Nat → Nat → Nat} {qm vs b : Nat} {r ak : Nat → Nat} : mk_ce (ml_cA cA cW) (st_ad adC qm r vs b ak) (60, 0) = (r 9, .inl (cA 1, 100, .inl (fun _ => 0))) := rfl
theorem st_e61 {cA : Nat → ClassId} {cW : ClassId} {adC : Nat → Nat → Nat} {qm vs b : Nat} {r ak : Nat → Nat} : mk_ce (ml_cA cA cW) (st_ad adC qm r vs b ak) (61, 0) = (r 10, .inl (cA 1, 100, .inl (fun _ => 0))) := rfl
theorem st_e62 {cA : Nat → ClassId} {cW : ClassId} {adC : Nat → Nat → Nat} {qm vs b : Nat} {r ak : Nat → Nat} : mk_ce (ml_cA cA cW) (st_ad adC qm r vs b ak) (62, 0) = (r 11, .inl (cA 1, 100, .inl (fun _ => 0))) := rfl
theorem st_e63 {cA : Nat → ClassId} {cW : ClassId} {adC : Nat → Nat → Nat} {qm vs b : Nat} {r ak : Nat → Nat} : mk_ce (ml_cA cA cW) (st_ad adC qm r vs b ak) (63, 0) = (r 12, .inl (cA 1, 100, .inl (fun _ => 0))) := rfl
theorem st_e64 {cA : Nat → ClassId} {cW : ClassId} {adC : Nat → Nat → Nat} {qm vs b : Nat} {r ak : Nat → Nat} : mk_ce (ml_cA cA cW) (st_ad adC qm r vs b ak) (64, 0) = (r 13, .inl (cA 1, 40, .inl (fun _ => 0))) := rfl
theorem st_e65 {cA : Nat → ClassId} {cW : ClassId} {adC : Nat → Nat → Nat} {qm vs b : Nat} {r ak : Nat → Nat} : mk_ce (ml_cA cA cW) (st_ad adC qm r vs b ak) (65, 0) = (r 14, .inl (cA 1, 40, .inl (fun _ => 0))) := rfl
theorem st_e66 {cA : Nat → ClassId} {cW : ClassId} {adC : Nat → Nat → Nat} {qm vs b : Nat} {r ak : Nat → Nat} : mk_ce (ml_cA cA cW) (st_ad adC qm r vs b ak) (66, 0) = (r 15, .inl (cA 1, 40, .inl (fun _ => 0))) := rfl
theorem st_e67 {cA : Nat → ClassId} {cW : ClassId} {adC : Nat → Nat → Nat} {qm vs b : Nat} {r ak : Nat → Nat} : mk_ce (ml_cA cA cW) (st_ad adC qm r vs b ak) (67, 0) = (r 16, .inl (cA 3, 40, .inl (fun _ => 0))) := rfl
theorem st_e68 {cA : Nat → ClassId} {cW : ClassId} {adC : Nat → Nat → Nat} {qm vs b : Nat} {r ak : Nat → Nat} : mk_ce (ml_cA cA cW) (st_ad adC qm r vs b ak) (68, 0) = (r 17, .inl (cA 1, 40, .inl (fun _ => 0))) := rfl
theorem st_e69 {cA : Nat → ClassId} {cW : ClassId} {adC : Nat → Nat → Nat} {qm vs b : Nat} {r ak : Nat → Nat} : mk_ce (ml_cA cA cW) (st_ad adC qm r vs b ak) (69, 0) = (r 18, .inl (cA 1, 40, .inl (fun _ => 0))) := rfl
theorem st_e70 {cA : Nat → ClassId} {cW : ClassId} {adC : Nat → Nat → Nat} {qm vs b : Nat} {r ak : Nat → Nat} : mk_ce (ml_cA cA cW) (st_ad adC qm r vs b ak) (70, 0) = (r 19, .inl (cA 1, 40, .inl (fun _ => 0))) := rfl
theorem st_e71 {cA : Nat → ClassId} {cW : ClassId} {adC : Nat → Nat → Nat} {qm vs b : Nat} {r ak : Nat → Nat} : mk_ce (ml_cA cA cW) (st_ad adC qm r vs b ak) (71, 0) = (r 20, .inl (cA 1, 30, .inl (fun _ => 0))) := rfl
theorem st_e72 {cA : Nat → ClassId} {cW : ClassId} {adC : Nat → Nat → Nat} {qm vs b : Nat} {r ak : Nat → Nat} : mk_ce (ml_cA cA cW) (st_ad adC qm r vs b ak) (72, 0) = (r 21, .inl (cA 4, 200, .inl (fun _ => 0))) := rfl
theorem st_e73 {cA : Nat → ClassId} {cW : ClassId} {adC : Nat → Nat → Nat} {qm vs b : Nat} {r ak : Nat → Nat} : mk_ce (ml_cA cA cW) (st_ad adC qm r vs b ak) (73, 0) = (r 22, .inl (cA 1, 20, .inl (fun _ => 0))) := rfl
theorem st_e74 {cA : Nat → ClassId} {cW : ClassId} {adC : Nat → Nat → Nat} {qm vs b : Nat} {r ak : Nat → Nat} : mk_ce (ml_cA cA cW) (st_ad adC qm r vs b ak) (74, 0) = (r 23, .inl (cA 1, 20, .inl (fun _ => 0))) := rfl
theorem st_e75 {cA : Nat → ClassId} {cW : ClassId} {adC : Nat → Nat → Nat} {qm vs b : Nat} {r ak : Nat → Nat} : mk_ce (ml_cA cA cW) (st_ad adC qm r vs b ak) (75, 0) = (r 24, .inl (cA 1, 600, .inl (fun _ => 0))) := rfl
theorem st_e76 {cA : Nat → ClassId} {cW : ClassId} {adC : Nat → Nat → Nat} {qm vs b : Nat} {r ak : Nat → Nat} : mk_ce (ml_cA cA cW) (st_ad adC qm r vs b ak) (76, 0) = (r 25, .inl (cA 1, 600, .inl (fun _ => 0))) := rfl
theorem st_e77 {cA : Nat → ClassId} {cW : ClassId} {adC : Nat → Nat → Nat} {qm vs b : Nat} {r ak : Nat → Nat} : mk_ce (ml_cA cA cW) (st_ad adC qm r vs b ak) (77, 0) = (r 26, .inl (cA 1, 600, .inl (fun _ => 0))) := rfl
theorem st_e78 {cA : Nat → ClassId} {cW : ClassId} {adC : Nat → Nat → Nat} {qm vs b : Nat} {r ak : Nat → Nat} : mk_ce (ml_cA cA cW) (st_ad adC qm r vs b ak) (78, 0) = (r 27, .inl (cA 1, 20, .inl (fun _ => 0))) := rfl
theorem st_e79 {cA : Nat → ClassId} {cW : ClassId} {adC : Nat → Nat → Nat} {qm vs b : Nat} {r ak : Nat → Nat} : mk_ce (ml_cA cA cW) (st_ad adC qm r vs b ak) (79, 0) = (r 28, .inl (cA 1, 5, .inl (fun _ => 0))) := rfl
theorem st_e80 {cA : Nat → ClassId} {cW : ClassId} {adC : Nat → Nat → Nat} {qm vs b : Nat} {r ak : Nat → Nat} : mk_ce (ml_cA cA cW) (st_ad adC qm r vs b ak) (80, 0) = (r 29, .inl (cA 1, 60, .inl (fun _ => 0))) := rfl
theorem st_e81 {cA : Nat → ClassId} {cW : ClassId} {adC : Nat → Nat → Nat} {qm vs b : Nat} {r ak : Nat → Nat} : mk_ce (ml_cA cA cW) (st_ad adC qm r vs b ak) (81, 0) = (r 30, .inl (cA 1, 60, .inl (fun _ => 0))) := rfl
theorem st_wd {D : va_G} {cA : Nat → ClassId} {cW : ClassId} {adC : Nat → Nat → Nat} {qm vs b : Nat} {r ak : Nat → Nat} : (kl_0 ++ kl_w 20).map (mk_ce (ml_cA cA cW) adC) ++ ((qm, .inr (12, mk_fs it_X12 r 0 f0_X12)) :: mk_ws cA it_X12 r 0) = kl_a.map (mk_ce (ml_cA cA cW) (st_ad adC qm r vs b ak)) := by
  unfold kl_a
  have e2 : ((kl_0 ++ kl_w 20) ++ kl_m).map (mk_ce (ml_cA cA cW) (st_ad adC qm r vs b ak)) = (kl_0 ++ kl_w 20).map (mk_ce (ml_cA cA cW) (st_ad adC qm r vs b ak)) ++ kl_m.map (mk_ce (ml_cA cA cW) (st_ad adC qm r vs b ak)) := List.map_append
  have e1 : (kl_0 ++ kl_w 20).map (mk_ce (ml_cA cA cW) adC) = (kl_0 ++ kl_w 20).map (mk_ce (ml_cA cA cW) (st_ad adC qm r vs b ak)) := by
    refine List.map_congr_left (fun q hq => ?_)
    have hq := kl_C q hq
    have ha : ∀ o' w', o' < 50 → adC o' w' = st_ad adC qm r vs b ak o' w' := fun o' w' h => by unfold st_ad; rw [if_pos h]
    unfold mk_ce
    rw [ha _ _ hq, mo_cell_c (cA := ml_cA cA cW) ini_s hq ha]
  have e3 : kl_m.map (mk_ce (ml_cA cA cW) (st_ad adC qm r vs b ak)) = (qm, .inr (12, mk_fs it_X12 r 0 f0_X12)) :: mk_ws cA it_X12 r 0 := by
    rw [st_f12, st_w12]
    unfold kl_m
    simp only [List.map_cons, List.map_nil, st_e50, st_e51, st_e52, st_e53, st_e54, st_e55, st_e56, st_e57, st_e58, st_e59, st_e60, st_e61, st_e62, st_e63, st_e64, st_e65, st_e66, st_e67, st_e68, st_e69, st_e70, st_e71, st_e72, st_e73, st_e74, st_e75, st_e76, st_e77, st_e78, st_e79, st_e80, st_e81]
  rw [e1, e2, e3]
theorem st_pic {D : va_G} {cA : Nat → ClassId} {ad : Nat → Nat → Nat} {A : Nat → Prop} {H : Heap} (ex : Nat × (Nat → Int32)) (hP : va_P D vwCl (kl_a.map (mk_ce cA ad)) H) (hD : va_D A (kl_a.map (mk_ce cA ad))) : va_P D vwCl (mo_wd (D, cA, ad, A, ex) ini_s) H ∧ (∀ q ∈ mo_ps, ∀ r ∈ mo_ps, ad q.1 q.2 = ad r.1 r.2 → q = r) ∧ ∀ q ∈ mo_ps, A (ad q.1 q.2) := by
  have ix : ∀ q ∈ mo_ps, ∃ i : Nat, kl_a[i]? = some q ∧ (kl_a.map (mk_ce cA ad))[i]? = some (mk_ce cA ad q) := fun q hq => by
    obtain ⟨i, hi⟩ := List.getElem?_of_mem (kl_in q hq)
    exact ⟨i, hi, by rw [List.getElem?_map, hi]; rfl⟩
  refine ⟨fun k x hx => ?_, fun q hq r hr e => ?_, fun q hq => ?_⟩
  · have hx : (mo_ps.map (mk_ce cA ad))[k]? = some x := hx
    rw [List.getElem?_map] at hx
    cases he : mo_ps[k]? with
    | none => rw [he] at hx; cases hx
    | some q =>
      rw [he] at hx
      cases hx
      obtain ⟨i, -, hi⟩ := ix q (List.mem_of_getElem? he)
      exact hP i _ hi
  · obtain ⟨i, hi1, hi2⟩ := ix q hq
    obtain ⟨j, hj1, hj2⟩ := ix r hr
    have e2 := hD.1 i j _ _ hi2 hj2 e
    subst e2
    exact Option.some.inj (hi1.symm.trans hj1)
  · obtain ⟨i, hi1, hi2⟩ := ix q hq
    exact hD.2 i _ hi2
theorem st_K {s : State} {args : Array Value} (hw : ∀ w ∈ mo_gw, w.before args s = true) : ∃ (D : va_G) (cA : Nat → ClassId), va_K D vwCl (mk_ty cA) s := by
  have h0 : ∀ k : Nat, ∃ x : ClassId × (Nat → Nat), ∀ q : vw_C, vwCl[k]? = some q → u_Kn s q.1 q.2.1 q.2.2 x.1 x.2 := by
    intro k
    by_cases hk : k < 13
    · rcases (by omega : k = 0 ∨ k = 1 ∨ k = 2 ∨ k = 3 ∨ k = 4 ∨ k = 5 ∨ k = 6 ∨ k = 7 ∨ k = 8 ∨ k = 9 ∨ k = 10 ∨ k = 11 ∨ k = 12) with rfl | rfl | rfl | rfl | rfl | rfl | rfl | rfl | rfl | rfl | rfl | rfl | rfl
      · obtain ⟨c, iS, h⟩ := u_known (C := RX0) (T := TX0) (N := 1) (n := 1) hw mk_clX0.2.1 (hw (.instantiable RX0 1) (mo_gB_of (by decide +kernel)))
        exact ⟨(c, iS), fun q hq => by cases hq; exact h⟩
      · obtain ⟨c, iS, h⟩ := u_known (C := RX1) (T := TX1) (N := 6) (n := 6) hw mk_clX1.2.1 (hw (.instantiable RX1 6) (mo_gB_of (by decide +kernel)))
        exact ⟨(c, iS), fun q hq => by cases hq; exact h⟩
      · obtain ⟨c, iS, h⟩ := u_known (C := RX2) (T := TX2) (N := 6) (n := 6) hw mk_clX2.2.1 (hw (.instantiable RX2 6) (mo_gB_of (by decide +kernel)))
        exact ⟨(c, iS), fun q hq => by cases hq; exact h⟩
      · obtain ⟨c, iS, h⟩ := u_known (C := RX3) (T := TX3) (N := 3) (n := 3) hw mk_clX3.2.1 (hw (.instantiable RX3 3) (mo_gB_of (by decide +kernel)))
        exact ⟨(c, iS), fun q hq => by cases hq; exact h⟩
      · obtain ⟨c, iS, h⟩ := u_known (C := RX4) (T := TX4) (N := 5) (n := 5) hw mk_clX4.2.1 (hw (.instantiable RX4 5) (mo_gB_of (by decide +kernel)))
        exact ⟨(c, iS), fun q hq => by cases hq; exact h⟩
      · obtain ⟨c, iS, h⟩ := u_known (C := RX5) (T := TX5) (N := 2) (n := 2) hw mk_clX5.2.1 (hw (.instantiable RX5 2) (mo_gB_of (by decide +kernel)))
        exact ⟨(c, iS), fun q hq => by cases hq; exact h⟩
      · obtain ⟨c, iS, h⟩ := u_known (C := RX6) (T := TX6) (N := 1) (n := 1) hw mk_clX6.2.1 (hw (.instantiable RX6 1) (mo_gB_of (by decide +kernel)))
        exact ⟨(c, iS), fun q hq => by cases hq; exact h⟩
      · obtain ⟨c, iS, h⟩ := u_known (C := RX7) (T := TX7) (N := 6) (n := 6) hw mk_clX7.2.1 (hw (.instantiable RX7 6) (mo_gB_of (by decide +kernel)))
        exact ⟨(c, iS), fun q hq => by cases hq; exact h⟩
      · obtain ⟨c, iS, h⟩ := u_known (C := RX8) (T := TX8) (N := 2) (n := 2) hw mk_clX8.2.1 (hw (.instantiable RX8 2) (mo_gB_of (by decide +kernel)))
        exact ⟨(c, iS), fun q hq => by cases hq; exact h⟩
      · obtain ⟨c, iS, h⟩ := u_known (C := RX9) (T := TX9) (N := 5) (n := 5) hw mk_clX9.2.1 (hw (.instantiable RX9 5) (mo_gB_of (by decide +kernel)))
        exact ⟨(c, iS), fun q hq => by cases hq; exact h⟩
      · obtain ⟨c, iS, h⟩ := u_known (C := RX10) (T := TX10) (N := 3) (n := 3) hw mk_clX10.2.1 (hw (.instantiable RX10 3) (mo_gB_of (by decide +kernel)))
        exact ⟨(c, iS), fun q hq => by cases hq; exact h⟩
      · obtain ⟨c, iS, h⟩ := u_known (C := RX11) (T := TX11) (N := 15) (n := 15) hw mk_clX11.2.1 (hw (.instantiable RX11 15) (mo_gB_of (by decide +kernel)))
        exact ⟨(c, iS), fun q hq => by cases hq; exact h⟩
      · obtain ⟨c, iS, h⟩ := u_known (C := RX12) (T := TX12) (N := 48) (n := 48) hw mk_clX12.2.1 (hw (.instantiable RX12 48) (mo_gB_of (by decide +kernel)))
        exact ⟨(c, iS), fun q hq => by cases hq; exact h⟩
    · exact ⟨(0, fun _ => 0), fun q hq => absurd (List.getElem?_eq_some_iff.mp hq).1 (by show ¬ k < 13; exact hk)⟩
  obtain ⟨F, hF⟩ := Classical.axiomOfChoice h0
  obtain ⟨c1, k1, p1, f1, g1, d1⟩ := Cond.arrayClass_spec (hw (.arrayClass .int) (mo_gB_of (by decide +kernel)))
  obtain ⟨c2, k2, p2, f2, g2, d2⟩ := Cond.arrayClass_spec (hw (.arrayClass .long) (mo_gB_of (by decide +kernel)))
  obtain ⟨c3, k3, p3, f3, g3, d3⟩ := Cond.arrayClass_spec (hw (.arrayClass .boolean) (mo_gB_of (by decide +kernel)))
  obtain ⟨c4, k4, p4, f4, g4, d4⟩ := Cond.arrayClass_spec (hw (.arrayClass .byte) (mo_gB_of (by decide +kernel)))
  refine ⟨(fun k => (F k).1, fun k => (F k).2), fun i => if i = 1 then c1 else if i = 2 then c2 else if i = 3 then c3 else c4, fun k q hq => hF k q hq, fun k q hq => ?_⟩
  have hk : k < 4 := (List.getElem?_eq_some_iff.mp hq).1
  rcases (by omega : k = 0 ∨ k = 1 ∨ k = 2 ∨ k = 3) with rfl | rfl | rfl | rfl
  · cases hq; exact ⟨fun n z => ⟨fun k h => (by cases h), k1, g1, p1, d1⟩, f1⟩
  · cases hq; exact ⟨fun n z => ⟨fun k h => (by cases h), k2, g2, p2, d2⟩, f2⟩
  · cases hq; exact ⟨fun n z => ⟨fun k h => (by cases h), k3, g3, p3, d3⟩, f3⟩
  · cases hq; exact ⟨fun n z => ⟨fun k h => (by cases h), k4, g4, p4, d4⟩, f4⟩
theorem ml_d111 : ∀ j, j < 15 → defaultValue (tyX11 j) = vp_V f0_X11 j := by
  intro j hj
  rcases (by omega : j = 0 ∨ j = 1 ∨ j = 2 ∨ j = 3 ∨ j = 4 ∨ j = 5 ∨ j = 6 ∨ j = 7 ∨ j = 8 ∨ j = 9 ∨ j = 10 ∨ j = 11 ∨ j = 12 ∨ j = 13 ∨ j = 14) with rfl | rfl | rfl | rfl | rfl | rfl | rfl | rfl | rfl | rfl | rfl | rfl | rfl | rfl | rfl <;> rfl
theorem ml_d112 : ∀ j, j < 48 → defaultValue (tyX12 j) = vp_V f0_X12 j := by
  intro j hj
  rcases (by omega : j = 0 ∨ j = 1 ∨ j = 2 ∨ j = 3 ∨ j = 4 ∨ j = 5 ∨ j = 6 ∨ j = 7 ∨ j = 8 ∨ j = 9 ∨ j = 10 ∨ j = 11 ∨ j = 12 ∨ j = 13 ∨ j = 14 ∨ j = 15 ∨ j = 16 ∨ j = 17 ∨ j = 18 ∨ j = 19 ∨ j = 20 ∨ j = 21 ∨ j = 22 ∨ j = 23 ∨ j = 24 ∨ j = 25 ∨ j = 26 ∨ j = 27 ∨ j = 28 ∨ j = 29 ∨ j = 30 ∨ j = 31 ∨ j = 32 ∨ j = 33 ∨ j = 34 ∨ j = 35 ∨ j = 36 ∨ j = 37 ∨ j = 38 ∨ j = 39 ∨ j = 40 ∨ j = 41 ∨ j = 42 ∨ j = 43 ∨ j = 44 ∨ j = 45 ∨ j = 46 ∨ j = 47) with rfl | rfl | rfl | rfl | rfl | rfl | rfl | rfl | rfl | rfl | rfl | rfl | rfl | rfl | rfl | rfl | rfl | rfl | rfl | rfl | rfl | rfl | rfl | rfl | rfl | rfl | rfl | rfl | rfl | rfl | rfl | rfl | rfl | rfl | rfl | rfl | rfl | rfl | rfl | rfl | rfl | rfl | rfl | rfl | rfl | rfl | rfl | rfl <;> rfl
