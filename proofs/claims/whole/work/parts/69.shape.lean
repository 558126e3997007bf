/-! every answer of the class is an int -/
set_option maxHeartbeats 4000000 in
theorem sh_X11_part (as : List mo_V) (σ : mo_M) (Q : mo_Q) (h : S_X11_part as σ Q) : S_X11_part as σ (fun r τ => (∃ v : Int32, r = some (.inl v)) ∧ Q r τ) := by
  unfold S_X11_part at h ⊢
  simpa only [Option.some.injEq, Sum.inl.injEq, exists_eq', true_and] using h
set_option maxHeartbeats 4000000 in
theorem sh_X11_make (as : List mo_V) (σ : mo_M) (Q : mo_Q) (h : S_X11_make as σ Q) : S_X11_make as σ (fun r τ => (∃ v : Int32, r = some (.inl v)) ∧ Q r τ) := by
  unfold S_X11_make at h ⊢
  simpa only [Option.some.injEq, Sum.inl.injEq, exists_eq', true_and] using h
set_option maxHeartbeats 4000000 in
theorem sh_X11_find (as : List mo_V) (σ : mo_M) (Q : mo_Q) (h : S_X11_find as σ Q) : S_X11_find as σ (fun r τ => (∃ v : Int32, r = some (.inl v)) ∧ Q r τ) := by
  unfold S_X11_find at h ⊢
  simpa only [Option.some.injEq, Sum.inl.injEq, exists_eq', true_and] using h
set_option maxHeartbeats 4000000 in
theorem sh_X11_link (as : List mo_V) (σ : mo_M) (Q : mo_Q) (h : S_X11_link as σ Q) : S_X11_link as σ (fun r τ => (∃ v : Int32, r = some (.inl v)) ∧ Q r τ) := by
  unfold S_X11_link at h ⊢
  simpa only [Option.some.injEq, Sum.inl.injEq, exists_eq', true_and] using h
set_option maxHeartbeats 4000000 in
theorem sh_X11_cut (as : List mo_V) (σ : mo_M) (Q : mo_Q) (h : S_X11_cut as σ Q) : S_X11_cut as σ (fun r τ => (∃ v : Int32, r = some (.inl v)) ∧ Q r τ) := by
  unfold S_X11_cut at h ⊢
  simpa only [Option.some.injEq, Sum.inl.injEq, exists_eq', true_and] using h
set_option maxHeartbeats 4000000 in
theorem sh_X11_counts (as : List mo_V) (σ : mo_M) (Q : mo_Q) (h : S_X11_counts as σ Q) : S_X11_counts as σ (fun r τ => (∃ v : Int32, r = some (.inl v)) ∧ Q r τ) := by
  unfold S_X11_counts at h ⊢
  simpa only [Option.some.injEq, Sum.inl.injEq, exists_eq', true_and] using h
set_option maxHeartbeats 4000000 in
theorem sh_X11_hold (as : List mo_V) (σ : mo_M) (Q : mo_Q) (h : S_X11_hold as σ Q) : S_X11_hold as σ (fun r τ => (∃ v : Int32, r = some (.inl v)) ∧ Q r τ) := by
  unfold S_X11_hold at h ⊢
  simpa only [Option.some.injEq, Sum.inl.injEq, exists_eq', true_and] using h
set_option maxHeartbeats 4000000 in
theorem sh_X11_join (as : List mo_V) (σ : mo_M) (Q : mo_Q) (h : S_X11_join as σ Q) : S_X11_join as σ (fun r τ => (∃ v : Int32, r = some (.inl v)) ∧ Q r τ) := by
  unfold S_X11_join at h ⊢
  simpa only [Option.some.injEq, Sum.inl.injEq, exists_eq', true_and] using h
set_option maxHeartbeats 4000000 in
theorem sh_X11_undo (as : List mo_V) (σ : mo_M) (Q : mo_Q) (h : S_X11_undo as σ Q) : S_X11_undo as σ (fun r τ => (∃ v : Int32, r = some (.inl v)) ∧ Q r τ) := by
  unfold S_X11_undo at h ⊢
  simpa only [Option.some.injEq, Sum.inl.injEq, exists_eq', true_and] using h
set_option maxHeartbeats 4000000 in
theorem sh_X11_unlike (as : List mo_V) (σ : mo_M) (Q : mo_Q) (h : S_X11_unlike as σ Q) : S_X11_unlike as σ (fun r τ => (∃ v : Int32, r = some (.inl v)) ∧ Q r τ) := by
  unfold S_X11_unlike at h ⊢
  simpa only [Option.some.injEq, Sum.inl.injEq, exists_eq', true_and] using h
set_option maxHeartbeats 4000000 in
theorem sh_X11_group (as : List mo_V) (σ : mo_M) (Q : mo_Q) (h : S_X11_group as σ Q) : S_X11_group as σ (fun r τ => (∃ v : Int32, r = some (.inl v)) ∧ Q r τ) := by
  unfold S_X11_group at h ⊢
  simpa only [Option.some.injEq, Sum.inl.injEq, exists_eq', true_and] using h
set_option maxHeartbeats 4000000 in
theorem sh_X11_quarrels (as : List mo_V) (σ : mo_M) (Q : mo_Q) (h : S_X11_quarrels as σ Q) : S_X11_quarrels as σ (fun r τ => (∃ v : Int32, r = some (.inl v)) ∧ Q r τ) := by
  unfold S_X11_quarrels at h ⊢
  simpa only [Option.some.injEq, Sum.inl.injEq, exists_eq', true_and] using h
set_option maxHeartbeats 4000000 in
theorem sh_X11_feed (as : List mo_V) (σ : mo_M) (Q : mo_Q) (h : S_X11_feed as σ Q) : S_X11_feed as σ (fun r τ => (∃ v : Int32, r = some (.inl v)) ∧ Q r τ) := by
  unfold S_X11_feed at h ⊢
  simpa only [Option.some.injEq, Sum.inl.injEq, exists_eq', true_and] using h
set_option maxHeartbeats 4000000 in
theorem sh_X11_end (as : List mo_V) (σ : mo_M) (Q : mo_Q) (h : S_X11_end as σ Q) : S_X11_end as σ (fun r τ => (∃ v : Int32, r = some (.inl v)) ∧ Q r τ) := by
  unfold S_X11_end at h ⊢
  simpa only [Option.some.injEq, Sum.inl.injEq, exists_eq', true_and] using h
set_option maxHeartbeats 4000000 in
theorem sh_X11_warning (as : List mo_V) (σ : mo_M) (Q : mo_Q) (h : S_X11_warning as σ Q) : S_X11_warning as σ (fun r τ => (∃ v : Int32, r = some (.inl v)) ∧ Q r τ) := by
  unfold S_X11_warning at h ⊢
  simpa only [Option.some.injEq, Sum.inl.injEq, exists_eq', true_and] using h
set_option maxHeartbeats 4000000 in
theorem sh_X11_fault (as : List mo_V) (σ : mo_M) (Q : mo_Q) (h : S_X11_fault as σ Q) : S_X11_fault as σ (fun r τ => (∃ v : Int32, r = some (.inl v)) ∧ Q r τ) := by
  unfold S_X11_fault at h ⊢
  simpa only [Option.some.injEq, Sum.inl.injEq, exists_eq', true_and] using h
set_option maxHeartbeats 4000000 in
theorem sh_X11_bad (as : List mo_V) (σ : mo_M) (Q : mo_Q) (h : S_X11_bad as σ Q) : S_X11_bad as σ (fun r τ => (∃ v : Int32, r = some (.inl v)) ∧ Q r τ) := by
  unfold S_X11_bad at h ⊢
  simpa only [Option.some.injEq, Sum.inl.injEq, exists_eq', true_and] using h
set_option maxHeartbeats 4000000 in
theorem sh_X11_hit (as : List mo_V) (σ : mo_M) (Q : mo_Q) (h : S_X11_hit as σ Q) : S_X11_hit as σ (fun r τ => (∃ v : Int32, r = some (.inl v)) ∧ Q r τ) := by
  unfold S_X11_hit at h ⊢
  simpa only [Option.some.injEq, Sum.inl.injEq, exists_eq', true_and] using h
set_option maxHeartbeats 4000000 in
theorem sh_X11_way (as : List mo_V) (σ : mo_M) (Q : mo_Q) (h : S_X11_way as σ Q) : S_X11_way as σ (fun r τ => (∃ v : Int32, r = some (.inl v)) ∧ Q r τ) := by
  unfold S_X11_way at h ⊢
  simpa only [Option.some.injEq, Sum.inl.injEq, exists_eq', true_and] using h
set_option maxHeartbeats 4000000 in
theorem sh_X11_has (as : List mo_V) (σ : mo_M) (Q : mo_Q) (h : S_X11_has as σ Q) : S_X11_has as σ (fun r τ => (∃ v : Int32, r = some (.inl v)) ∧ Q r τ) := by
  unfold S_X11_has at h ⊢
  simpa only [Option.some.injEq, Sum.inl.injEq, exists_eq', true_and] using h
set_option maxHeartbeats 4000000 in
theorem sh_X11_since (as : List mo_V) (σ : mo_M) (Q : mo_Q) (h : S_X11_since as σ Q) : S_X11_since as σ (fun r τ => (∃ v : Int32, r = some (.inl v)) ∧ Q r τ) := by
  unfold S_X11_since at h ⊢
  simpa only [Option.some.injEq, Sum.inl.injEq, exists_eq', true_and] using h
set_option maxHeartbeats 4000000 in
theorem sh_X11_gaps (as : List mo_V) (σ : mo_M) (Q : mo_Q) (h : S_X11_gaps as σ Q) : S_X11_gaps as σ (fun r τ => (∃ v : Int32, r = some (.inl v)) ∧ Q r τ) := by
  unfold S_X11_gaps at h ⊢
  simpa only [Option.some.injEq, Sum.inl.injEq, exists_eq', true_and] using h
set_option maxHeartbeats 4000000 in
theorem sh_X11_ring (as : List mo_V) (σ : mo_M) (Q : mo_Q) (h : S_X11_ring as σ Q) : S_X11_ring as σ (fun r τ => (∃ v : Int32, r = some (.inl v)) ∧ Q r τ) := by
  unfold S_X11_ring at h ⊢
  simpa only [Option.some.injEq, Sum.inl.injEq, exists_eq', true_and] using h
set_option maxHeartbeats 4000000 in
theorem sh_X11_calls (as : List mo_V) (σ : mo_M) (Q : mo_Q) (h : S_X11_calls as σ Q) : S_X11_calls as σ (fun r τ => (∃ v : Int32, r = some (.inl v)) ∧ Q r τ) := by
  unfold S_X11_calls at h ⊢
  simpa only [Option.some.injEq, Sum.inl.injEq, exists_eq', true_and] using h
set_option maxHeartbeats 4000000 in
theorem sh_X11_recall (as : List mo_V) (σ : mo_M) (Q : mo_Q) (h : S_X11_recall as σ Q) : S_X11_recall as σ (fun r τ => (∃ v : Int32, r = some (.inl v)) ∧ Q r τ) := by
  unfold S_X11_recall at h ⊢
  simpa only [Option.some.injEq, Sum.inl.injEq, exists_eq', true_and] using h
set_option maxHeartbeats 4000000 in
theorem sh_X11_told (as : List mo_V) (σ : mo_M) (Q : mo_Q) (h : S_X11_told as σ Q) : S_X11_told as σ (fun r τ => (∃ v : Int32, r = some (.inl v)) ∧ Q r τ) := by
  unfold S_X11_told at h ⊢
  simpa only [Option.some.injEq, Sum.inl.injEq, exists_eq', true_and] using h
set_option maxHeartbeats 4000000 in
theorem sh_X11_count (as : List mo_V) (σ : mo_M) (Q : mo_Q) (h : S_X11_count as σ Q) : S_X11_count as σ (fun r τ => (∃ v : Int32, r = some (.inl v)) ∧ Q r τ) := by
  unfold S_X11_count at h ⊢
  simpa only [Option.some.injEq, Sum.inl.injEq, exists_eq', true_and] using h
set_option maxHeartbeats 4000000 in
theorem sh_X11_status (as : List mo_V) (σ : mo_M) (Q : mo_Q) (h : S_X11_status as σ Q) : S_X11_status as σ (fun r τ => (∃ v : Int32, r = some (.inl v)) ∧ Q r τ) := by
  unfold S_X11_status at h ⊢
  simpa only [Option.some.injEq, Sum.inl.injEq, exists_eq', true_and] using h
