/-! PURE PART: forget -/
theorem hb_late {pa tm dn : Int32} (hp : 1 ≤ pa.toInt ∧ pa.toInt ≤ 5000) (ht : tm.toInt ≤ 1000000) (h1 : 0 ≤ dn.toInt) (h2 : dn.toInt ≤ tm.toInt) : (pa < tm - dn) ↔ (dn + pa < tm) := by
  rw [Int32.lt_iff_toInt_lt, Int32.lt_iff_toInt_lt, q32_sub (by omega) (by omega), q32_add (by omega) (by omega)]
  omega
theorem hb_sy_iff {na : Nat} {pa tm : Int32} {r : hbY} (hp : 1 ≤ pa.toInt ∧ pa.toInt ≤ 5000) (ht : tm.toInt ≤ 1000000) (h : hb_ri na tm r) : hb_sy pa tm r ↔ ¬ hb_over pa tm r := by
  obtain ⟨-, hs, -, -, h3, hd, hd3, -⟩ := h
  unfold hb_sy hb_over
  rcases hd with d | d | d | d | d
  · rcases hs with s | s | s
    · have s' : r.2.2.1 = 1 := s
      have d' : r.2.2.2.2.2.2.2.1 = 0 := d
      simp [s', d']
    · have s' : r.2.2.1 = 2 := s
      have d' : r.2.2.2.2.2.2.2.1 = 0 := d
      simp [s', d']
    · have s' : r.2.2.1 = 3 := s
      have d' : r.2.2.2.2.2.2.2.1 = 0 := d
      have := hb_late hp ht (h3 s).1 (h3 s).2
      simp only [s', d', and_self, if_true, true_and]
      rw [this]
      simp
  all_goals
    have s' : r.2.2.1 = 3 := hd3 (by rw [d]; decide)
    have d' := d
    simp only [yD] at d'
    simp [s', d']
theorem hb_over_z {na : Nat} {pa tm : Int32} {r : hbY} (h : hb_ri na tm r) (ho : hb_over pa tm r) : yH r = 0 ∧ lk r = 0 := by
  obtain ⟨-, hs, -, h4, h3, hd, hd3, -⟩ := h
  unfold hb_over at ho
  by_cases d0 : r.2.2.2.2.2.2.2.1 = 0
  · rw [if_pos d0] at ho
    refine ⟨h4 ?_, if_neg (fun z => ?_)⟩
    · rcases ho with z | ⟨z, -⟩
      · intro z2; rw [show yS r = 2 from z] at z2; exact absurd z2 (by decide)
      · intro z2; rw [show yS r = 3 from z] at z2; exact absurd z2 (by decide)
    · rcases z with z | z
      · rw [show yD r = 0 from d0] at z; exact absurd z (by decide)
      · rw [show yD r = 0 from d0] at z; exact absurd z (by decide)
  · rw [if_neg d0] at ho
    have s3 := hd3 d0
    refine ⟨h4 (by rw [s3]; decide), if_neg (fun z => ?_)⟩
    rcases ho with o | o
    · rw [show yD r = 3 from o] at z; revert z; decide
    · rw [show yD r = 4 from o] at z; revert z; decide
theorem hb_ls_filter {g : hbY → Int64} {p : hbY → Bool} {L : List hbY} (h : ∀ r ∈ L, p r = false → g r = 0) : hb_ls g (L.filter p) = hb_ls g L := by
  induction L with
  | nil => rfl
  | cons r L ih =>
    have ih' := ih (fun q hq => h q (List.mem_cons_of_mem _ hq))
    rw [List.filter_cons]
    by_cases hp : p r = true
    · rw [if_pos hp]
      show g r + _ = g r + _
      rw [ih']
    · rw [if_neg hp, ih']
      show _ = g r + _
      rw [h r List.mem_cons_self (by simpa using hp), Int64.zero_add]
theorem hb_fn_rl {pa tm : Int32} {f : Nat → hbY} : ∀ j, hb_rl (hb_fn pa tm (f, 0) j).1 (hb_fn pa tm (f, 0) j).2 = (hb_rl f j).filter (fun r => decide (hb_sy pa tm r)) ∧ ∀ q, j ≤ q → (hb_fn pa tm (f, 0) j).1 q = f q := by
  intro j
  induction j with
  | zero => exact ⟨rfl, fun q _ => rfl⟩
  | succ j ih =>
    obtain ⟨h1, h2⟩ := ih
    have hle := hb_fn_le (pa := pa) (tm := tm) (f := f) j
    have e : hb_fn pa tm (f, 0) (j + 1) = hb_f1 pa tm (hb_fn pa tm (f, 0) j) j := rfl
    rw [e]
    generalize hb_fn pa tm (f, 0) j = S at *
    unfold hb_f1
    rw [hb_rl_succ, List.filter_append, ← h1]
    by_cases hs : hb_sy pa tm (S.1 j)
    · rw [if_pos hs]
      refine ⟨?_, fun q hq => ?_⟩
      · show hb_rl (hb_uY S.1 S.2 (S.1 j)) (S.2 + 1) = _
        rw [hb_rl_push, h2 j (Nat.le_refl _)]
        rw [h2 j (Nat.le_refl _)] at hs
        rw [List.filter_cons, if_pos (decide_eq_true hs)]
        rfl
      · show hb_uY S.1 S.2 (S.1 j) q = f q
        unfold hb_uY
        rw [if_neg (by omega)]
        exact h2 q (by omega)
    · rw [if_neg hs]
      refine ⟨?_, fun q hq => h2 q (by omega)⟩
      rw [h2 j (Nat.le_refl _)] at hs
      rw [List.filter_cons, if_neg (by rw [decide_eq_false hs]; decide), List.filter_nil, List.append_nil]
theorem hb_nI_sub {a b : Nat} (h : b ≤ a) : nI a - nI b = nI (a - b) := by
  have e : nI a = nI (a - b) + nI b := by rw [nI_add, Nat.sub_add_cancel h]
  rw [e, Int32.add_sub_cancel]
section PF
variable {n : Nat} {ho pa tm : Int32} {A : List hbA} {P : List hbY} {na np : Nat} {bal mi : Nat → Int64} {f : Nat → hbY}
theorem hb_I.forget (h : hb_I n ho pa tm A P na np bal mi f) (hn : n < 520) : hb_I (n + 1) ho pa tm A (P.filter (fun r => !decide (hb_over pa tm r))) na (hb_fn pa tm (f, 0) np).2 bal mi (hb_fn pa tm (f, 0) np).1 ∧ (P.filter (fun r => !decide (hb_over pa tm r))).length = (hb_fn pa tm (f, 0) np).2 ∧ (hb_fn pa tm (f, 0) np).2 ≤ np := by
  have hA := h.2.1
  have hle := hb_fn_le (pa := pa) (tm := tm) (f := f) np
  have e0 : P.filter (fun r => !decide (hb_over pa tm r)) = P.filter (fun r => decide (hb_sy pa tm r)) := by
    refine List.filter_congr (fun r hr => ?_)
    have := hb_sy_iff (pa := pa) h.1.2.2.1 h.1.2.2.2.2 (h.2.2.1 r hr)
    by_cases ho : hb_over pa tm r
    · rw [decide_eq_true ho, decide_eq_false (fun z => this.mp z ho)]; rfl
    · rw [decide_eq_false ho, decide_eq_true (this.mpr ho)]; rfl
  have hp : (P.filter (fun r => !decide (hb_over pa tm r))).Perm (hb_rl (hb_fn pa tm (f, 0) np).1 (hb_fn pa tm (f, 0) np).2) := by
    rw [e0, (hb_fn_rl np).1]
    exact hA.2.2.2.2.filter _
  refine ⟨⟨⟨by omega, h.1.2⟩, ⟨hA.1, hA.2.1, by omega, hA.2.2.2.1.filter _, hp⟩, fun r hr => h.2.2.1 r (List.mem_filter.mp hr).1, ?_⟩, by rw [hp.length_eq, hb_rl_len], hle⟩
  intro c t hc
  obtain ⟨⟨a1, a2, a3, a4, a5, a6⟩, a7, a8⟩ := h.2.2.2 c t hc
  have z : ∀ r ∈ P, (!decide (hb_over pa tm r)) = false → yH r = 0 ∧ lk r = 0 := fun r hr hz => hb_over_z (h.2.2.1 r hr) (by simpa using hz)
  have g1 : hb_ls (gH (nI c)) (P.filter (fun r => !decide (hb_over pa tm r))) = hb_ls (gH (nI c)) P := hb_ls_filter (fun r hr hz => by
    unfold gH
    rw [(z r hr hz).1]
    split <;> rfl)
  have g2 : hb_ls (gL (nI c)) (P.filter (fun r => !decide (hb_over pa tm r))) = hb_ls (gL (nI c)) P := hb_ls_filter (fun r hr hz => by
    unfold gL
    rw [(z r hr hz).2]
    split <;> rfl)
  exact ⟨⟨by rw [g1]; exact a1, by rw [g2]; exact a2, by push_cast at *; omega, a4, a5, by unfold hb_fi at *; rw [g1, g2]; exact a6⟩, a7, a8⟩
end PF
