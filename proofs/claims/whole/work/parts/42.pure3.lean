/-! PURE PART: a row comes, rows are looked up, forgotten, ranked -/
def hb_ps (P : List hbY) (k : Int32) : Nat := (P.takeWhile (fun r => decide (r.1 < k))).length
theorem hb_pos_ps {Py : List (Nat × hbY)} {k : Int32} : hb_pos Py k = hb_ps (Py.map Prod.snd) k := by
  unfold hb_pos hb_ps
  induction Py with
  | nil => rfl
  | cons a L ih =>
    rw [List.map_cons, List.takeWhile_cons, List.takeWhile_cons]
    by_cases h : a.2.1 < k
    · rw [if_pos (by simpa using h), if_pos (by simpa using h)]
      simpa using ih
    · rw [if_neg (by simpa using h), if_neg (by simpa using h)]
      rfl
theorem hb_ps_le {P : List hbY} {k : Int32} : hb_ps P k ≤ P.length := (List.takeWhile_sublist _).length_le
theorem hb_ins_perm {α : Type} {L : List α} {i : Nat} {r : α} (h : i ≤ L.length) : (L.insertIdx i r).Perm (r :: L) := by
  induction L generalizing i with
  | nil =>
    have : i = 0 := by simpa using h
    subst this
    simp
  | cons a L ih =>
    cases i with
    | zero => simp
    | succ i =>
      simp only [List.insertIdx_succ_cons]
      exact ((ih (by simpa using h)).cons a).trans (List.Perm.swap r a _)
theorem hb_lt_tr {a b c : Int32} (h1 : a < b) (h2 : b < c) : a < c := by
  rw [Int32.lt_iff_toInt_lt] at *
  omega
theorem hb_ins_pw {P : List hbY} {k : Int32} {r : hbY} (h : P.Pairwise (fun p q => p.1 < q.1)) (hno : ∀ q ∈ P, q.1 ≠ k) (hr : r.1 = k) : (P.insertIdx (hb_ps P k) r).Pairwise (fun p q => p.1 < q.1) := by
  induction P with
  | nil => unfold hb_ps; simp
  | cons a L ih =>
    obtain ⟨h1, h2⟩ := List.pairwise_cons.mp h
    by_cases ha : a.1 < k
    · have e : hb_ps (a :: L) k = hb_ps L k + 1 := by
        unfold hb_ps
        rw [List.takeWhile_cons, if_pos (by simpa using ha)]
        rfl
      rw [e, List.insertIdx_succ_cons, List.pairwise_cons]
      refine ⟨fun q hq => ?_, ih h2 (fun q hq => hno q (List.mem_cons_of_mem _ hq))⟩
      rcases List.mem_cons.mp ((hb_ins_perm (r := r) hb_ps_le).mem_iff.mp hq) with z | z
      · rw [z, hr]; exact ha
      · exact h1 q z
    · have e : hb_ps (a :: L) k = 0 := by
        unfold hb_ps
        rw [List.takeWhile_cons, if_neg (by simpa using ha)]
        rfl
      have hka : k < a.1 := by
        have := hno a List.mem_cons_self
        rcases Int32.lt_or_le k a.1 with z | z
        · exact z
        · exact absurd (Int32.lt_of_le_of_ne z this) ha
      rw [e, List.insertIdx_zero, List.pairwise_cons]
      refine ⟨fun q hq => ?_, h⟩
      rw [hr]
      rcases List.mem_cons.mp hq with z | z
      · rw [z]; exact hka
      · exact hb_lt_tr hka (h1 q z)
theorem hb_map_ins2 {L : List (Nat × hbY)} {j : Nat} {a : Nat} {r : hbY} : (L.insertIdx j (a, r)).map Prod.snd = (L.map Prod.snd).insertIdx j r := by
  apply List.ext_getElem?
  intro i
  rw [List.getElem?_map, List.getElem?_insertIdx, List.getElem?_insertIdx, List.length_map]
  by_cases h : i < j
  · rw [if_pos h, if_pos h, List.getElem?_map]
  · rw [if_neg h, if_neg h]
    by_cases h2 : i = j
    · rw [if_pos h2, if_pos h2]
      by_cases h3 : i ≤ L.length
      · rw [if_pos h3, if_pos h3]; rfl
      · rw [if_neg h3, if_neg h3]; rfl
    · rw [if_neg h2, if_neg h2, List.getElem?_map]
section PI3
variable {n : Nat} {ho pa tm : Int32} {A : List hbA} {P : List hbY} {na np : Nat} {bal mi : Nat → Int64} {f : Nat → hbY}
theorem hb_I.ask (h : hb_I n ho pa tm A P na np bal mi f) (hn : n < 520) (hnp : np < 60) {k : Int32} (hno : ∀ r ∈ P, r.1 ≠ k) {ka : Nat} {s : hbA} (hk : A[ka]? = some s) {g : Int64} (hg0 : 0 ≤ g.toInt) (hg1 : g.toInt ≤ 1000000000000) (hg2 : g.toInt ≤ hb_fi P (nI ka) s) :
    hb_I (n + 1) ho pa tm (A.set ka (s.1, s.2.1, s.2.2.1, s.2.2.2.1 + (g - 0), s.2.2.2.2)) (P.insertIdx (hb_ps P k) (k, nI ka, 1, g, 0, tm + ho, -1, 0, 0, -1)) na (np + 1) bal mi (hb_uY f np (k, nI ka, 1, g, 0, tm + ho, -1, 0, 0, -1)) := by
  have hA := h.2.1
  have hkl := (List.getElem?_eq_some_iff.mp hk).1
  have hti : (tm + ho).toInt = tm.toInt + ho.toInt := q32_add (by have := h.1; omega) (by have := h.1; omega)
  have hp := hb_ins_perm (L := P) (r := ((k, nI ka, 1, g, 0, tm + ho, -1, 0, 0, -1) : hbY)) (hb_ps_le (k := k))
  have hri : hb_ri na tm (k, nI ka, 1, g, 0, tm + ho, -1, 0, 0, -1) := by
    refine ⟨Or.inr ⟨ka, by omega, rfl⟩, Or.inl rfl, fun _ => ⟨?_, rfl, rfl⟩, fun z => absurd rfl z, fun z => absurd z (by decide : (1 : Int32) ≠ 3), Or.inl rfl, fun z => absurd rfl z, fun z => ?_, ⟨hg0, (by decide : 0 ≤ (0 : Int64).toInt), ?_⟩, (by decide : 0 ≤ (0 : Int64).toInt), (by decide : (0 : Int64).toInt ≤ 1000000000000)⟩
    · show tm.toInt < (tm + ho).toInt
      have := h.1
      omega
    · rcases z with z | z
      · exact absurd z (by decide : (0 : Int32) ≠ 1)
      · exact absurd z (by decide : (0 : Int32) ≠ 2)
    · show g.toInt + (0 : Int64).toInt ≤ _
      rw [q64_z]; omega
  refine ⟨⟨by omega, h.1.2⟩, ⟨by rw [List.length_set]; exact hA.1, hA.2.1, by omega, hb_ins_pw hA.2.2.2.1 hno rfl, ?_⟩, fun q hq => ?_, ?_⟩
  · rw [hb_rl_push]
    exact (hp.trans (hA.2.2.2.2.cons _)).trans (List.perm_append_singleton _ _).symm
  · rcases List.mem_cons.mp (hp.mem_iff.mp hq) with z | z
    · rw [z]; exact hri
    · exact h.2.2.1 q z
  · intro c t hc
    rcases hb_set_at hk hc with ⟨rfl, rfl⟩ | ⟨hne, hc⟩
    · obtain ⟨⟨a1, a2, a3, a4, a5, a6⟩, a7, a8⟩ := h.2.2.2 _ s hk
      have g1 : hb_ls (gH (nI c)) (P.insertIdx (hb_ps P k) (k, nI c, 1, g, 0, tm + ho, -1, 0, 0, -1)) = g + hb_ls (gH (nI c)) P := by
        rw [hb_ls_perm hp]
        show gH (nI c) _ + _ = _
        rw [show gH (nI c) (k, nI c, 1, g, 0, tm + ho, -1, 0, 0, -1) = g from if_pos rfl]
      have g2 : hb_ls (gL (nI c)) (P.insertIdx (hb_ps P k) (k, nI c, 1, g, 0, tm + ho, -1, 0, 0, -1)) = hb_ls (gL (nI c)) P := by
        rw [hb_ls_perm hp]
        show gL (nI c) _ + _ = _
        rw [show gL (nI c) (k, nI c, 1, g, 0, tm + ho, -1, 0, 0, -1) = 0 from (if_pos rfl).trans (if_neg (by decide : ¬ ((0 : Int32) = 1 ∨ (0 : Int32) = 2))), Int64.zero_add]
      have b1 := h.sH (nI c)
      have b2 := h.free hk
      have i1 : (g + hb_ls (gH (nI c)) P).toInt = g.toInt + (hb_ls (gH (nI c)) P).toInt := q64_add (by omega) (by omega)
      refine ⟨⟨?_, by rw [g2]; exact a2, (by show (aB s).toInt ≤ _; push_cast at *; omega), a4, a5, Or.inl ?_⟩, a7, a8⟩
      · rw [g1]
        show s.2.2.2.1 + (g - 0) = _
        rw [show s.2.2.2.1 = hb_ls (gH (nI c)) P from a1, Int64.add_comm]
        simp
      · unfold hb_fi at *
        rw [g1, g2, i1]
        show 0 ≤ (aB s).toInt - (aM s).toInt - (g.toInt + _) - _
        omega
    · obtain ⟨⟨a1, a2, a3, a4, a5, a6⟩, a7, a8⟩ := h.2.2.2 c t hc
      have hcl := (List.getElem?_eq_some_iff.mp hc).1
      have hkc : nI ka ≠ nI c := fun z => hne (hb_eqi (by omega) (by omega) z).symm
      have g1 : hb_ls (gH (nI c)) (P.insertIdx (hb_ps P k) (k, nI ka, 1, g, 0, tm + ho, -1, 0, 0, -1)) = hb_ls (gH (nI c)) P := by
        rw [hb_ls_perm hp]
        show gH (nI c) _ + _ = _
        rw [show gH (nI c) (k, nI ka, 1, g, 0, tm + ho, -1, 0, 0, -1) = 0 from if_neg hkc, Int64.zero_add]
      have g2 : hb_ls (gL (nI c)) (P.insertIdx (hb_ps P k) (k, nI ka, 1, g, 0, tm + ho, -1, 0, 0, -1)) = hb_ls (gL (nI c)) P := by
        rw [hb_ls_perm hp]
        show gL (nI c) _ + _ = _
        rw [show gL (nI c) (k, nI ka, 1, g, 0, tm + ho, -1, 0, 0, -1) = 0 from if_neg hkc, Int64.zero_add]
      exact ⟨⟨by rw [g1]; exact a1, by rw [g2]; exact a2, by push_cast at *; omega, a4, a5, by unfold hb_fi at *; rw [g1, g2]; exact a6⟩, a7, a8⟩
theorem hb_I.tomb (h : hb_I n ho pa tm A P na np bal mi f) (hn : n < 520) (hnp : np < 60) {k : Int32} (hno : ∀ r ∈ P, r.1 ≠ k) :
    hb_I (n + 1) ho pa tm A (P.insertIdx (hb_ps P k) (k, -1, 2, 0, 0, 0, -1, 0, 0, -1)) na (np + 1) bal mi (hb_uY f np (k, -1, 2, 0, 0, 0, -1, 0, 0, -1)) := by
  have hA := h.2.1
  have hp := hb_ins_perm (L := P) (r := ((k, -1, 2, 0, 0, 0, -1, 0, 0, -1) : hbY)) (hb_ps_le (k := k))
  have hri : hb_ri na tm (k, -1, 2, 0, 0, 0, -1, 0, 0, -1) := by
    refine ⟨Or.inl ⟨rfl, rfl, rfl⟩, Or.inr (Or.inl rfl), fun z => absurd z (by decide : (2 : Int32) ≠ 1), fun _ => rfl, fun z => absurd z (by decide : (2 : Int32) ≠ 3), Or.inl rfl, fun z => absurd rfl z, fun z => ?_, (by decide : 0 ≤ (0 : Int64).toInt ∧ 0 ≤ (0 : Int64).toInt ∧ (0 : Int64).toInt + (0 : Int64).toInt ≤ 1000000000000), (by decide : 0 ≤ (0 : Int64).toInt ∧ (0 : Int64).toInt ≤ 1000000000000)⟩
    rcases z with z | z
    · exact absurd z (by decide : (0 : Int32) ≠ 1)
    · exact absurd z (by decide : (0 : Int32) ≠ 2)
  refine ⟨⟨by omega, h.1.2⟩, ⟨hA.1, hA.2.1, by omega, hb_ins_pw hA.2.2.2.1 hno rfl, ?_⟩, fun q hq => ?_, ?_⟩
  · rw [hb_rl_push]
    exact (hp.trans (hA.2.2.2.2.cons _)).trans (List.perm_append_singleton _ _).symm
  · rcases List.mem_cons.mp (hp.mem_iff.mp hq) with z | z
    · rw [z]; exact hri
    · exact h.2.2.1 q z
  · intro c t hc
    obtain ⟨⟨a1, a2, a3, a4, a5, a6⟩, a7, a8⟩ := h.2.2.2 c t hc
    have hcl := (List.getElem?_eq_some_iff.mp hc).1
    have hkc : (-1 : Int32) ≠ nI c := fun z => hb_m1 (n := c) (by omega) z.symm
    have g1 : hb_ls (gH (nI c)) (P.insertIdx (hb_ps P k) (k, -1, 2, 0, 0, 0, -1, 0, 0, -1)) = hb_ls (gH (nI c)) P := by
      rw [hb_ls_perm hp]
      show gH (nI c) _ + _ = _
      rw [show gH (nI c) (k, -1, 2, 0, 0, 0, -1, 0, 0, -1) = 0 from if_neg hkc, Int64.zero_add]
    have g2 : hb_ls (gL (nI c)) (P.insertIdx (hb_ps P k) (k, -1, 2, 0, 0, 0, -1, 0, 0, -1)) = hb_ls (gL (nI c)) P := by
      rw [hb_ls_perm hp]
      show gL (nI c) _ + _ = _
      rw [show gL (nI c) (k, -1, 2, 0, 0, 0, -1, 0, 0, -1) = 0 from if_neg hkc, Int64.zero_add]
    exact ⟨⟨by rw [g1]; exact a1, by rw [g2]; exact a2, by push_cast at *; omega, a4, a5, by unfold hb_fi at *; rw [g1, g2]; exact a6⟩, a7, a8⟩
/-! looking up -/
theorem hb_plc_at {ky : Nat → Int32} {k : Int32} {j : Nat} (hj : ky j = k) : ∀ m, (∀ i, i < m → ky i = k → i = j) → hb_plc ky k m = if j < m then nI j else -1 := by
  intro m
  induction m with
  | zero => intro _; rw [if_neg (by omega)]; rfl
  | succ m ih =>
    intro hu
    show (if ky m = k then nI m else hb_plc ky k m) = _
    by_cases hm : ky m = k
    · have := hu m (by omega) hm
      rw [if_pos hm, this, if_pos (by omega)]
    · have hne : j ≠ m := fun z => hm (by rw [← z]; exact hj)
      rw [if_neg hm, ih (fun i hi => hu i (by omega))]
      by_cases hjm : j < m
      · rw [if_pos hjm, if_pos (by omega)]
      · rw [if_neg hjm, if_neg (by omega)]
theorem hb_plc_no {ky : Nat → Int32} {k : Int32} : ∀ m, (∀ i, i < m → ky i ≠ k) → hb_plc ky k m = -1 := by
  intro m
  induction m with
  | zero => intro _; rfl
  | succ m ih =>
    intro hu
    show (if ky m = k then nI m else hb_plc ky k m) = _
    rw [if_neg (hu m (by omega)), ih (fun i hi => hu i (by omega))]
theorem hb_I.nd (h : hb_I n ho pa tm A P na np bal mi f) {i j : Nat} (hi : i < np) (hj : j < np) (e : (f i).1 = (f j).1) : i = j := by
  have h1 : (P.map (fun r => r.1)).Nodup := by
    rw [List.Nodup, List.pairwise_map]
    exact h.2.1.2.2.2.1.imp (fun hab => by intro z; rw [z] at hab; exact hb_irr _ hab)
  have h2 : ((hb_rl f np).map (fun r => r.1)).Nodup := (h.2.1.2.2.2.2.map _).nodup_iff.mp h1
  have e1 : ((hb_rl f np).map (fun r => r.1))[i]? = some (f i).1 := by rw [List.getElem?_map, hb_rl_at hi]; rfl
  have e2 : ((hb_rl f np).map (fun r => r.1))[j]? = some (f j).1 := by rw [List.getElem?_map, hb_rl_at hj]; rfl
  obtain ⟨l1, l2⟩ := List.getElem?_eq_some_iff.mp e1
  obtain ⟨l3, l4⟩ := List.getElem?_eq_some_iff.mp e2
  have hw := List.pairwise_iff_getElem.mp h2
  rcases Nat.lt_trichotomy i j with z | z | z
  · exact absurd (by rw [l2, l4, e]) (hw i j l1 l3 z)
  · exact z
  · exact absurd (by rw [l2, l4, e]) (hw j i l3 l1 z)
theorem hb_I.look (h : hb_I n ho pa tm A P na np bal mi f) (k : Int32) :
    (∃ (i : Nat) (r : hbY) (j : Nat), P[i]? = some r ∧ r.1 = k ∧ j < np ∧ f j = r ∧ hb_plc (fun q => (f q).1) k np = nI j) ∨ ((∀ r ∈ P, r.1 ≠ k) ∧ hb_plc (fun q => (f q).1) k np = -1) := by
  by_cases hx : ∃ r ∈ P, r.1 = k
  · obtain ⟨r, hr, hk⟩ := hx
    obtain ⟨i, hi⟩ := List.getElem?_of_mem hr
    obtain ⟨j, hj⟩ := List.getElem?_of_mem (h.2.1.2.2.2.2.mem_iff.mp hr)
    obtain ⟨hj1, hj2⟩ := hb_rl_get hj
    refine Or.inl ⟨i, r, j, hi, hk, hj1, hj2, ?_⟩
    rw [hb_plc_at (j := j) (by show (f j).1 = k; rw [hj2]; exact hk) np (fun q hq e => h.nd hq hj1 (by rw [hj2, hk]; exact e)), if_pos hj1]
  · have hno : ∀ r ∈ P, r.1 ≠ k := fun r hr z => hx ⟨r, hr, z⟩
    refine Or.inr ⟨hno, hb_plc_no np (fun i hi => hno (f i) ?_)⟩
    exact h.2.1.2.2.2.2.mem_iff.mpr (List.mem_of_getElem? (hb_rl_at hi))
/-! sums of the two sides -/
theorem hb_I.sumH (h : hb_I n ho pa tm A P na np bal mi f) (k : Int32) : hb_sm (fun p => if (f p).2.1 = k then (f p).2.2.2.1 else 0) np = hb_ls (gH k) P := by
  rw [hb_ls_perm h.2.1.2.2.2.2]
  exact hb_sm_all (fun i r hr => by rw [← (hb_rl_get hr).2]; rfl) hb_rl_len.symm
theorem hb_I.sumL (h : hb_I n ho pa tm A P na np bal mi f) (k : Int32) : hb_sm (fun p => if (f p).2.1 = k ∧ ((f p).2.2.2.2.2.2.2.1 = 1 ∨ (f p).2.2.2.2.2.2.2.1 = 2) then (f p).2.2.2.2.2.2.2.2.1 else 0) np = hb_ls (gL k) P := by
  rw [hb_ls_perm h.2.1.2.2.2.2]
  refine hb_sm_all (fun i r hr => ?_) hb_rl_len.symm
  rw [← (hb_rl_get hr).2]
  unfold gL lk
  by_cases h1 : (f i).2.1 = k
  · by_cases h2 : (f i).2.2.2.2.2.2.2.1 = 1 ∨ (f i).2.2.2.2.2.2.2.1 = 2
    · rw [if_pos ⟨h1, h2⟩, if_pos h1, if_pos h2]
    · rw [if_neg (fun z => h2 z.2), if_pos h1, if_neg h2]
  · rw [if_neg (fun z => h1 z.1), if_neg h1]
theorem hb_cls_sumH {Py : List (Nat × hbY)} (k : Int32) : hb_sm (hb_fh Py k) Py.length = hb_ls (gH k) (Py.map Prod.snd) := by
  refine hb_sm_all (fun i r hr => ?_) (by simp)
  rw [List.getElem?_map] at hr
  cases hp : Py[i]? with
  | none => rw [hp] at hr; cases hr
  | some q => rw [hp] at hr; cases hr; exact hb_fh_at (q := q.1) (r := q.2) hp
theorem hb_cls_sumL {Py : List (Nat × hbY)} (k : Int32) : hb_sm (hb_fl Py k) Py.length = hb_ls (gL k) (Py.map Prod.snd) := by
  refine hb_sm_all (fun i r hr => ?_) (by simp)
  rw [List.getElem?_map] at hr
  cases hp : Py[i]? with
  | none => rw [hp] at hr; cases hr
  | some q => rw [hp] at hr; cases hr; exact hb_fl_at (q := q.1) (r := q.2) hp
/-! ranks -/
theorem hb_cn_ct {n' : Nat} {x : Int32} : hb_cn (fun q => (f q).1) x n' = (hb_rl f n').countP (fun r => decide (r.1 < x)) := by
  induction n' with
  | zero => rfl
  | succ n' ih =>
    show hb_cn _ x n' + (if (f n').1 < x then 1 else 0) = _
    rw [hb_rl_succ, List.countP_append, ih]
    by_cases h : (f n').1 < x
    · rw [if_pos h, List.countP_singleton, if_pos (by simpa using h)]
    · rw [if_neg h, List.countP_singleton, if_neg (by simpa using h)]
theorem hb_rank {P : List hbY} (h : P.Pairwise (fun p q => p.1 < q.1)) {i : Nat} {r : hbY} (hi : P[i]? = some r) : P.countP (fun q => decide (q.1 < r.1)) = i := by
  induction P generalizing i with
  | nil => simp at hi
  | cons a L ih =>
    obtain ⟨h1, h2⟩ := List.pairwise_cons.mp h
    cases i with
    | zero =>
      simp at hi
      subst hi
      rw [List.countP_eq_zero]
      intro q hq
      rcases List.mem_cons.mp hq with z | z
      · rw [z]; simpa using hb_irr a.1
      · have := h1 q z
        simp only [decide_eq_true_eq]
        intro z2
        exact hb_irr _ (hb_lt_tr this z2)
    | succ i =>
      simp only [List.getElem?_cons_succ] at hi
      rw [List.countP_cons, ih h2 hi, if_pos (by simpa using h1 r (List.mem_of_getElem? hi))]
theorem hb_I.key_at (h : hb_I n ho pa tm A P na np bal mi f) {i : Nat} {r : hbY} (hi : P[i]? = some r) : ∃ j, j < np ∧ f j = r ∧ hb_cn (fun q => (f q).1) (f j).1 np = i ∧ ∀ p, p < j → nI (hb_cn (fun q => (f q).1) (f p).1 np) ≠ nI i := by
  have hil := (List.getElem?_eq_some_iff.mp hi).1
  have hln := h.len
  have hA := h.2.1
  have rk : ∀ p, p < np → ∃ ip, P[ip]? = some (f p) ∧ hb_cn (fun q => (f q).1) (f p).1 np = ip := by
    intro p hp
    obtain ⟨ip, hip⟩ := List.getElem?_of_mem (h.2.1.2.2.2.2.mem_iff.mpr (List.mem_of_getElem? (hb_rl_at hp)))
    exact ⟨ip, hip, by rw [hb_cn_ct, ← (h.2.1.2.2.2.2.countP_eq _), hb_rank h.2.1.2.2.2.1 hip]⟩
  obtain ⟨j, hj⟩ := List.getElem?_of_mem (h.2.1.2.2.2.2.mem_iff.mp (List.mem_of_getElem? hi))
  obtain ⟨hj1, hj2⟩ := hb_rl_get hj
  refine ⟨j, hj1, hj2, ?_, ?_⟩
  · rw [hb_cn_ct, ← (h.2.1.2.2.2.2.countP_eq _), hj2, hb_rank h.2.1.2.2.2.1 hi]
  · intro p hp z
    obtain ⟨ip, e1, e2⟩ := rk p (by omega)
    have hipl := (List.getElem?_eq_some_iff.mp e1).1
    rw [e2] at z
    have := hb_eqi (by omega) (by omega) z
    rw [this, hi] at e1
    have e3 : r = f p := Option.some.inj e1
    have := h.nd (i := p) (j := j) (by omega) hj1 (by rw [hj2, e3])
    omega
theorem hb_I.key_no (h : hb_I n ho pa tm A P na np bal mi f) {k : Int32} (hk : nI np ≤ k) : ∀ p, p < np → nI (hb_cn (fun q => (f q).1) (f p).1 np) ≠ k := by
  intro p hp z
  have hA := h.2.1
  have hln := h.len
  obtain ⟨ip, hip⟩ := List.getElem?_of_mem (h.2.1.2.2.2.2.mem_iff.mpr (List.mem_of_getElem? (hb_rl_at hp)))
  have hipl := (List.getElem?_eq_some_iff.mp hip).1
  rw [hb_cn_ct, ← (h.2.1.2.2.2.2.countP_eq _), hb_rank h.2.1.2.2.2.1 hip] at z
  rw [← z] at hk
  have := (nI_leI (by omega) (by omega)).mp hk
  omega
end PI3
