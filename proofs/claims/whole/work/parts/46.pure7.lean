/-! PURE PART: ticks of both sides -/
theorem hb_tmi {tm : Int32} {i : Nat} (h0 : 0 ≤ tm.toInt) (h1 : tm.toInt + i ≤ 1000000) : (tm + nI i).toInt = tm.toInt + i := by
  have e := nI_toInt (n := i) (by omega)
  rw [q32_add (by rw [e]; omega) (by rw [e]; omega), e]
theorem hb_it_pr {na : Nat} {tm : Int32} {r : hbY} (h : hb_ri na tm r) (hna : na ≤ 16) (h0 : 0 ≤ tm.toInt) : ∀ i : Nat, tm.toInt + i ≤ 1000000 → hb_it tm i r = hb_pr (tm + nI i) r ∧ ∀ k, k < 16 → hb_cB tm k i r = qB (tm + nI i) (nI k) r := by
  intro i
  induction i with
  | zero =>
    intro _
    have n1 : ¬ (yS r = 1 ∧ yU r ≤ tm) := fun z => by
      have := (h.2.2.1 z.1).1
      have z2 := Int32.le_iff_toInt_le.mp z.2
      omega
    have n2 : ¬ ((yD r = 1 ∨ yD r = 2) ∧ yL r < tm) := fun z => by
      have := h.2.2.2.2.2.2.2.1 z.1
      have z2 := Int32.lt_iff_toInt_lt.mp z.2
      omega
    rw [hb_t0]
    refine ⟨(hb_pr_id n1 n2).symm, fun k _ => ?_⟩
    show (0 : Int64) = _
    unfold qB
    rw [if_neg (c := yD r = 2 ∧ yL r < tm) (fun z => n2 ⟨Or.inr z.1, z.2⟩), ite_self]
  | succ i ih =>
    intro hi
    obtain ⟨h1, h2⟩ := ih (by push_cast at hi; omega)
    have e1 := hb_tmi (tm := tm) (i := i) h0 (by push_cast at hi; omega)
    have e2 := hb_tmi (tm := tm) (i := i + 1) h0 hi
    have e3 : (tm + nI (i + 1)).toInt = (tm + nI i).toInt + 1 := by rw [e1, e2]; push_cast; omega
    refine ⟨?_, fun k hk => ?_⟩
    · show hb_rp (tm + nI (i + 1)) (hb_it tm i r) = _
      rw [h1]
      exact hb_rp_pr h (by omega) e3
    · show hb_cB tm k i r + rB (tm + nI (i + 1)) k (hb_it tm i r) = _
      rw [h1, h2 k hk]
      exact hb_rB_pr h hna hk e3
theorem hb_ls_le {f g : hbY → Int64} {L : List hbY} (h : ∀ r ∈ L, 0 ≤ (f r).toInt ∧ (f r).toInt ≤ (g r).toInt ∧ (g r).toInt ≤ 1000000000000) (hn : L.length ≤ 1000) : (hb_ls f L).toInt ≤ (hb_ls g L).toInt := by
  induction L with
  | nil => exact Int.le_refl _
  | cons r L ih =>
    have hn' : L.length + 1 ≤ 1000 := hn
    have h1 := ih (fun q hq => h q (List.mem_cons_of_mem _ hq)) (by omega)
    obtain ⟨h3, h4, h5⟩ := h r List.mem_cons_self
    have b1 := hb_ls_bd (f := f) (L := L) (fun q hq => ⟨(h q (List.mem_cons_of_mem _ hq)).1, by have := h q (List.mem_cons_of_mem _ hq); omega⟩) (by omega)
    have b2 := hb_ls_bd (f := g) (L := L) (fun q hq => ⟨by have := h q (List.mem_cons_of_mem _ hq); omega, (h q (List.mem_cons_of_mem _ hq)).2.2⟩) (by omega)
    show (f r + hb_ls f L).toInt ≤ (g r + hb_ls g L).toInt
    rw [q64_add (by omega) (by omega), q64_add (by omega) (by omega)]
    omega
section TI
variable {n : Nat} {ho pa tm : Int32} {A : List hbA} {P : List hbY} {na np : Nat} {bal mi : Nat → Int64} {f : Nat → hbY}
theorem hb_qB_bd {T k : Int32} {r : hbY} (h : hb_ri na tm r) : 0 ≤ (qB T k r).toInt ∧ (qB T k r).toInt ≤ 1000000000000 := by
  unfold qB
  have := h.2.2.2.2.2.2.2.2.2
  by_cases h1 : yA r = k
  · rw [if_pos h1]
    by_cases h2 : yD r = 2 ∧ yL r < T
    · rw [if_pos h2]; exact this
    · rw [if_neg h2, q64_z]; omega
  · rw [if_neg h1, q64_z]; omega
theorem hb_gLq {T k : Int32} {r : hbY} (h : hb_ri na tm r) : (gL k (hb_pr T r) + qB T k r).toInt ≤ (gL k r).toInt ∧ 0 ≤ (gL k (hb_pr T r) + qB T k r).toInt := by
  rw [hb_pr_gL]
  have hm := h.2.2.2.2.2.2.2.2.2
  unfold gL qL qB lk
  by_cases h1 : yA r = k
  · simp only [if_pos h1]
    by_cases h2 : (yD r = 1 ∨ yD r = 2)
    · simp only [if_pos h2]
      by_cases h3 : yL r < T
      · have c1 : (yD r = 1 ∨ yD r = 2) ∧ yL r < T := ⟨h2, h3⟩
        simp only [if_pos c1]
        have e : yM r - yM r = 0 := by grind
        rw [e, Int64.zero_add]
        by_cases h4 : yD r = 2 ∧ yL r < T
        · rw [if_pos h4]; omega
        · rw [if_neg h4, q64_z]; omega
      · have c1 : ¬ ((yD r = 1 ∨ yD r = 2) ∧ yL r < T) := fun z => h3 z.2
        have c2 : ¬ (yD r = 2 ∧ yL r < T) := fun z => h3 z.2
        simp only [if_neg c1, if_neg c2]
        have e : yM r - 0 + 0 = yM r := by grind
        rw [e]
        omega
    · have c1 : ¬ ((yD r = 1 ∨ yD r = 2) ∧ yL r < T) := fun z => h2 z.1
      have c2 : ¬ (yD r = 2 ∧ yL r < T) := fun z => h2 (Or.inr z.1)
      simp only [if_neg h2, if_neg c1, if_neg c2]
      have e : (0 : Int64) - 0 + 0 = 0 := by decide
      rw [e, q64_z]
      omega
  · simp only [if_neg h1]
    have e : (0 : Int64) - 0 + 0 = 0 := by decide
    rw [e, q64_z]
    omega
theorem hb_gHq {T k : Int32} {r : hbY} (h : hb_ri na tm r) : (gH k (hb_pr T r)).toInt ≤ (gH k r).toInt := by
  have hh := h.2.2.2.2.2.2.2.2.1
  unfold gH
  show (if yA r = k then (if yS r = 1 ∧ yU r ≤ T then 0 else yH r) else 0 : Int64).toInt ≤ _
  by_cases h1 : yA r = k
  · simp only [if_pos h1]
    by_cases h2 : yS r = 1 ∧ yU r ≤ T
    · rw [if_pos h2, q64_z]; omega
    · rw [if_neg h2]; exact Int.le_refl _
  · simp only [if_neg h1]
    exact Int.le_refl _
theorem hb_I.ticks (h : hb_I n ho pa tm A P na np bal mi f) (hn : n < 520) {nn : Nat} (hT : tm.toInt + nn ≤ 1000000) {A' : List hbA} (hl : A'.length = na) (hA' : ∀ c s', A'[c]? = some s' → ∃ s, A[c]? = some s ∧ s' = hb_ta (tm + nI nn) (nI c) P s) :
    hb_I (n + 1) ho pa (tm + nI nn) A' (P.map (hb_pr (tm + nI nn))) na np (hb_rn tm (bal, f) np nn).1 mi (hb_rn tm (bal, f) np nn).2 := by
  have hA := h.2.1
  have h0 := h.1.2.2.2.1
  have eT := hb_tmi (tm := tm) (i := nn) h0 hT
  obtain ⟨r1, r2⟩ := hb_rn_run (tm := tm) (bal := bal) (f := f) (np := np) nn
  have hlen : P.length ≤ 60 := by rw [h.len]; exact hA.2.2.1
  have hrow : ∀ r ∈ P, hb_ri na (tm + nI nn) (hb_pr (tm + nI nn) r) := fun r hr => hb_pr_ri (h.2.2.1 r hr) h0 (by omega)
  refine ⟨⟨by omega, h.1.2.1, h.1.2.2.1, by omega, by omega⟩, ⟨hl, hA.2.1, hA.2.2.1, ?_, ?_⟩, ?_, ?_⟩
  · rw [List.pairwise_map]
    exact hA.2.2.2.1.imp (fun hab => hab)
  · rw [hb_rl_cg (g := fun p => hb_it tm nn (f p)) r1, hb_rl_map]
    have e : (hb_rl f np).map (hb_it tm nn) = (hb_rl f np).map (hb_pr (tm + nI nn)) := List.map_congr_left (fun r hr => (hb_it_pr (h.2.2.1 r (hA.2.2.2.2.mem_iff.mpr hr)) hA.2.1 h0 nn hT).1)
    rw [e]
    exact hA.2.2.2.2.map _
  · intro q hq
    obtain ⟨r, hr, rfl⟩ := List.mem_map.mp hq
    exact hrow r hr
  · intro c s' hc
    obtain ⟨s, hs, rfl⟩ := hA' c s' hc
    obtain ⟨⟨a1, a2, a3, a4, a5, a6⟩, a7, a8⟩ := h.2.2.2 c s hs
    have hcl := (List.getElem?_eq_some_iff.mp hs).1
    have gh : hb_ls (gH (nI c)) (P.map (hb_pr (tm + nI nn))) = hb_ls (gH (nI c)) P + hb_ls (qH (tm + nI nn) (nI c)) P := by
      rw [hb_ls_map, ← hb_ls_add]
      exact hb_ls_cg (fun r _ => hb_pr_gH)
    have gl : hb_ls (gL (nI c)) (P.map (hb_pr (tm + nI nn))) + hb_ls (qL (tm + nI nn) (nI c)) P = hb_ls (gL (nI c)) P := by
      rw [hb_ls_map, ← hb_ls_add]
      refine hb_ls_cg (fun r _ => ?_)
      rw [hb_pr_gL]
      grind
    have gb : hb_ls (hb_cB tm c nn) (hb_rl f np) = hb_ls (qB (tm + nI nn) (nI c)) P := by
      rw [← hb_ls_perm hA.2.2.2.2]
      exact hb_ls_cg (fun r hr => (hb_it_pr (h.2.2.1 r hr) hA.2.1 h0 nn hT).2 c (by omega))
    have bB := hb_ls_bd (f := qB (tm + nI nn) (nI c)) (L := P) (fun r hr => hb_qB_bd (h.2.2.1 r hr)) (by omega)
    have bH' := hb_ls_bd (f := gH (nI c)) (L := P.map (hb_pr (tm + nI nn))) (fun q hq => by
      obtain ⟨r, hr, rfl⟩ := List.mem_map.mp hq
      exact hb_gH_bd (hrow r hr)) (by rw [List.length_map]; omega)
    have bL' := hb_ls_bd (f := gL (nI c)) (L := P.map (hb_pr (tm + nI nn))) (fun q hq => by
      obtain ⟨r, hr, rfl⟩ := List.mem_map.mp hq
      exact hb_gL_bd (hrow r hr)) (by rw [List.length_map]; omega)
    rw [List.length_map] at bH' bL'
    have leH : (hb_ls (gH (nI c)) (P.map (hb_pr (tm + nI nn)))).toInt ≤ (hb_ls (gH (nI c)) P).toInt := by
      rw [hb_ls_map]
      exact hb_ls_le (fun r hr => ⟨(hb_gH_bd (hrow r hr)).1, hb_gHq (h.2.2.1 r hr), (hb_gH_bd (h.2.2.1 r hr)).2⟩) (by omega)
    have leL : (hb_ls (gL (nI c)) (P.map (hb_pr (tm + nI nn)))).toInt + (hb_ls (qB (tm + nI nn) (nI c)) P).toInt ≤ (hb_ls (gL (nI c)) P).toInt := by
      have e := hb_ls_le (f := fun r => gL (nI c) (hb_pr (tm + nI nn) r) + qB (tm + nI nn) (nI c) r) (g := gL (nI c)) (L := P) (fun r hr => ⟨(hb_gLq (h.2.2.1 r hr)).2, (hb_gLq (h.2.2.1 r hr)).1, (hb_gL_bd (h.2.2.1 r hr)).2⟩) (by omega)
      rw [hb_ls_add, ← hb_ls_map, q64_add (by omega) (by omega)] at e
      exact e
    have bf := h.free hs
    have i1 : (s.2.2.1 - hb_ls (qB (tm + nI nn) (nI c)) P).toInt = (aB s).toInt - (hb_ls (qB (tm + nI nn) (nI c)) P).toInt := q64_sub (by show _ ≤ (aB s).toInt - _; omega) (by show (aB s).toInt - _ < _; omega)
    refine ⟨⟨?_, ?_, ?_, a4, a5, ?_⟩, ?_, a8⟩
    · show s.2.2.2.1 + hb_ls (qH (tm + nI nn) (nI c)) P = _
      rw [gh, show s.2.2.2.1 = hb_ls (gH (nI c)) P from a1]
    · show s.2.2.2.2 - hb_ls (qL (tm + nI nn) (nI c)) P = _
      rw [show s.2.2.2.2 = hb_ls (gL (nI c)) P from a2, ← gl]
      grind
    · show (s.2.2.1 - hb_ls (qB (tm + nI nn) (nI c)) P).toInt ≤ _
      rw [i1]
      push_cast at *
      omega
    · unfold hb_fi at *
      show 0 ≤ (s.2.2.1 - hb_ls (qB (tm + nI nn) (nI c)) P).toInt - (aM s).toInt - _ - _ ∨ (aF s).toInt ≤ (s.2.2.1 - hb_ls (qB (tm + nI nn) (nI c)) P).toInt - (aM s).toInt - _ - _
      rw [i1]
      rcases a6 with z | z
      · left; omega
      · right; omega
    · rw [r2 c, gb, a7]
      rfl
end TI
