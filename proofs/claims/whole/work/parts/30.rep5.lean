/-! TICKS AND FORGET: what they do to the state -/
def hb_pass (n : Int32) (s : hbA) (r : hbY) : hbA × hbY :=
  ((s.1, s.2.1, if ((r.2.2.2.2.2.2.2.1 = 1 ∨ r.2.2.2.2.2.2.2.1 = 2) ∧ r.2.2.2.2.2.2.2.2.2 < n) then (if r.2.2.2.2.2.2.2.1 = 1 then s.2.2.1 else s.2.2.1 - r.2.2.2.2.2.2.2.2.1) else s.2.2.1, if (r.2.2.1 = 1 ∧ r.2.2.2.2.2.1 ≤ n) then s.2.2.2.1 + (0 - r.2.2.2.1) else s.2.2.2.1, if ((r.2.2.2.2.2.2.2.1 = 1 ∨ r.2.2.2.2.2.2.2.1 = 2) ∧ r.2.2.2.2.2.2.2.2.2 < n) then s.2.2.2.2 - r.2.2.2.2.2.2.2.2.1 else s.2.2.2.2),
   (r.1, r.2.1, if (r.2.2.1 = 1 ∧ r.2.2.2.2.2.1 ≤ n) then (if 0 < r.2.2.2.2.1 then 3 else 2) else r.2.2.1, if (r.2.2.1 = 1 ∧ r.2.2.2.2.2.1 ≤ n) then 0 else r.2.2.2.1, r.2.2.2.2.1, if (r.2.2.1 = 1 ∧ r.2.2.2.2.2.1 ≤ n) then 0 else r.2.2.2.2.2.1, if (r.2.2.1 = 1 ∧ r.2.2.2.2.2.1 ≤ n) then (if 0 < r.2.2.2.2.1 then r.2.2.2.2.2.1 else r.2.2.2.2.2.2.1) else r.2.2.2.2.2.2.1, if ((r.2.2.2.2.2.2.2.1 = 1 ∨ r.2.2.2.2.2.2.2.1 = 2) ∧ r.2.2.2.2.2.2.2.2.2 < n) then (if r.2.2.2.2.2.2.2.1 = 1 then 3 else 4) else r.2.2.2.2.2.2.2.1, r.2.2.2.2.2.2.2.2.1, if ((r.2.2.2.2.2.2.2.1 = 1 ∨ r.2.2.2.2.2.2.2.1 = 2) ∧ r.2.2.2.2.2.2.2.2.2 < n) then (-1) else r.2.2.2.2.2.2.2.2.2))
abbrev hbS : Type := List (Nat × hbA) × List (Nat × hbY)
def hb_tk1 (n : Int32) (S : hbS) (i : Nat) : hbS := match S.2[i]? with
  | none => S
  | some q => if q.2.2.1 = -1 then S else match S.1[q.2.2.1.toNatClampNeg]? with
    | none => S
    | some a => (S.1.set q.2.2.1.toNatClampNeg (a.1, (hb_pass n a.2 q.2).1), S.2.set i (q.1, (hb_pass n a.2 q.2).2))
def hb_tk (n : Int32) (S : hbS) : Nat → hbS
  | 0 => S
  | j + 1 => hb_tk1 n (hb_tk n S j) j
/-- a payment without an account is released and has no dispute -/
def hb_tomb (Py : List (Nat × hbY)) : Prop := ∀ q ∈ Py, q.2.2.1 = -1 → q.2.2.2.1 = 2 ∧ q.2.2.2.2.2.2.2.2.1 = 0
theorem cOK.setP {Ac : List (Nat × hbA)} {Py : List (Nat × hbY)} (h : cOK Ac Py) {i q : Nat} {r r' : hbY} (hi : Py[i]? = some (q, r)) (e1 : r'.1 = r.1) (e2 : r'.2.1 = r.2.1) : cOK Ac (Py.set i (q, r')) := by
  refine ⟨h.1, by rw [List.length_set]; exact h.2.1, ?_, ?_⟩
  · rw [List.pairwise_iff_getElem]
    intro a b ha hb hab
    have h1 : ∀ c (hc : c < (Py.set i (q, r')).length), ((Py.set i (q, r'))[c]).2.1 = (Py[c]'(by rw [List.length_set] at hc; exact hc)).2.1 := by
      intro c hc
      rw [List.getElem_set]
      by_cases hci : i = c
      · subst hci
        rw [if_pos rfl]
        obtain ⟨h3, h4⟩ := List.getElem?_eq_some_iff.mp hi
        rw [h4]
        exact e1
      · rw [if_neg hci]
    rw [h1 a ha, h1 b hb]
    exact List.pairwise_iff_getElem.mp h.2.2.1 a b _ _ hab
  · intro p hp
    rcases List.mem_or_eq_of_mem_set hp with hp | hp
    · exact h.2.2.2 p hp
    · rw [hp]
      show r'.2.1 = -1 ∨ _
      rw [e2]
      exact h.2.2.2 (q, r) (List.mem_of_getElem? hi)
theorem hb_tomb.setP {Py : List (Nat × hbY)} (h : hb_tomb Py) {i q : Nat} {r r' : hbY} (hi : Py[i]? = some (q, r)) (e2 : r'.2.1 = r.2.1) (hn : r.2.1 ≠ -1) : hb_tomb (Py.set i (q, r')) := by
  intro p hp hm
  rcases List.mem_or_eq_of_mem_set hp with hp | hp
  · exact h p hp hm
  · rw [hp] at hm
    exact absurd (e2.symm.trans hm) hn
theorem hb_pass_1 {n : Int32} {s : hbA} {r : hbY} : (hb_pass n s r).2.1 = r.1 := rfl
theorem hb_pass_2 {n : Int32} {s : hbA} {r : hbY} : (hb_pass n s r).2.2.1 = r.2.1 := rfl
/-- one step of the loop of ticks: either nothing, or a payment and its account pass -/
theorem hb_tk1_at {n : Int32} {S : hbS} {j q : Nat} {r : hbY} (hk : cOK S.1 S.2) (hj : S.2[j]? = some (q, r)) : (r.2.1 = -1 ∧ hb_tk1 n S j = S) ∨ ∃ k a s, k < 2 ^ 31 ∧ r.2.1 = nI k ∧ S.1[k]? = some (a, s) ∧ hb_tk1 n S j = (S.1.set k (a, (hb_pass n s r).1), S.2.set j (q, (hb_pass n s r).2)) := by
  rcases hk.2.2.2 (q, r) (List.mem_of_getElem? hj) with h1 | ⟨k, hl, h1⟩
  · refine Or.inl ⟨h1, ?_⟩
    unfold hb_tk1
    rw [hj]
    exact if_pos h1
  · obtain ⟨a, s, ha⟩ := hb_get2 hl
    have hA := hk.1
    have h1' : r.2.1 = nI k := h1
    refine Or.inr ⟨k, a, s, by omega, h1, ha, ?_⟩
    unfold hb_tk1
    rw [hj]
    show (if r.2.1 = -1 then S else _) = _
    rw [h1', if_neg (hb_m1 (by omega)), nI_clamp (by omega), ha]
theorem hb_tk1_ok {n : Int32} {S : hbS} {j : Nat} (hk : cOK S.1 S.2) (ht : hb_tomb S.2) : cOK (hb_tk1 n S j).1 (hb_tk1 n S j).2 ∧ hb_tomb (hb_tk1 n S j).2 ∧ (hb_tk1 n S j).2.length = S.2.length := by
  cases hj : S.2[j]? with
  | none =>
    have e : hb_tk1 n S j = S := by unfold hb_tk1; rw [hj]
    rw [e]
    exact ⟨hk, ht, rfl⟩
  | some p =>
    obtain ⟨q, r⟩ := p
    rcases hb_tk1_at (n := n) hk hj with ⟨-, e⟩ | ⟨k, a, s, hk2, e1, e2, e⟩
    · rw [e]; exact ⟨hk, ht, rfl⟩
    · rw [e]
      exact ⟨(hk.setP hj hb_pass_1 hb_pass_2).setA, ht.setP hj hb_pass_2 (by rw [e1]; exact hb_m1 hk2), by rw [List.length_set]⟩
theorem hb_tk_ok {n : Int32} {S : hbS} (hk : cOK S.1 S.2) (ht : hb_tomb S.2) : ∀ j, cOK (hb_tk n S j).1 (hb_tk n S j).2 ∧ hb_tomb (hb_tk n S j).2 ∧ (hb_tk n S j).2.length = S.2.length := by
  intro j
  induction j with
  | zero => exact ⟨hk, ht, rfl⟩
  | succ j ih =>
    obtain ⟨h1, h2, h3⟩ := hb_tk1_ok (n := n) (j := j) ih.1 ih.2.1
    exact ⟨h1, h2, h3.trans ih.2.2⟩
theorem cR.time {cO : ClassId} {e0 : Nat} {M M1 : hb_M} {x la lp nb ra rp : Nat} {ho pa tm tm' : Int32} {Ac : List (Nat × hbA)} {Py : List (Nat × hbY)} (h : cR cO e0 M x la lp nb ra rp ho pa tm Ac Py) (m1 : M1 x = some (xE ho pa la lp nb tm')) (hof : hb_off [x] M M1) : cR cO e0 M1 x la lp nb ra rp ho pa tm' Ac Py := by
  have fx := h.1
  have kp := hof.kp
  refine ⟨m1, h.2.1.kp kp (fun fs hf => hb_n1 (fun z => by rw [z, fx] at hf; cases hf)) (fun y hf => hb_n1 (fun z => by rw [z, fx] at hf; cases hf)), h.2.2.1.kp kp (fun fs hf => hb_n1 (fun z => by rw [z, fx] at hf; cases hf)) (fun y hf => hb_n1 (fun z => by rw [z, fx] at hf; cases hf)), h.2.2.2.1, h.2.2.2.2.1, ?_, kp _ _ (hb_n1 (fun z => ?_)) h.2.2.2.2.2.2.1, fun i a r hi => ?_, fun i q r hi => ?_⟩
  · rw [hof e0 (hb_n1 (fun z => by have h1 := h.2.2.2.2.2.1; rw [z, fx] at h1; cases h1))]
    exact h.2.2.2.2.2.1
  · have h1 := h.2.2.2.2.2.2.1; rw [z, fx] at h1; cases h1
  · have fb := h.ac hi; exact kp _ _ (hb_n1 (fun z => by rw [z, fx] at fb; cases fb)) fb
  · have fb := h.py hi; exact kp _ _ (hb_n1 (fun z => by rw [z, fx] at fb; cases fb)) fb
theorem cR.rem {cO : ClassId} {e0 : Nat} {M M1 : hb_M} {x la lp nb ra rp : Nat} {ho pa tm : Int32} {Ac : List (Nat × hbA)} {Py : List (Nat × hbY)} (h : cR cO e0 M x la lp nb ra rp ho pa tm Ac Py) {j : Nat} (hl : hb_lst cO e0 M1 lp rp ((Py.map Prod.fst).eraseIdx j)) (hof : hb_off [lp, rp] M M1) (m0 : M1 e0 = none) : cR cO e0 M1 x la lp nb ra rp ho pa tm Ac (Py.eraseIdx j) := by
  have hne := h.2.2.2.1
  have kp := hof.kp
  have e1 : (Py.eraseIdx j).map Prod.fst = (Py.map Prod.fst).eraseIdx j := by
    apply List.ext_getElem?
    intro i
    rw [List.getElem?_map, List.getElem?_eraseIdx, List.getElem?_eraseIdx]
    by_cases h : i < j
    · rw [if_pos h, if_pos h, List.getElem?_map]
    · rw [if_neg h, if_neg h, List.getElem?_map]
  refine ⟨h.kpl h.2.2.1 kp h.1 (by decide), ?_, by rw [e1]; exact hl, hne, h.2.2.2.2.1, m0, h.kpl h.2.2.1 kp h.2.2.2.2.2.2.1 (by decide), fun i a t hi => h.kpl h.2.2.1 kp (h.ac hi) (by decide), ?_⟩
  · obtain ⟨md, h1, h2⟩ := h.2.2.1
    refine h.2.1.kp kp (fun fs hf => hb_n2 hne (fun z => ?_)) (fun y hf => hb_n2 (fun z => ?_) (fun z => ?_))
    · rcases h2 with ⟨h2, -⟩ | ⟨cap, f, h3, -⟩
      · rw [z, h2, h.2.2.2.2.2.1] at hf; cases hf
      · rw [z, h3] at hf; cases hf
    · rw [z, h1] at hf; cases hf
    · have := h.2.2.2.2.1 z
      rw [this, h.2.2.2.2.2.1] at hf; cases hf
  · intro i q t hi
    rw [List.getElem?_eraseIdx] at hi
    by_cases h1 : i < j
    · rw [if_pos h1] at hi
      exact h.kpl h.2.2.1 kp (h.py hi) (by decide)
    · rw [if_neg h1] at hi
      exact h.kpl h.2.2.1 kp (h.py hi) (by decide)
theorem hb_off.same {M M1 : hb_M} {a q : Nat} (h : hb_off [a, q] M M1) (h1 : M1 a = M a) (h2 : M1 q = M q) : M1 = M := by
  funext b
  by_cases z1 : b = a
  · rw [z1]; exact h1
  · by_cases z2 : b = q
    · rw [z2]; exact h2
    · exact h b (hb_n2 z1 z2)
