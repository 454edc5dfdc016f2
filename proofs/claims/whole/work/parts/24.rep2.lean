/-! THE CLASS'S STATE after a change of some cells -/
theorem hb_lst.kp {cO : ClassId} {e0 : Nat} {M M1 : hb_M} {t ar : Nat} {xs L : List Nat} (h : hb_lst cO e0 M t ar xs) (hk : hb_kp L M M1) (ht : ∀ fs, M t = some (.inr (3, fs)) → t ∉ L) (ha : ∀ z, M ar = some (.inl z) → ar ∉ L) : hb_lst cO e0 M1 t ar xs := by
  obtain ⟨md, h1, h2⟩ := h
  refine ⟨md, hk t _ (ht _ h1) h1, ?_⟩
  rcases h2 with h2 | ⟨cap, f, h3, h4⟩
  · exact Or.inl h2
  · exact Or.inr ⟨cap, f, hk ar _ (ha _ h3) h3, h4⟩
theorem hb_m1 {n : Nat} (h : n < 2 ^ 31) : nI n ≠ -1 := by
  intro z
  have h1 := nI_toInt h
  rw [z] at h1
  have h2 : (-1 : Int32).toInt = -1 := by decide
  omega
theorem hb_eqi {a b : Nat} (ha : a < 2 ^ 31) (hb : b < 2 ^ 31) (h : nI a = nI b) : a = b := (nI_eq ha hb).mp h
section CR3
variable {cO : ClassId} {e0 : Nat} {M M1 : hb_M} {x la lp nb ra rp : Nat} {ho pa tm : Int32} {Ac : List (Nat × hbA)} {Py : List (Nat × hbY)}
theorem hb_acc_nI {nb k a : Nat} {r : hbA} (hk : k < 2 ^ 31) (ha : Ac[k]? = some (a, r)) : hb_acc nb Ac (nI k) = a := by
  unfold hb_acc
  rw [if_neg (hb_m1 hk), nI_clamp hk, ha]
  rfl
theorem hb_acc_set {nb k a : Nat} {r r' : hbA} (ha : Ac[k]? = some (a, r)) (z : Int32) : hb_acc nb (Ac.set k (a, r')) z = hb_acc nb Ac z := by
  unfold hb_acc
  by_cases hz : z = -1
  · rw [if_pos hz, if_pos hz]
  · rw [if_neg hz, if_neg hz, List.getElem?_set]
    by_cases h2 : k = z.toNatClampNeg
    · rw [if_pos h2, if_pos (List.getElem?_eq_some_iff.mp ha).1, ← h2, ha]
      rfl
    · rw [if_neg h2]
theorem hb_map_set {α β : Type} {L : List (α × β)} {k : Nat} {a : α} {r r' : β} (ha : L[k]? = some (a, r)) : (L.set k (a, r')).map Prod.fst = L.map Prod.fst := by
  apply List.ext_getElem?
  intro i
  rw [List.getElem?_map, List.getElem?_map, List.getElem?_set]
  by_cases h : k = i
  · subst h
    rw [if_pos rfl, if_pos (List.getElem?_eq_some_iff.mp ha).1, ha]
    rfl
  · rw [if_neg h]
theorem hb_set_at {α : Type} {L : List α} {k i : Nat} {a b c : α} (ha : L[k]? = some a) (h : (L.set k b)[i]? = some c) : (i = k ∧ c = b) ∨ (i ≠ k ∧ L[i]? = some c) := by
  rw [List.getElem?_set] at h
  by_cases hk : k = i
  · subst hk
    rw [if_pos rfl, if_pos (List.getElem?_eq_some_iff.mp ha).1] at h
    exact Or.inl ⟨rfl, (Option.some.inj h).symm⟩
  · rw [if_neg hk] at h
    exact Or.inr ⟨fun z => hk z.symm, h⟩
/-- a payment and its account have changed -/
theorem cR.upd (h : cR cO e0 M x la lp nb ra rp ho pa tm Ac Py) (hk : cOK Ac Py) {i q k a : Nat} {r r' : hbY} {s s' : hbA} (hi : Py[i]? = some (q, r)) (hka : r.2.1 = nI k) (ha : Ac[k]? = some (a, s)) (m1 : M1 a = some (aE (nI k) s')) (m2 : M1 q = some (pE a r')) (hof : hb_off [a, q] M M1) (e1 : r'.1 = r.1) (e2 : r'.2.1 = r.2.1) : cR cO e0 M1 x la lp nb ra rp ho pa tm (Ac.set k (a, s')) (Py.set i (q, r')) := by
  have fa := h.ac ha
  have fq := h.py hi
  have hkl := (List.getElem?_eq_some_iff.mp ha).1
  have hA := hk.1
  have kp := hof.kp
  refine ⟨kp _ _ (hb_n2 (fun z => ?_) (fun z => ?_)) h.1, ?_, ?_, h.2.2.2.1, h.2.2.2.2.1, ?_, kp _ _ (hb_n2 (fun z => ?_) (fun z => ?_)) h.2.2.2.2.2.2.1, ?_, ?_⟩
  · have h1 := h.1; rw [z, fa] at h1; cases h1
  · have h1 := h.1; rw [z, fq] at h1; cases h1
  · rw [hb_map_set ha]
    refine h.2.1.kp kp (fun fs hf => hb_n2 (fun z => ?_) (fun z => ?_)) (fun y hf => hb_n2 (fun z => ?_) (fun z => ?_))
    · rw [z, fa] at hf; cases hf
    · rw [z, fq] at hf; cases hf
    · rw [z, fa] at hf; cases hf
    · rw [z, fq] at hf; cases hf
  · rw [hb_map_set hi]
    refine h.2.2.1.kp kp (fun fs hf => hb_n2 (fun z => ?_) (fun z => ?_)) (fun y hf => hb_n2 (fun z => ?_) (fun z => ?_))
    · rw [z, fa] at hf; cases hf
    · rw [z, fq] at hf; cases hf
    · rw [z, fa] at hf; cases hf
    · rw [z, fq] at hf; cases hf
  · rw [hof e0 (hb_n2 (fun z => ?_) (fun z => ?_))]
    · exact h.2.2.2.2.2.1
    · have h1 := h.2.2.2.2.2.1; rw [z, fa] at h1; cases h1
    · have h1 := h.2.2.2.2.2.1; rw [z, fq] at h1; cases h1
  · have h1 := h.2.2.2.2.2.2.1
    rw [z, fa] at h1
    have h2 : nI k = -1 := by injection h1 with h1; injection h1 with h1; injection h1 with _ h1; injection h1 with h1 _; injection h1
    exact hb_m1 (by omega) h2
  · have h1 := h.2.2.2.2.2.2.1; rw [z, fq] at h1; cases h1
  · intro j b t hj
    rcases hb_set_at ha hj with ⟨rfl, hc⟩ | ⟨hne, hj⟩
    · cases hc; exact m1
    · have fb := h.ac hj
      refine kp _ _ (hb_n2 (fun z => ?_) (fun z => ?_)) fb
      · rw [z, fa] at fb
        have h2 : nI k = nI j := by injection fb with h1; injection h1 with h1; injection h1 with _ h1; injection h1 with h1 _; injection h1
        exact hne (hb_eqi (by omega) (by have := (List.getElem?_eq_some_iff.mp hj).1; omega) h2).symm
      · rw [z, fq] at fb; cases fb
  · intro j b t hj
    rw [hb_acc_set ha]
    rcases hb_set_at hi hj with ⟨rfl, hc⟩ | ⟨hne, hj⟩
    · cases hc
      rw [e2, hka, hb_acc_nI (by omega) ha]
      exact m2
    · have fb := h.py hj
      refine kp _ _ (hb_n2 (fun z => ?_) (fun z => ?_)) fb
      · rw [z, fa] at fb; cases fb
      · rw [z, fq] at fb
        have h2 : r.1 = t.1 := by injection fb with h1; injection h1 with h1; injection h1 with _ h1; injection h1 with h1 _; injection h1
        rcases Nat.lt_or_gt_of_ne hne with hl | hl
        · have := hb_pw hk.2.2.1 hl hj hi; rw [h2] at this; exact hb_irr _ this
        · have := hb_pw hk.2.2.1 hl hi hj; rw [h2] at this; exact hb_irr _ this
/-- a payment alone has changed -/
theorem cR.updP (h : cR cO e0 M x la lp nb ra rp ho pa tm Ac Py) (hk : cOK Ac Py) {i q : Nat} {r r' : hbY} (hi : Py[i]? = some (q, r)) (m2 : M1 q = some (pE (hb_acc nb Ac r.2.1) r')) (hof : hb_off [q] M M1) (e1 : r'.1 = r.1) (e2 : r'.2.1 = r.2.1) : cR cO e0 M1 x la lp nb ra rp ho pa tm Ac (Py.set i (q, r')) := by
  have fq := h.py hi
  have kp := hof.kp
  refine ⟨kp _ _ (hb_n1 (fun z => ?_)) h.1, ?_, ?_, h.2.2.2.1, h.2.2.2.2.1, ?_, kp _ _ (hb_n1 (fun z => ?_)) h.2.2.2.2.2.2.1, ?_, ?_⟩
  · have h1 := h.1; rw [z, fq] at h1; cases h1
  · refine h.2.1.kp kp (fun fs hf => hb_n1 (fun z => ?_)) (fun y hf => hb_n1 (fun z => ?_))
    · rw [z, fq] at hf; cases hf
    · rw [z, fq] at hf; cases hf
  · rw [hb_map_set hi]
    refine h.2.2.1.kp kp (fun fs hf => hb_n1 (fun z => ?_)) (fun y hf => hb_n1 (fun z => ?_))
    · rw [z, fq] at hf; cases hf
    · rw [z, fq] at hf; cases hf
  · rw [hof e0 (hb_n1 (fun z => ?_))]
    · exact h.2.2.2.2.2.1
    · have h1 := h.2.2.2.2.2.1; rw [z, fq] at h1; cases h1
  · have h1 := h.2.2.2.2.2.2.1; rw [z, fq] at h1; cases h1
  · intro j b t hj
    have fb := h.ac hj
    exact kp _ _ (hb_n1 (fun z => by rw [z, fq] at fb; cases fb)) fb
  · intro j b t hj
    rcases hb_set_at hi hj with ⟨rfl, hc⟩ | ⟨hne, hj⟩
    · cases hc
      rw [e2]
      exact m2
    · have fb := h.py hj
      refine kp _ _ (hb_n1 (fun z => ?_)) fb
      rw [z, fq] at fb
      have h2 : r.1 = t.1 := by injection fb with h1; injection h1 with h1; injection h1 with _ h1; injection h1 with h1 _; injection h1
      rcases Nat.lt_or_gt_of_ne hne with hl | hl
      · have := hb_pw hk.2.2.1 hl hj hi; rw [h2] at this; exact hb_irr _ this
      · have := hb_pw hk.2.2.1 hl hi hj; rw [h2] at this; exact hb_irr _ this
/-- an account alone has changed -/
theorem cR.updA (h : cR cO e0 M x la lp nb ra rp ho pa tm Ac Py) (hk : cOK Ac Py) {k a : Nat} {s s' : hbA} (ha : Ac[k]? = some (a, s)) (m1 : M1 a = some (aE (nI k) s')) (kp : hb_kp [a] M M1) (m0 : M1 e0 = none) : cR cO e0 M1 x la lp nb ra rp ho pa tm (Ac.set k (a, s')) Py := by
  have fa := h.ac ha
  have hkl := (List.getElem?_eq_some_iff.mp ha).1
  have hA := hk.1
  refine ⟨kp _ _ (hb_n1 (fun z => ?_)) h.1, ?_, ?_, h.2.2.2.1, h.2.2.2.2.1, m0, kp _ _ (hb_n1 (fun z => ?_)) h.2.2.2.2.2.2.1, ?_, ?_⟩
  · have h1 := h.1; rw [z, fa] at h1; cases h1
  · rw [hb_map_set ha]
    refine h.2.1.kp kp (fun fs hf => hb_n1 (fun z => ?_)) (fun y hf => hb_n1 (fun z => ?_))
    · rw [z, fa] at hf; cases hf
    · rw [z, fa] at hf; cases hf
  · refine h.2.2.1.kp kp (fun fs hf => hb_n1 (fun z => ?_)) (fun y hf => hb_n1 (fun z => ?_))
    · rw [z, fa] at hf; cases hf
    · rw [z, fa] at hf; cases hf
  · have h1 := h.2.2.2.2.2.2.1
    rw [z, fa] at h1
    have h2 : nI k = -1 := by injection h1 with h1; injection h1 with h1; injection h1 with _ h1; injection h1 with h1 _; injection h1
    exact hb_m1 (by omega) h2
  · intro j b t hj
    rcases hb_set_at ha hj with ⟨rfl, hc⟩ | ⟨hne, hj⟩
    · cases hc; exact m1
    · have fb := h.ac hj
      refine kp _ _ (hb_n1 (fun z => ?_)) fb
      rw [z, fa] at fb
      have h2 : nI k = nI j := by injection fb with h1; injection h1 with h1; injection h1 with _ h1; injection h1 with h1 _; injection h1
      exact hne (hb_eqi (by omega) (by have := (List.getElem?_eq_some_iff.mp hj).1; omega) h2).symm
  · intro j b t hj
    rw [hb_acc_set ha]
    have fb := h.py hj
    exact kp _ _ (hb_n1 (fun z => by rw [z, fa] at fb; cases fb)) fb
theorem cR.obP (h : cR cO e0 M x la lp nb ra rp ho pa tm Ac Py) : hb_obj M (Py.map Prod.fst) := by
  intro z hz
  obtain ⟨⟨q, r⟩, hq, rfl⟩ := List.mem_map.mp hz
  obtain ⟨i, hi⟩ := List.getElem?_of_mem hq
  exact ⟨1, _, h.py hi, Or.inr rfl⟩
theorem cR.obA (h : cR cO e0 M x la lp nb ra rp ho pa tm Ac Py) : hb_obj M (Ac.map Prod.fst) := by
  intro z hz
  obtain ⟨⟨q, r⟩, hq, rfl⟩ := List.mem_map.mp hz
  obtain ⟨i, hi⟩ := List.getElem?_of_mem hq
  exact ⟨0, _, h.ac hi, Or.inl rfl⟩
/-- only cells that were none have come -/
theorem cR.more (h : cR cO e0 M x la lp nb ra rp ho pa tm Ac Py) (kp : hb_kp [] M M1) (m0 : M1 e0 = none) : cR cO e0 M1 x la lp nb ra rp ho pa tm Ac Py := by
  have n0 : ∀ b : Nat, b ∉ ([] : List Nat) := fun b => by simp
  exact ⟨kp _ _ (n0 _) h.1, h.2.1.kp kp (fun _ _ => n0 _) (fun _ _ => n0 _), h.2.2.1.kp kp (fun _ _ => n0 _) (fun _ _ => n0 _), h.2.2.2.1, h.2.2.2.2.1, m0, kp _ _ (n0 _) h.2.2.2.2.2.2.1, fun i a r hi => kp _ _ (n0 _) (h.ac hi), fun i q r hi => kp _ _ (n0 _) (h.py hi)⟩
/-- a list's cells have changed: what is neither the list nor its array is kept -/
theorem cR.kpl (h : cR cO e0 M x la lp nb ra rp ho pa tm Ac Py) {t ar : Nat} {xs : List Nat} (hl : hb_lst cO e0 M t ar xs) (kp : hb_kp [t, ar] M M1) {b ci : Nat} {fs : List Value} (hb : M b = some (.inr (ci, fs))) (hc : ci ≠ 3) : M1 b = some (.inr (ci, fs)) := by
  obtain ⟨md, h1, h2⟩ := hl
  refine kp _ _ (hb_n2 (fun z => ?_) (fun z => ?_)) hb
  · rw [z, h1] at hb; cases hb; exact hc rfl
  · rcases h2 with ⟨h2, -⟩ | ⟨cap, f, h3, -⟩
    · rw [z, h2, h.2.2.2.2.2.1] at hb; cases hb
    · rw [z, h3] at hb; cases hb
theorem hb_map_ins {α β : Type} {L : List (α × β)} {j : Nat} {a : α} {r : β} : (L.insertIdx j (a, r)).map Prod.fst = (L.map Prod.fst).insertIdx j a := by
  apply List.ext_getElem?
  intro i
  rw [List.getElem?_map, List.getElem?_insertIdx, List.getElem?_insertIdx, List.length_map]
  by_cases h : i < j
  · rw [if_pos h, if_pos h, List.getElem?_map]
  · rw [if_neg h, if_neg h]
    by_cases h2 : i = j
    · rw [if_pos h2, if_pos h2]
      by_cases h3 : i ≤ L.length
      · rw [if_pos h3, if_pos h3]; rfl
      · rw [if_neg h3, if_neg h3]; rfl
    · rw [if_neg h2, if_neg h2, List.getElem?_map]
/-- a payment has come into the list -/
theorem cR.ins (h : cR cO e0 M x la lp nb ra rp ho pa tm Ac Py) {j p0 rp1 : Nat} {r : hbY} (hj : j ≤ Py.length) (fp : M p0 = some (pE (hb_acc nb Ac r.2.1) r)) (hl : hb_lst cO e0 M1 lp rp1 ((Py.map Prod.fst).insertIdx j p0)) (hr : rp1 = rp ∨ M rp1 = none) (kp : hb_kp [lp, rp] M M1) (m0 : M1 e0 = none) : cR cO e0 M1 x la lp nb ra rp1 ho pa tm Ac (Py.insertIdx j (p0, r)) := by
  have hne := h.2.2.2.1
  refine ⟨h.kpl h.2.2.1 kp h.1 (by decide), ?_, by rw [hb_map_ins]; exact hl, hne, ?_, m0, h.kpl h.2.2.1 kp h.2.2.2.2.2.2.1 (by decide), fun i a t hi => h.kpl h.2.2.1 kp (h.ac hi) (by decide), ?_⟩
  · obtain ⟨md, h1, h2⟩ := h.2.2.1
    refine h.2.1.kp kp (fun fs hf => hb_n2 hne (fun z => ?_)) (fun y hf => hb_n2 (fun z => ?_) (fun z => ?_))
    · rcases h2 with ⟨h2, -⟩ | ⟨cap, f, h3, -⟩
      · rw [z, h2, h.2.2.2.2.2.1] at hf; cases hf
      · rw [z, h3] at hf; cases hf
    · rw [z, h1] at hf; cases hf
    · have := h.2.2.2.2.1 z
      rw [this, h.2.2.2.2.2.1] at hf; cases hf
  · intro z
    rcases hr with rfl | hr
    · exact h.2.2.2.2.1 z
    · rw [← z] at hr
      obtain ⟨md, h1, h2⟩ := h.2.1
      rcases h2 with ⟨h2, -⟩ | ⟨cap, f, h3, -⟩
      · exact h2
      · rw [hr] at h3; cases h3
  · intro i q t hi
    rw [List.getElem?_insertIdx] at hi
    by_cases h1 : i < j
    · rw [if_pos h1] at hi
      exact h.kpl h.2.2.1 kp (h.py hi) (by decide)
    · rw [if_neg h1] at hi
      by_cases h2 : i = j
      · rw [if_pos h2, if_pos (by omega)] at hi
        cases hi
        exact h.kpl h.2.2.1 kp fp (by decide)
      · rw [if_neg h2] at hi
        exact h.kpl h.2.2.1 kp (h.py hi) (by decide)
end CR3
