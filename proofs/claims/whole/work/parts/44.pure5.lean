/-! PURE PART: ticks -/
def hb_pr (T : Int32) (r : hbY) : hbY := (hb_pass T (0, 0, 0, 0, 0) r).2
theorem hb_pass_pr {T : Int32} {s : hbA} {r : hbY} : (hb_pass T s r).2 = hb_pr T r := rfl
def qB (T k : Int32) (r : hbY) : Int64 := if yA r = k then (if yD r = 2 ∧ yL r < T then yM r else 0) else 0
def qH (T k : Int32) (r : hbY) : Int64 := if yA r = k then (if yS r = 1 ∧ yU r ≤ T then 0 - yH r else 0) else 0
def qL (T k : Int32) (r : hbY) : Int64 := if yA r = k then (if (yD r = 1 ∨ yD r = 2) ∧ yL r < T then yM r else 0) else 0
def hb_ta (T k : Int32) (L : List hbY) (s : hbA) : hbA := (s.1, s.2.1, s.2.2.1 - hb_ls (qB T k) L, s.2.2.2.1 + hb_ls (qH T k) L, s.2.2.2.2 - hb_ls (qL T k) L)
theorem hb_pr_id {T : Int32} {r : hbY} (h1 : ¬ (yS r = 1 ∧ yU r ≤ T)) (h2 : ¬ ((yD r = 1 ∨ yD r = 2) ∧ yL r < T)) : hb_pr T r = r := by
  unfold hb_pr hb_pass
  simp only [yS, yU, yD, yL] at h1 h2
  simp only [if_neg h1, if_neg h2]
theorem hb_ta_one {T k : Int32} {L : List hbY} {s : hbA} {r : hbY} (hr : yA r = k) : (hb_pass T (hb_ta T k L s) r).1 = hb_ta T k (L ++ [r]) s := by
  unfold hb_ta
  rw [hb_ls_app, hb_ls_app, hb_ls_app, hb_ls_one, hb_ls_one, hb_ls_one]
  unfold hb_pass qB qH qL
  simp only [if_pos hr]
  generalize hb_ls (fun r => if yA r = k then if yD r = 2 ∧ yL r < T then yM r else 0 else 0) L = x1
  generalize hb_ls (fun r => if yA r = k then if yS r = 1 ∧ yU r ≤ T then 0 - yH r else 0 else 0) L = x2
  generalize hb_ls (fun r => if yA r = k then if (yD r = 1 ∨ yD r = 2) ∧ yL r < T then yM r else 0 else 0) L = x3
  simp only [yD, yL, yM, yS, yU, yH]
  refine Prod.ext rfl (Prod.ext rfl (Prod.ext ?_ (Prod.ext ?_ ?_)))
  · show (if _ then _ else _) = _
    by_cases d1 : r.2.2.2.2.2.2.2.1 = 1
    · have d2 : ¬ r.2.2.2.2.2.2.2.1 = 2 := by rw [d1]; decide
      by_cases hl : r.2.2.2.2.2.2.2.2.2 < T
      · rw [if_pos ⟨Or.inl d1, hl⟩, if_pos d1, if_neg (fun z => d2 z.1)]; grind
      · rw [if_neg (fun z => hl z.2), if_neg (fun z => hl z.2)]; grind
    · by_cases d2 : r.2.2.2.2.2.2.2.1 = 2
      · by_cases hl : r.2.2.2.2.2.2.2.2.2 < T
        · rw [if_pos ⟨Or.inr d2, hl⟩, if_neg d1, if_pos ⟨d2, hl⟩]; grind
        · rw [if_neg (fun z => hl z.2), if_neg (fun z => hl z.2)]; grind
      · rw [if_neg (fun z => by rcases z.1 with y | y; exact d1 y; exact d2 y), if_neg (fun z => d2 z.1)]; grind
  · show (if _ then _ else _) = _
    split <;> grind
  · show (if _ then _ else _) = _
    split <;> grind
theorem hb_ta_ne {T k : Int32} {L : List hbY} {s : hbA} {r : hbY} (hr : yA r ≠ k) : hb_ta T k (L ++ [r]) s = hb_ta T k L s := by
  unfold hb_ta
  rw [hb_ls_app, hb_ls_app, hb_ls_app, hb_ls_one, hb_ls_one, hb_ls_one]
  rw [show qB T k r = 0 from if_neg hr, show qH T k r = 0 from if_neg hr, show qL T k r = 0 from if_neg hr, Int64.add_zero, Int64.add_zero, Int64.add_zero]
/-- the class's loop -/
theorem hb_tk_run {T : Int32} {Ac : List (Nat × hbA)} {Py : List (Nat × hbY)} (hk : cOK Ac Py) (ht : hb_tomb Py) : ∀ j, j ≤ Py.length →
    (hb_tk T (Ac, Py) j).2.map Prod.snd = ((Py.map Prod.snd).take j).map (hb_pr T) ++ (Py.map Prod.snd).drop j ∧ (hb_tk T (Ac, Py) j).1.length = Ac.length ∧
    ∀ c a s, Ac[c]? = some (a, s) → (hb_tk T (Ac, Py) j).1[c]? = some (a, hb_ta T (nI c) ((Py.map Prod.snd).take j) s) := by
  intro j
  induction j with
  | zero =>
    intro _
    refine ⟨rfl, rfl, fun c a s hc => ?_⟩
    show Ac[c]? = _
    rw [hc]
    show some (a, s) = some (a, (s.1, s.2.1, s.2.2.1 - 0, s.2.2.2.1 + 0, s.2.2.2.2 - 0))
    simp
  | succ j ih =>
    intro hj
    obtain ⟨h1, h2, h3⟩ := ih (by omega)
    obtain ⟨hk9, ht9, hl9⟩ := hb_tk_ok (n := T) (S := (Ac, Py)) hk ht j
    rw [show hb_tk T (Ac, Py) (j + 1) = hb_tk1 T (hb_tk T (Ac, Py) j) j from rfl]
    generalize hb_tk T (Ac, Py) j = S at *
    have hl9' : S.2.length = Py.length := hl9
    obtain ⟨q, r, hq⟩ := hb_get2 (L := S.2) (j := j) (by omega)
    have hlP : (Py.map Prod.snd).length = Py.length := List.length_map _
    have hrP : (Py.map Prod.snd)[j]? = some r := by
      have : (S.2.map Prod.snd)[j]? = some r := by rw [List.getElem?_map, hq]; rfl
      rw [h1, List.getElem?_append_right (by rw [List.length_map, List.length_take]; omega), List.length_map, List.length_take, List.getElem?_drop] at this
      rw [← this]
      congr 1
      omega
    generalize hPd : Py.map Prod.snd = P at *
    have hjP : j < P.length := by omega
    have etk : P.take (j + 1) = P.take j ++ [r] := by rw [List.take_succ, hrP]; rfl
    have edr : P.drop j = r :: P.drop (j + 1) := by
      rw [List.drop_eq_getElem_cons hjP]
      congr 1
      exact Option.some.inj (by rw [← List.getElem?_eq_getElem hjP, hrP])
    rcases hb_tk1_at (n := T) hk9 hq with ⟨e1, e⟩ | ⟨k, a, s, hk2, e1, e2, e⟩
    · obtain ⟨t1, t2⟩ := ht9 (q, r) (List.mem_of_getElem? hq) e1
      have t1' : yS r = 2 := t1
      have t2' : yD r = 0 := t2
      have hid : hb_pr T r = r := hb_pr_id (fun z => by rw [t1'] at z; exact absurd z.1 (by decide)) (fun z => by rw [t2'] at z; revert z; simp)
      rw [e]
      refine ⟨?_, h2, fun c a s hc => ?_⟩
      · rw [h1, etk, edr, List.map_append, List.append_assoc]
        show _ = _ ++ ([hb_pr T r] ++ _)
        rw [hid]
        rfl
      · have hcl := (List.getElem?_eq_some_iff.mp hc).1
        have hA16 := hk.1
        rw [etk, hb_ta_ne (by rw [show yA r = -1 from e1]; exact fun z => hb_m1 (n := c) (by omega) z.symm)]
        exact h3 c a s hc
    · have hkS := (List.getElem?_eq_some_iff.mp e2).1
      rw [e]
      refine ⟨?_, by rw [List.length_set]; exact h2, fun c b t hc => ?_⟩
      · show ((S.2.set j (q, (hb_pass T s r).2)).map Prod.snd) = _
        rw [List.map_set, h1, etk, edr, List.map_append, List.append_assoc]
        show (List.map (hb_pr T) (List.take j P) ++ r :: List.drop (j + 1) P).set j (hb_pr T r) = _
        rw [List.set_append_right _ _ (by rw [List.length_map, List.length_take]; omega), List.length_map, List.length_take, Nat.min_eq_left (by omega), Nat.sub_self]
        rfl
      · show (S.1.set k (a, (hb_pass T s r).1))[c]? = _
        have h3c := h3 c b t hc
        have hcl := (List.getElem?_eq_some_iff.mp hc).1
        have hA16 := hk.1
        rw [List.getElem?_set]
        by_cases hkc : k = c
        · subst hkc
          rw [if_pos rfl, if_pos hkS]
          rw [e2] at h3c
          have h4 := Option.some.inj h3c
          have h5 : a = b := congrArg Prod.fst h4
          have h6 : s = hb_ta T (nI k) (P.take j) t := congrArg Prod.snd h4
          rw [h5, h6, hb_ta_one e1, etk]
        · rw [if_neg hkc, etk, hb_ta_ne (by rw [show yA r = nI k from e1]; exact fun z => hkc (hb_eqi (by omega) (by omega) z))]
          exact h3c
/-! the reference's loops -/
def rB (t : Int32) (k : Nat) (r : hbY) : Int64 := if hb_lo t r ∧ r.2.1.toNatClampNeg = k then yM r else 0
theorem hb_rk_run {t : Int32} {bal : Nat → Int64} {g : Nat → hbY} : ∀ j, (∀ p, (hb_rk t (bal, g) j).2 p = if p < j then hb_rp t (g p) else g p) ∧ ∀ k, (hb_rk t (bal, g) j).1 k = bal k - hb_ls (rB t k) (hb_rl g j) := by
  intro j
  induction j with
  | zero =>
    refine ⟨fun p => by rw [if_neg (by omega)]; rfl, fun k => ?_⟩
    show bal k = bal k - 0
    simp
  | succ j ih =>
    obtain ⟨h1, h2⟩ := ih
    rw [show hb_rk t (bal, g) (j + 1) = hb_r1 t (hb_rk t (bal, g) j) j from rfl]
    generalize hb_rk t (bal, g) j = S at *
    have hj : S.2 j = g j := by rw [h1 j, if_neg (by omega)]
    refine ⟨fun p => ?_, fun k => ?_⟩
    · show hb_uY S.2 j (hb_rp t (S.2 j)) p = _
      unfold hb_uY
      by_cases hp : p = j
      · rw [if_pos hp, if_pos (by omega), hj, hp]
      · rw [if_neg hp, h1 p]
        by_cases hpj : p < j
        · rw [if_pos hpj, if_pos (by omega)]
        · rw [if_neg hpj, if_neg (by omega)]
    · show (if hb_lo t (S.2 j) then vp_updL S.1 (S.2 j).2.1.toNatClampNeg (S.1 (S.2 j).2.1.toNatClampNeg - (S.2 j).2.2.2.2.2.2.2.2.1) else S.1) k = _
      rw [hj, hb_rl_succ, hb_ls_app, hb_ls_one]
      by_cases hl : hb_lo t (g j)
      · rw [if_pos hl]
        unfold vp_updL
        by_cases hk : k = (g j).2.1.toNatClampNeg
        · rw [if_pos hk, h2, ← hk, show rB t k (g j) = yM (g j) from if_pos ⟨hl, hk.symm⟩]
          grind
        · rw [if_neg hk, h2, show rB t k (g j) = 0 from if_neg (fun z => hk z.2.symm)]
          grind
      · rw [if_neg hl, h2, show rB t k (g j) = 0 from if_neg (fun z => hl z.1)]
        grind
def hb_it (tm : Int32) : Nat → hbY → hbY
  | 0, r => r
  | i + 1, r => hb_rp (tm + nI (i + 1)) (hb_it tm i r)
def hb_cB (tm : Int32) (k : Nat) : Nat → hbY → Int64
  | 0, _ => 0
  | i + 1, r => hb_cB tm k i r + rB (tm + nI (i + 1)) k (hb_it tm i r)
theorem hb_ls_add {f g : hbY → Int64} {L : List hbY} : hb_ls (fun r => f r + g r) L = hb_ls f L + hb_ls g L := by
  induction L with
  | nil => show (0 : Int64) = 0 + 0; rfl
  | cons r L ih =>
    show f r + g r + hb_ls (fun r => f r + g r) L = f r + hb_ls f L + (g r + hb_ls g L)
    rw [ih]
    generalize hb_ls f L = x
    generalize hb_ls g L = y
    grind
theorem hb_ls_map {f : hbY → Int64} {h : hbY → hbY} {L : List hbY} : hb_ls f (L.map h) = hb_ls (fun r => f (h r)) L := by
  induction L with
  | nil => rfl
  | cons r L ih => show f (h r) + _ = f (h r) + _; rw [ih]
theorem hb_rl_map {f : Nat → hbY} {h : hbY → hbY} {n : Nat} : hb_rl (fun p => h (f p)) n = (hb_rl f n).map h := by
  unfold hb_rl
  rw [List.map_map]
  rfl
theorem hb_rn_run {tm : Int32} {bal : Nat → Int64} {f : Nat → hbY} {np : Nat} : ∀ i, (∀ p, p < np → (hb_rn tm (bal, f) np i).2 p = hb_it tm i (f p)) ∧ ∀ k, (hb_rn tm (bal, f) np i).1 k = bal k - hb_ls (hb_cB tm k i) (hb_rl f np) := by
  intro i
  induction i with
  | zero =>
    refine ⟨fun p _ => rfl, fun k => ?_⟩
    show bal k = bal k - hb_ls (fun _ => 0) (hb_rl f np)
    rw [hb_ls_zero (fun _ _ => rfl)]
    simp
  | succ i ih =>
    obtain ⟨h1, h2⟩ := ih
    rw [show hb_rn tm (bal, f) np (i + 1) = hb_rk (tm + nI (i + 1)) (hb_rn tm (bal, f) np i) np from rfl]
    generalize hb_rn tm (bal, f) np i = S at *
    obtain ⟨r1, r2⟩ := hb_rk_run (t := tm + nI (i + 1)) (bal := S.1) (g := S.2) np
    refine ⟨fun p hp => ?_, fun k => ?_⟩
    · rw [show (S.1, S.2) = S from rfl] at r1
      rw [r1 p, if_pos hp, h1 p hp]
      rfl
    · rw [show (S.1, S.2) = S from rfl] at r2
      rw [r2 k, h2 k, hb_rl_cg (f := S.2) (g := fun p => hb_it tm i (f p)) h1, hb_rl_map, hb_ls_map]
      have e : hb_ls (hb_cB tm k (i + 1)) (hb_rl f np) = hb_ls (hb_cB tm k i) (hb_rl f np) + hb_ls (fun r => rB (tm + nI (i + 1)) k (hb_it tm i r)) (hb_rl f np) := by
        rw [← hb_ls_add]
        rfl
      rw [e]
      grind
