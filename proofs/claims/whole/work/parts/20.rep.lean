/-! THE CLASS'S STATE. An account: minimum, free at first, balance, held, locked. A payment: key, account (-1: none), state, held, cleared, until, since, dispute, disputed, deadline -/
abbrev hbA : Type := Int64 × Int64 × Int64 × Int64 × Int64
abbrev hbY : Type := Int32 × Int32 × Int32 × Int64 × Int64 × Int32 × Int32 × Int32 × Int64 × Int32
abbrev aE (n : Int32) (r : hbA) : va_E := .inr (0, [.int n, .long r.1, .long r.2.1, .long r.2.2.1, .long r.2.2.2.1, .long r.2.2.2.2])
abbrev pE (a : Nat) (r : hbY) : va_E := .inr (1, [.int r.1, .ref a, .int r.2.2.1, .long r.2.2.2.1, .long r.2.2.2.2.1, .int r.2.2.2.2.2.1, .int r.2.2.2.2.2.2.1, .int r.2.2.2.2.2.2.2.1, .long r.2.2.2.2.2.2.2.2.1, .int r.2.2.2.2.2.2.2.2.2])
abbrev xE (ho pa : Int32) (la lp nb : Nat) (tm : Int32) : va_E := .inr (2, [.int ho, .int pa, .ref la, .ref lp, .ref nb, .int tm])
def hb_lst (cO : ClassId) (e0 : Nat) (M : hb_M) (t ar : Nat) (xs : List Nat) : Prop := ∃ md : Int32, M t = some (.inr (3, [.ref ar, .int (nI xs.length), .int md])) ∧ ((ar = e0 ∧ xs = []) ∨ ∃ (cap : Nat) (f : Nat → Option Nat), M ar = some (hb_ar cO cap f) ∧ 0 < cap ∧ xs.length ≤ cap ∧ cap ≤ 100 ∧ ∀ i, i < xs.length → f i = xs[i]?)
/-- the cells of the accounts or payments of a list -/
def hb_obj (M : hb_M) (xs : List Nat) : Prop := ∀ x ∈ xs, ∃ ci fs, M x = some (.inr (ci, fs)) ∧ (ci = 0 ∨ ci = 1)
theorem hb_obj.els {M : hb_M} {xs : List Nat} {f : Nat → Option Nat} (h : hb_obj M xs) (hf : ∀ i, i < xs.length → f i = xs[i]?) : hb_els M f xs.length := by
  intro i hi
  obtain ⟨ci, fs, h1, h2⟩ := h xs[i] (List.getElem_mem hi)
  exact ⟨xs[i], ci, fs, by rw [hf i hi, List.getElem?_eq_getElem hi], h1, h2⟩
section LST
variable {l : Launch} {s0 : State} {D : va_G} {cI cJ cO : ClassId} {e0 mi : Nat} (hE : hb_E l s0 D cI cJ cO e0 mi) {M : hb_M} {t ar : Nat} {xs : List Nat}
theorem c_lst_size (hE : hb_E l s0 D cI cJ cO e0 mi) (h : hb_lst cO e0 M t ar xs) : hb_Met l D hb_cl s0 y_Al_size b_Al_size 1 (some .int) { frames := 0, cells := 0, slots := 0, locals := 0 } [.ref t] M (fun v M1 => v = some (.int (nI xs.length)) ∧ M1 = M) := by
  obtain ⟨md, h1, -⟩ := h
  exact c_Al_size hE M t _ _ md h1
theorem c_lst_get (hE : hb_E l s0 D cI cJ cO e0 mi) (h : hb_lst cO e0 M t ar xs) {j x : Nat} (hj : xs[j]? = some x) : hb_Met l D hb_cl s0 y_Al_get b_Al_get 2 (some (.object "java/lang/Object")) { frames := 2, cells := 0, slots := 0, locals := 43 } [.ref t, .int (nI j)] M (fun v M1 => v = some (.ref x) ∧ M1 = M) := by
  obtain ⟨md, h1, h2⟩ := h
  have hjl := (List.getElem?_eq_some_iff.mp hj).1
  rcases h2 with ⟨-, rfl⟩ | ⟨cap, f, h3, h4, h5, h6, h7⟩
  · exact absurd hjl (by simp)
  · exact c_Al_get hE M t ar j xs.length cap md f x hjl h5 h6 (by rw [h7 j hjl]; exact hj) h1 h3
theorem hb_added.lst (hM0 : M e0 = none) {M1 : hb_M} {md : Int32} {f : Nat → Option Nat} {j x : Nat} (hj : j ≤ xs.length) (hf : ∀ i, i < xs.length → f i = xs[i]?) (h : hb_added cO M M1 t ar xs.length md f j x) : ∃ ar1, hb_lst cO e0 M1 t ar1 (xs.insertIdx j x) ∧ (ar1 = ar ∨ M ar1 = none) ∧ hb_kp [t, ar] M M1 := by
  obtain ⟨ar1, cap1, g, a1, a2, a3, a4, a5, a6, a7⟩ := h
  have hl : (xs.insertIdx j x).length = xs.length + 1 := by rw [List.length_insertIdx, if_pos hj]
  refine ⟨ar1, ⟨md, by rw [hl]; exact a1, Or.inr ⟨cap1, g, a2, by omega, by rw [hl]; exact a3, a4, fun i hi => ?_⟩⟩, a5, a7⟩
  rw [hl] at hi
  rw [a6 i hi, List.getElem?_insertIdx]
  unfold hb_ins
  by_cases h1 : i < j
  · rw [if_pos h1, if_pos h1, hf i (by omega)]
  · rw [if_neg h1, if_neg h1]
    by_cases h2 : i = j
    · rw [if_pos h2, if_pos h2, if_pos (by omega)]
    · rw [if_neg h2, if_neg h2, hf (i - 1) (by omega)]
theorem hb_Met.mono {y : MethodName} {b : ByteArray} {n : Nat} {ret : Option FieldType} {rm : Room} {av : List Value} {post post' : Option Value → hb_M → Prop} {cl : List vw_C} (h : hb_Met l D cl s0 y b n ret rm av M post) (hp : ∀ v M1, post v M1 → post' v M1) : hb_Met l D cl s0 y b n ret rm av M post' := by
  intro sz p e ha hc hk s m args below hf happ hP hK
  obtain ⟨n, o, h1, h2, h3, h4, h5⟩ := h sz p e ha hc hk s m args below hf happ hP hK
  obtain ⟨⟨v, M1, a1, a2, a3, a4⟩, a5⟩ := h4
  exact ⟨n, o, h1, h2, h3, ⟨⟨v, M1, a1, hp v M1 a2, a3, a4⟩, a5⟩, h5⟩
theorem c_lst_ins (hE : hb_E l s0 D cI cJ cO e0 mi) (hM0 : M e0 = none) (h : hb_lst cO e0 M t ar xs) (ho : hb_obj M xs) {j x ci : Nat} {fs : List Value} (hj : j ≤ xs.length) (hn : xs.length ≤ 62) (hx : M x = some (.inr (ci, fs))) (hci : ci = 0 ∨ ci = 1) : hb_Met l D hb_cl s0 y_Al_add3 b_Al_add3 5 none { frames := 5, cells := 1, slots := 100, locals := 207 } [.ref t, .int (nI j), .ref x] M (fun v M1 => v = none ∧ ∃ ar1, hb_lst cO e0 M1 t ar1 (xs.insertIdx j x) ∧ (ar1 = ar ∨ M ar1 = none) ∧ hb_kp [t, ar] M M1) := by
  obtain ⟨md, h1, h2⟩ := h
  rcases h2 with ⟨rfl, rfl⟩ | ⟨cap, f, h3, h4, h5, h6, h7⟩
  · have hj0 : j = 0 := by simpa using hj
    subst hj0
    exact (c_Al_add3_e hE M t md (fun _ => none) x ci fs hx hci h1).mono (fun v M1 q => ⟨q.1, hb_added.lst (xs := []) hM0 hj (fun i hi => absurd hi (by simp)) q.2⟩)
  · by_cases hc : xs.length < cap
    · exact (c_Al_add3_a hE M t ar cap xs.length md f hc h6 x ci fs hx hci h1 h3 (ho.els h7) j hj).mono (fun v M1 q => ⟨q.1, hb_added.lst hM0 hj h7 q.2⟩)
    · have hce : cap = xs.length := by omega
      subst hce
      exact (c_Al_add3_f hE M t ar xs.length md f h4 (by omega) (ho.els h7) x ci fs hx hci h1 h3 j hj).mono (fun v M1 q => ⟨q.1, hb_added.lst hM0 hj h7 q.2⟩)
theorem c_lst_add (hE : hb_E l s0 D cI cJ cO e0 mi) (hM0 : M e0 = none) (h : hb_lst cO e0 M t ar xs) (ho : hb_obj M xs) {x ci : Nat} {fs : List Value} (hn : xs.length ≤ 62) (hx : M x = some (.inr (ci, fs))) (hci : ci = 0 ∨ ci = 1) : hb_Met l D hb_cl s0 y_Al_add1 b_Al_add1 2 (some .boolean) { frames := 6, cells := 1, slots := 100, locals := 170 } [.ref t, .ref x] M (fun v M1 => v = some (.int 1) ∧ ∃ ar1, hb_lst cO e0 M1 t ar1 (xs.insertIdx xs.length x) ∧ (ar1 = ar ∨ M ar1 = none) ∧ hb_kp [t, ar] M M1) := by
  obtain ⟨md, h1, h2⟩ := h
  rcases h2 with ⟨rfl, rfl⟩ | ⟨cap, f, h3, h4, h5, h6, h7⟩
  · exact (c_Al_add1_e hE M t md (fun _ => none) x ci fs hx hci h1).mono (fun v M1 q => ⟨q.1, hb_added.lst (xs := []) hM0 (Nat.le_refl _) (fun i hi => absurd hi (by simp)) q.2⟩)
  · by_cases hc : xs.length < cap
    · exact (c_Al_add1_a hE M t ar cap xs.length md f hc h6 x ci fs hx hci h1 h3).mono (fun v M1 q => ⟨q.1, hb_added.lst hM0 (Nat.le_refl _) h7 q.2⟩)
    · have hce : cap = xs.length := by omega
      subst hce
      exact (c_Al_add1_f hE M t ar xs.length md f h4 (by omega) (ho.els h7) x ci fs hx hci h1 h3).mono (fun v M1 q => ⟨q.1, hb_added.lst hM0 (Nat.le_refl _) h7 q.2⟩)
theorem c_lst_rem (hE : hb_E l s0 D cI cJ cO e0 mi) (h : hb_lst cO e0 M t ar xs) (ho : hb_obj M xs) {j x : Nat} (hj : xs[j]? = some x) : hb_Met l D hb_cl s0 y_Al_remove b_Al_remove 4 (some (.object "java/lang/Object")) { frames := 2, cells := 0, slots := 0, locals := 83 } [.ref t, .int (nI j)] M (fun v M1 => v = some (.ref x) ∧ hb_lst cO e0 M1 t ar (xs.eraseIdx j) ∧ hb_off [t, ar] M M1) := by
  obtain ⟨md, h1, h2⟩ := h
  have hjl := (List.getElem?_eq_some_iff.mp hj).1
  rcases h2 with ⟨-, rfl⟩ | ⟨cap, f, h3, h4, h5, h6, h7⟩
  · exact absurd hjl (by simp)
  · obtain ⟨k, hk⟩ : ∃ k, xs.length = k + 1 := ⟨xs.length - 1, by omega⟩
    have hel := ho.els h7
    have hfx : f j = some x := by rw [h7 j hjl]; exact hj
    rw [hk] at h1 h5 h7 hel hjl
    refine (c_Al_remove hE M t ar j k cap md f hjl h5 h6 hel h1 h3 x hfx).mono (fun v M1 q => ⟨q.1, ⟨md + 1, ?_, Or.inr ?_⟩, q.2.2.2⟩)
    · have hl : (xs.eraseIdx j).length = k := by rw [List.length_eraseIdx, if_pos (by omega)]; omega
      rw [hl]
      exact q.2.1
    · have hl : (xs.eraseIdx j).length = k := by rw [List.length_eraseIdx, if_pos (by omega)]; omega
      obtain ⟨g, g1, g2⟩ := q.2.2.1
      refine ⟨cap, g, g1, h4, by omega, h6, fun i hi => ?_⟩
      rw [hl] at hi
      rw [g2 i hi, List.getElem?_eraseIdx]
      by_cases hij : i < j
      · rw [if_pos hij, if_pos hij, h7 i (by omega)]
      · rw [if_neg hij, if_neg hij, h7 (i + 1) (by omega)]
end LST
/-- where a payment's account lies -/
def hb_acc (nb : Nat) (Ac : List (Nat × hbA)) (k : Int32) : Nat := if k = -1 then nb else ((Ac[k.toNatClampNeg]?).map Prod.fst).getD nb
def cR (cO : ClassId) (e0 : Nat) (M : hb_M) (x la lp nb ra rp : Nat) (ho pa tm : Int32) (Ac : List (Nat × hbA)) (Py : List (Nat × hbY)) : Prop :=
  M x = some (xE ho pa la lp nb tm) ∧ hb_lst cO e0 M la ra (Ac.map Prod.fst) ∧ hb_lst cO e0 M lp rp (Py.map Prod.fst) ∧ la ≠ lp ∧ (ra = rp → ra = e0) ∧ M e0 = none ∧ M nb = some (aE (-1) (0, 0, 0, 0, 0)) ∧
  (∀ (i a : Nat) (r : hbA), Ac[i]? = some (a, r) → M a = some (aE (nI i) r)) ∧ (∀ (i q : Nat) (r : hbY), Py[i]? = some (q, r) → M q = some (pE (hb_acc nb Ac r.2.1) r))
/-- the pure conditions: not too many, keys grow, accounts are there -/
def cOK (Ac : List (Nat × hbA)) (Py : List (Nat × hbY)) : Prop := Ac.length ≤ 16 ∧ Py.length ≤ 60 ∧ Py.Pairwise (fun p q => p.2.1 < q.2.1) ∧ ∀ q ∈ Py, q.2.2.1 = -1 ∨ ∃ k, k < Ac.length ∧ q.2.2.1 = nI k
