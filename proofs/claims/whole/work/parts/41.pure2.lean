/-! PURE PART: what holds of the class's rows and the reference's -/
/-- a row -/
def hb_ri (na : Nat) (tm : Int32) (r : hbY) : Prop :=
  ((yA r = -1 ∧ yS r = 2 ∧ yD r = 0) ∨ ∃ k, k < na ∧ yA r = nI k) ∧ (yS r = 1 ∨ yS r = 2 ∨ yS r = 3) ∧
  (yS r = 1 → tm.toInt < (yU r).toInt ∧ yN r = -1 ∧ yD r = 0) ∧ (yS r ≠ 1 → yH r = 0) ∧ (yS r = 3 → 0 ≤ (yN r).toInt ∧ (yN r).toInt ≤ tm.toInt) ∧
  (yD r = 0 ∨ yD r = 1 ∨ yD r = 2 ∨ yD r = 3 ∨ yD r = 4) ∧ (yD r ≠ 0 → yS r = 3) ∧ ((yD r = 1 ∨ yD r = 2) → tm.toInt ≤ (yL r).toInt) ∧
  (0 ≤ (yH r).toInt ∧ 0 ≤ (yC r).toInt ∧ (yH r).toInt + (yC r).toInt ≤ 1000000000000) ∧ (0 ≤ (yM r).toInt ∧ (yM r).toInt ≤ 1000000000000)
/-- what an account has free -/
def hb_fi (P : List hbY) (k : Int32) (s : hbA) : Int := (aB s).toInt - (aM s).toInt - (hb_ls (gH k) P).toInt - (hb_ls (gL k) P).toInt
def hb_ai (n : Nat) (P : List hbY) (k : Int32) (s : hbA) : Prop :=
  aH s = hb_ls (gH k) P ∧ aL s = hb_ls (gL k) P ∧ (aB s).toInt ≤ ((n + 1 : Nat) : Int) * 1000000000000 ∧ (-1000000000000 ≤ (aM s).toInt ∧ (aM s).toInt ≤ 0) ∧ (-1000000000000 ≤ (aF s).toInt) ∧ (0 ≤ hb_fi P k s ∨ (aF s).toInt ≤ hb_fi P k s)
def hb_I (n : Nat) (ho pa tm : Int32) (A : List hbA) (P : List hbY) (na np : Nat) (bal mi : Nat → Int64) (f : Nat → hbY) : Prop :=
  (n ≤ 520 ∧ (1 ≤ ho.toInt ∧ ho.toInt ≤ 5000) ∧ (1 ≤ pa.toInt ∧ pa.toInt ≤ 5000) ∧ (0 ≤ tm.toInt ∧ tm.toInt ≤ 1000000)) ∧
  (A.length = na ∧ na ≤ 16 ∧ np ≤ 60 ∧ P.Pairwise (fun p q => p.1 < q.1) ∧ P.Perm (hb_rl f np)) ∧
  (∀ r ∈ P, hb_ri na tm r) ∧ (∀ k s, A[k]? = some s → hb_ai n P (nI k) s ∧ bal k = aB s ∧ mi k = aM s)
theorem hb_ai.up {n : Nat} {P : List hbY} {k : Int32} {s : hbA} (h : hb_ai n P k s) : hb_ai (n + 1) P k s := by
  obtain ⟨h1, h2, h3, h4⟩ := h
  exact ⟨h1, h2, by push_cast at *; omega, h4⟩
section PI
variable {n : Nat} {ho pa tm : Int32} {A : List hbA} {P : List hbY} {na np : Nat} {bal mi : Nat → Int64} {f : Nat → hbY}
theorem hb_I.len (h : hb_I n ho pa tm A P na np bal mi f) : P.length = np := by rw [h.2.1.2.2.2.2.length_eq, hb_rl_len]
theorem hb_I.same (h : hb_I n ho pa tm A P na np bal mi f) (hn : n < 520) : hb_I (n + 1) ho pa tm A P na np bal mi f :=
  ⟨⟨by omega, h.1.2⟩, h.2.1, h.2.2.1, fun k s hk => ⟨(h.2.2.2 k s hk).1.up, (h.2.2.2 k s hk).2⟩⟩
theorem hb_lk_bd {tm : Int32} {na : Nat} {r : hbY} (h : hb_ri na tm r) : 0 ≤ (lk r).toInt ∧ (lk r).toInt ≤ 1000000000000 := by
  unfold lk
  split
  · exact h.2.2.2.2.2.2.2.2.2
  · rw [q64_z]; omega
theorem hb_gH_bd {tm : Int32} {na : Nat} {k : Int32} {r : hbY} (h : hb_ri na tm r) : 0 ≤ (gH k r).toInt ∧ (gH k r).toInt ≤ 1000000000000 := by
  unfold gH
  have := h.2.2.2.2.2.2.2.2.1
  split
  · omega
  · rw [q64_z]; omega
theorem hb_gL_bd {tm : Int32} {na : Nat} {k : Int32} {r : hbY} (h : hb_ri na tm r) : 0 ≤ (gL k r).toInt ∧ (gL k r).toInt ≤ 1000000000000 := by
  unfold gL
  split
  · exact hb_lk_bd h
  · rw [q64_z]; omega
theorem hb_I.sH (h : hb_I n ho pa tm A P na np bal mi f) (k : Int32) : 0 ≤ (hb_ls (gH k) P).toInt ∧ (hb_ls (gH k) P).toInt ≤ 60000000000000 := by
  have h1 := hb_ls_bd (f := gH k) (L := P) (fun r hr => hb_gH_bd (h.2.2.1 r hr)) (by have := h.len; have := h.2.1; omega)
  have := h.len
  have := h.2.1
  omega
theorem hb_I.sL (h : hb_I n ho pa tm A P na np bal mi f) (k : Int32) : 0 ≤ (hb_ls (gL k) P).toInt ∧ (hb_ls (gL k) P).toInt ≤ 60000000000000 := by
  have h1 := hb_ls_bd (f := gL k) (L := P) (fun r hr => hb_gL_bd (h.2.2.1 r hr)) (by have := h.len; have := h.2.1; omega)
  have := h.len
  have := h.2.1
  omega
/-- the account's FREE as the class and the reference reckon it -/
theorem hb_I.free (h : hb_I n ho pa tm A P na np bal mi f) {k : Nat} {s : hbA} (hk : A[k]? = some s) : (aB s - aM s - aH s - aL s).toInt = hb_fi P (nI k) s ∧ -1000000000000 ≤ hb_fi P (nI k) s ∧ -2000000000000 ≤ (aB s).toInt ∧ (aB s).toInt ≤ 521000000000000 := by
  obtain ⟨⟨a1, a2, a3, a4, a5, a6⟩, -⟩ := h.2.2.2 k s hk
  have h1 := h.sH (nI k)
  have h2 := h.sL (nI k)
  have hn := h.1.1
  have hf : -1000000000000 ≤ hb_fi P (nI k) s := by rcases a6 with z | z <;> omega
  have hB : -2000000000000 ≤ (aB s).toInt ∧ (aB s).toInt ≤ 521000000000000 := by unfold hb_fi at hf; omega
  refine ⟨?_, hf, hB⟩
  rw [a1, a2]
  have e1 : (aB s - aM s).toInt = (aB s).toInt - (aM s).toInt := q64_sub (by omega) (by omega)
  have e2 : (aB s - aM s - hb_ls (gH (nI k)) P).toInt = (aB s).toInt - (aM s).toInt - (hb_ls (gH (nI k)) P).toInt := by rw [q64_sub (by rw [e1]; omega) (by rw [e1]; omega), e1]
  rw [q64_sub (by rw [e2]; omega) (by rw [e2]; omega), e2]
  rfl
theorem hb_I.audit (h : hb_I n ho pa tm A P na np bal mi f) {k : Nat} {s : hbA} (hk : A[k]? = some s) : ¬ ((aB s - aM s - aH s - aL s) < 0 ∧ (aB s - aM s - aH s - aL s) < aF s) := by
  obtain ⟨⟨a1, a2, a3, a4, a5, a6⟩, -⟩ := h.2.2.2 k s hk
  rintro ⟨h1, h2⟩
  rw [Int64.lt_iff_toInt_lt, (h.free hk).1] at h1 h2
  rw [q64_z] at h1
  rcases a6 with z | z <;> omega
/-- no row belongs to an account that isn't there -/
theorem hb_ls_zero {g : hbY → Int64} {L : List hbY} (h : ∀ r ∈ L, g r = 0) : hb_ls g L = 0 := by
  induction L with
  | nil => rfl
  | cons r L ih =>
    show g r + hb_ls g L = 0
    rw [h r List.mem_cons_self, ih (fun q hq => h q (List.mem_cons_of_mem _ hq))]
    rfl
theorem hb_ri.more {na' : Nat} {r : hbY} (h : hb_ri na tm r) (hn : na ≤ na') : hb_ri na' tm r := by
  refine ⟨?_, h.2⟩
  rcases h.1 with z | ⟨k, h1, h2⟩
  · exact Or.inl z
  · exact Or.inr ⟨k, by omega, h2⟩
theorem hb_ri.ne {r : hbY} (h : hb_ri na tm r) (hn : na ≤ 16) : yA r ≠ nI na := by
  intro z
  rcases h.1 with ⟨z1, -⟩ | ⟨k, h1, h2⟩
  · rw [z1] at z; exact hb_m1 (by omega) z.symm
  · rw [h2] at z; have := hb_eqi (by omega) (by omega) z; omega
theorem hb_I.acc (h : hb_I n ho pa tm A P na np bal mi f) (hn : n < 520) (hna : na < 16) {b mn : Int64} (hb1 : ¬ b < -1000000000000 ∧ ¬ 1000000000000 < b) (hb2 : ¬ mn < -1000000000000 ∧ ¬ 0 < mn) : hb_I (n + 1) ho pa tm (A ++ [(mn, b - mn, b, 0, 0)]) P (na + 1) np (vp_updL bal na b) (vp_updL mi na mn) f := by
  have hla := h.2.1.1
  simp only [Int64.lt_iff_toInt_lt, q64_m, q64_n, q64_z] at hb1 hb2
  refine ⟨⟨by omega, h.1.2⟩, ⟨by rw [List.length_append, hla]; rfl, by omega, h.2.1.2.2⟩, fun r hr => (h.2.2.1 r hr).more (by omega), fun k s hk => ?_⟩
  by_cases hk1 : k < A.length
  · rw [List.getElem?_append_left hk1] at hk
    obtain ⟨h1, h2, h3⟩ := h.2.2.2 k s hk
    refine ⟨h1.up, ?_, ?_⟩
    · unfold vp_updL; rw [if_neg (by omega)]; exact h2
    · unfold vp_updL; rw [if_neg (by omega)]; exact h3
  · rw [List.getElem?_append_right (by omega)] at hk
    have hk2 : k = na := by
      have := (List.getElem?_eq_some_iff.mp hk).1
      simp at this
      omega
    subst hk2
    rw [hla, Nat.sub_self] at hk
    cases hk
    have s1 : hb_ls (gH (nI k)) P = 0 := hb_ls_zero (fun r hr => if_neg ((h.2.2.1 r hr).ne (by omega)))
    have s2 : hb_ls (gL (nI k)) P = 0 := hb_ls_zero (fun r hr => if_neg ((h.2.2.1 r hr).ne (by omega)))
    have e : (b - mn).toInt = b.toInt - mn.toInt := q64_sub (by omega) (by omega)
    refine ⟨⟨s1.symm, s2.symm, ?_, ?_, ?_, ?_⟩, ?_, ?_⟩
    · show b.toInt ≤ _; push_cast; omega
    · show -1000000000000 ≤ mn.toInt ∧ mn.toInt ≤ 0; omega
    · show -1000000000000 ≤ (b - mn).toInt; omega
    · right
      show (b - mn).toInt ≤ hb_fi P (nI k) _
      unfold hb_fi
      rw [s1, s2, q64_z]
      show (b - mn).toInt ≤ b.toInt - mn.toInt - 0 - 0
      omega
    · unfold vp_updL; rw [if_pos rfl]
    · unfold vp_updL; rw [if_pos rfl]
theorem hb_gH_ne {k : Int32} {r r' : hbY} (h : yA r' = yA r) (hk : yA r ≠ k) : gH k r' - gH k r = 0 := by
  unfold gH
  rw [h, if_neg hk, if_neg hk]
  rfl
theorem hb_gL_ne {k : Int32} {r r' : hbY} (h : yA r' = yA r) (hk : yA r ≠ k) : gL k r' - gL k r = 0 := by
  unfold gL
  rw [h, if_neg hk, if_neg hk]
  rfl
theorem hb_pw_set {L : List hbY} {i : Nat} {r r' : hbY} (h : L.Pairwise (fun p q => p.1 < q.1)) (hi : L[i]? = some r) (e : r'.1 = r.1) : (L.set i r').Pairwise (fun p q => p.1 < q.1) := by
  rw [List.pairwise_iff_getElem] at h ⊢
  obtain ⟨h3, h4⟩ := List.getElem?_eq_some_iff.mp hi
  have h1 : ∀ c (hc : c < (L.set i r').length), ((L.set i r')[c]).1 = (L[c]'(by rw [List.length_set] at hc; exact hc)).1 := by
    intro c hc
    rw [List.getElem_set]
    by_cases hci : i = c
    · subst hci; rw [if_pos rfl, h4]; exact e
    · rw [if_neg hci]
  intro a b ha hb hab
  rw [h1 a ha, h1 b hb]
  exact h a b _ _ hab
/-- a row and its account have changed -/
theorem hb_I.upd (h : hb_I n ho pa tm A P na np bal mi f) (hn : n < 520) {i j k : Nat} {r r' : hbY} {s s' : hbA} (hi : P[i]? = some r) (hj : j < np) (hf : f j = r) (hr : yA r = nI k) (hk : A[k]? = some s)
    (e1 : r'.1 = r.1) (e2 : yA r' = yA r) (hri : hb_ri na tm r') (e3 : aM s' = aM s) (e4 : aF s' = aF s) (e5 : aH s' = aH s + (yH r' - yH r)) (e6 : aL s' = aL s + (lk r' - lk r))
    (hB : (aB s').toInt ≤ (aB s).toInt + 1000000000000) (hF : 0 ≤ ((aB s').toInt - (aB s).toInt) + ((yH r).toInt - (yH r').toInt) + ((lk r).toInt - (lk r').toInt)) :
    hb_I (n + 1) ho pa tm (A.set k s') (P.set i r') na np (vp_updL bal k (aB s')) mi (hb_uY f j r') := by
  have hkl := (List.getElem?_eq_some_iff.mp hk).1
  have hA := h.2.1
  have hir : hb_ri na tm r := h.2.2.1 r (List.mem_of_getElem? hi)
  have hrows : ∀ q ∈ P.set i r', hb_ri na tm q := by
    intro q hq
    rcases List.mem_or_eq_of_mem_set hq with z | z
    · exact h.2.2.1 q z
    · rw [z]; exact hri
  have hI2 : hb_I n ho pa tm [] (P.set i r') 0 np (fun _ => 0) (fun _ => 0) f → True := fun _ => trivial
  have hlen : (P.set i r').length ≤ 60 := by rw [List.length_set, h.len]; exact hA.2.2.1
  have bd1 := fun (c : Int32) => hb_ls_bd (f := gH c) (L := P.set i r') (fun q hq => hb_gH_bd (hrows q hq)) (by omega)
  have bd2 := fun (c : Int32) => hb_ls_bd (f := gL c) (L := P.set i r') (fun q hq => hb_gL_bd (hrows q hq)) (by omega)
  refine ⟨⟨by omega, h.1.2⟩, ⟨by rw [List.length_set]; exact hA.1, hA.2.1, hA.2.2.1, hb_pw_set hA.2.2.2.1 hi e1, ?_⟩, hrows, ?_⟩
  · rw [hb_rl_set]
    exact hb_set2 hA.2.2.2.2 hi (by rw [hb_rl_at hj, hf])
  · intro c t hc
    rcases hb_set_at hk hc with ⟨rfl, rfl⟩ | ⟨hne, hc⟩
    · obtain ⟨⟨a1, a2, a3, a4, a5, a6⟩, a7, a8⟩ := h.2.2.2 _ s hk
      have g1 : hb_ls (gH (nI c)) (P.set i r') = hb_ls (gH (nI c)) P + (yH r' - yH r) := by
        rw [hb_ls_set hi]; unfold gH; rw [e2, if_pos hr, if_pos hr]
      have g2 : hb_ls (gL (nI c)) (P.set i r') = hb_ls (gL (nI c)) P + (lk r' - lk r) := by
        rw [hb_ls_set hi]; unfold gL; rw [e2, if_pos hr, if_pos hr]
      have b1 := h.sH (nI c)
      have b2 := h.sL (nI c)
      have b3 := hir.2.2.2.2.2.2.2.2.1
      have b4 := hri.2.2.2.2.2.2.2.2.1
      have b5 := hb_lk_bd hir
      have b6 := hb_lk_bd hri
      have i1 : (yH r' - yH r).toInt = (yH r').toInt - (yH r).toInt := q64_sub (by omega) (by omega)
      have i2 : (lk r' - lk r).toInt = (lk r').toInt - (lk r).toInt := q64_sub (by omega) (by omega)
      have i3 : (hb_ls (gH (nI c)) P + (yH r' - yH r)).toInt = (hb_ls (gH (nI c)) P).toInt + ((yH r').toInt - (yH r).toInt) := by rw [q64_add (by omega) (by omega), i1]
      have i4 : (hb_ls (gL (nI c)) P + (lk r' - lk r)).toInt = (hb_ls (gL (nI c)) P).toInt + ((lk r').toInt - (lk r).toInt) := by rw [q64_add (by omega) (by omega), i2]
      refine ⟨⟨by rw [e5, a1, g1], by rw [e6, a2, g2], by push_cast at *; omega, by rw [e3]; exact a4, by rw [e4]; exact a5, ?_⟩, ?_, by rw [e3]; exact a8⟩
      · unfold hb_fi at *
        rw [g1, g2, i3, i4, e3, e4]
        rcases a6 with z | z
        · left; omega
        · right; omega
      · unfold vp_updL; rw [if_pos rfl]
    · obtain ⟨⟨a1, a2, a3, a4, a5, a6⟩, a7, a8⟩ := h.2.2.2 c t hc
      have hcl := (List.getElem?_eq_some_iff.mp hc).1
      have hkc : yA r ≠ nI c := by
        rw [hr]
        intro z
        exact hne (hb_eqi (by omega) (by omega) z).symm
      have g1 : hb_ls (gH (nI c)) (P.set i r') = hb_ls (gH (nI c)) P := by rw [hb_ls_set hi, hb_gH_ne e2 hkc, Int64.add_zero]
      have g2 : hb_ls (gL (nI c)) (P.set i r') = hb_ls (gL (nI c)) P := by rw [hb_ls_set hi, hb_gL_ne e2 hkc, Int64.add_zero]
      refine ⟨⟨by rw [g1]; exact a1, by rw [g2]; exact a2, by push_cast at *; omega, a4, a5, by unfold hb_fi at *; rw [g1, g2]; exact a6⟩, ?_, a8⟩
      unfold vp_updL
      rw [if_neg hne]
      exact a7
end PI
