/-! PURE PART: ticks, row by row; the invariant behind them -/
section TR
variable {na : Nat} {tm T T' : Int32} {r : hbY}
theorem hb_pr_ri (h : hb_ri na tm r) (h0 : 0 ≤ tm.toInt) (hT : tm.toInt ≤ T.toInt) : hb_ri na T (hb_pr T r) := by
  obtain ⟨g1, g2, g3, g4, g5, g6, g7, g8, g9, g10⟩ := h
  have key : ∀ (E C : Prop) [Decidable E] [Decidable C], (E ↔ (yS r = 1 ∧ yU r ≤ T)) → (C ↔ ((yD r = 1 ∨ yD r = 2) ∧ yL r < T)) → hb_pr T r = (r.1, r.2.1, if E then (if 0 < yC r then 3 else 2) else yS r, if E then 0 else yH r, yC r, if E then 0 else yU r, if E then (if 0 < yC r then yU r else yN r) else yN r, if C then (if yD r = 1 then 3 else 4) else yD r, yM r, if C then (-1) else yL r) := by
    intro E C _ _ hE hC
    unfold hb_pr hb_pass
    simp only [hE, hC, yS, yU, yD, yL, yH, yC, yN, yM]
  by_cases hE : yS r = 1 ∧ yU r ≤ T
  · have hd0 : yD r = 0 := (g3 hE.1).2.2
    have hC : ¬ ((yD r = 1 ∨ yD r = 2) ∧ yL r < T) := fun z => by rw [hd0] at z; revert z; simp
    have e := key True False (by simp [hE]) (by simp [hC])
    simp only [if_true, if_false] at e
    rw [e]
    have hu := (g3 hE.1).1
    have hu2 := Int32.le_iff_toInt_le.mp hE.2
    by_cases hc : 0 < yC r
    · simp only [if_pos hc]
      refine ⟨?_, Or.inr (Or.inr rfl), fun z => absurd z (by decide : (3 : Int32) ≠ 1), fun _ => rfl, fun _ => ⟨by show 0 ≤ (yU r).toInt; omega, by show (yU r).toInt ≤ _; omega⟩, g6, fun z => absurd hd0 z, fun z => ?_, ⟨(by decide : 0 ≤ (0 : Int64).toInt), g9.2.1, ?_⟩, g10⟩
      · rcases g1 with ⟨z1, z2, z3⟩ | z
        · rw [hE.1] at z2; exact absurd z2 (by decide)
        · exact Or.inr z
      · exact absurd z (by show ¬ (yD r = 1 ∨ yD r = 2); rw [hd0]; decide)
      · show (0 : Int64).toInt + (yC r).toInt ≤ _; rw [q64_z]; omega
    · simp only [if_neg hc]
      refine ⟨?_, Or.inr (Or.inl rfl), fun z => absurd z (by decide : (2 : Int32) ≠ 1), fun _ => rfl, fun z => absurd z (by decide : (2 : Int32) ≠ 3), g6, fun z => absurd hd0 z, fun z => ?_, ⟨(by decide : 0 ≤ (0 : Int64).toInt), g9.2.1, ?_⟩, g10⟩
      · rcases g1 with ⟨z1, z2, z3⟩ | z
        · rw [hE.1] at z2; exact absurd z2 (by decide)
        · exact Or.inr z
      · exact absurd z (by show ¬ (yD r = 1 ∨ yD r = 2); rw [hd0]; decide)
      · show (0 : Int64).toInt + (yC r).toInt ≤ _; rw [q64_z]; omega
  · by_cases hC : (yD r = 1 ∨ yD r = 2) ∧ yL r < T
    · have e := key False True (by simp [hE]) (by simp [hC])
      simp only [if_true, if_false] at e
      have s3 : yS r = 3 := g7 (fun z => by have := hC.1; rw [z] at this; revert this; decide)
      rw [e]
      refine ⟨?_, g2, fun z => absurd z (by show yS r ≠ 1; rw [s3]; decide), g4, fun z => ⟨(g5 s3).1, by have := (g5 s3).2; show (yN r).toInt ≤ _; omega⟩, ?_, fun _ => s3, fun z => ?_, g9, g10⟩
      · rcases g1 with ⟨z1, z2, z3⟩ | z
        · rw [s3] at z2; exact absurd z2 (by decide)
        · exact Or.inr z
      · show (if yD r = 1 then (3 : Int32) else 4) = 0 ∨ _
        by_cases d1 : yD r = 1
        · rw [if_pos d1]; simp
        · rw [if_neg d1]; simp
      · exfalso
        revert z
        show ((if yD r = 1 then (3 : Int32) else 4) = 1 ∨ (if yD r = 1 then (3 : Int32) else 4) = 2) → False
        by_cases d1 : yD r = 1
        · rw [if_pos d1]; decide
        · rw [if_neg d1]; decide
    · rw [hb_pr_id hE hC]
      refine ⟨g1, g2, fun z => ⟨?_, (g3 z).2⟩, g4, fun z => ⟨(g5 z).1, by have := (g5 z).2; omega⟩, g6, g7, fun z => ?_, g9, g10⟩
      · have : ¬ yU r ≤ T := fun y => hE ⟨z, y⟩
        rw [Int32.le_iff_toInt_le] at this
        omega
      · have : ¬ yL r < T := fun y => hC ⟨z, y⟩
        rw [Int32.lt_iff_toInt_lt] at this
        omega
theorem hb_pr_gH {k : Int32} : gH k (hb_pr T r) = gH k r + qH T k r := by
  unfold gH qH
  show (if yA r = k then (if yS r = 1 ∧ yU r ≤ T then 0 else yH r) else 0) = _
  by_cases h1 : yA r = k
  · rw [if_pos h1, if_pos h1, if_pos h1]
    split <;> grind
  · rw [if_neg h1, if_neg h1, if_neg h1]
    rfl
theorem hb_pr_gL {k : Int32} : gL k (hb_pr T r) = gL k r - qL T k r := by
  unfold gL qL lk
  show (if yA r = k then (if (if ((yD r = 1 ∨ yD r = 2) ∧ yL r < T) then (if yD r = 1 then (3 : Int32) else 4) else yD r) = 1 ∨ (if ((yD r = 1 ∨ yD r = 2) ∧ yL r < T) then (if yD r = 1 then (3 : Int32) else 4) else yD r) = 2 then yM r else 0) else 0) = _
  by_cases h1 : yA r = k
  · rw [if_pos h1, if_pos h1, if_pos h1]
    by_cases h2 : (yD r = 1 ∨ yD r = 2) ∧ yL r < T
    · rw [if_pos h2, if_pos h2, if_pos h2.1]
      have : ¬ ((if yD r = 1 then (3 : Int32) else 4) = 1 ∨ (if yD r = 1 then (3 : Int32) else 4) = 2) := by
        by_cases d1 : yD r = 1
        · rw [if_pos d1]; decide
        · rw [if_neg d1]; decide
      rw [if_neg this]
      grind
    · rw [if_neg h2, if_neg h2]
      split <;> grind
  · rw [if_neg h1, if_neg h1, if_neg h1]
    rfl
/-- one more tick on a row that has passed to T -/
theorem hb_rp_pr (h : hb_ri na tm r) (hT : T.toInt < T'.toInt) (hT2 : T'.toInt = T.toInt + 1) : hb_rp T' (hb_pr T r) = hb_pr T' r := by
  obtain ⟨g1, g2, g3, g4, g5, g6, g7, g8, g9, g10⟩ := h
  unfold hb_rp hb_pr hb_pass
  have mU : r.2.2.2.2.2.1 ≤ T → r.2.2.2.2.2.1 ≤ T' := fun z => by rw [Int32.le_iff_toInt_le] at *; omega
  have mL : r.2.2.2.2.2.2.2.2.2 < T → r.2.2.2.2.2.2.2.2.2 < T' := fun z => by rw [Int32.lt_iff_toInt_lt] at *; omega
  refine Prod.ext rfl (Prod.ext rfl (Prod.ext ?_ (Prod.ext ?_ (Prod.ext rfl (Prod.ext ?_ (Prod.ext ?_ (Prod.ext ?_ (Prod.ext rfl ?_))))))))
  all_goals dsimp only
  · by_cases h1 : r.2.2.1 = 1
    · by_cases h2 : r.2.2.2.2.2.1 ≤ T
      · by_cases h3 : 0 < r.2.2.2.2.1 <;> simp [h1, h2, h3, mU h2]
      · by_cases h4 : r.2.2.2.2.2.1 ≤ T' <;> simp [h1, h2, h4]
    · simp [h1]
  · by_cases h1 : r.2.2.1 = 1
    · by_cases h2 : r.2.2.2.2.2.1 ≤ T
      · by_cases h3 : 0 < r.2.2.2.2.1 <;> simp [h1, h2, h3, mU h2]
      · by_cases h4 : r.2.2.2.2.2.1 ≤ T' <;> simp [h1, h2, h4]
    · simp [h1]
  · by_cases h1 : r.2.2.1 = 1
    · by_cases h2 : r.2.2.2.2.2.1 ≤ T
      · by_cases h3 : 0 < r.2.2.2.2.1 <;> simp [h1, h2, h3, mU h2]
      · by_cases h4 : r.2.2.2.2.2.1 ≤ T' <;> simp [h1, h2, h4]
    · simp [h1]
  · by_cases h1 : r.2.2.1 = 1
    · by_cases h2 : r.2.2.2.2.2.1 ≤ T
      · by_cases h3 : 0 < r.2.2.2.2.1 <;> simp [h1, h2, h3, mU h2]
      · by_cases h4 : r.2.2.2.2.2.1 ≤ T'
        · have e1 : T' = r.2.2.2.2.2.1 := by
            rw [← Int32.toInt_inj]
            rw [Int32.le_iff_toInt_le] at h2 h4
            omega
          have e2 : r.2.2.2.2.2.2.1 = -1 := (g3 h1).2.1
          by_cases h3 : 0 < r.2.2.2.2.1
          · simp [h1, h2, h3, e1]
          · simp [h1, h2, h3, h4, e2]
        · simp [h1, h2, h4]
    · simp [h1]
  · by_cases h1 : r.2.2.2.2.2.2.2.1 = 1
    · by_cases h2 : r.2.2.2.2.2.2.2.2.2 < T
      · simp [h1, h2, mL h2]
      · by_cases h4 : r.2.2.2.2.2.2.2.2.2 < T' <;> simp [h1, h2, h4]
    · by_cases h5 : r.2.2.2.2.2.2.2.1 = 2
      · by_cases h2 : r.2.2.2.2.2.2.2.2.2 < T
        · simp [h5, h2, mL h2]
        · by_cases h4 : r.2.2.2.2.2.2.2.2.2 < T' <;> simp [h5, h2, h4]
      · simp [h1, h5]
  · by_cases h1 : r.2.2.2.2.2.2.2.1 = 1
    · by_cases h2 : r.2.2.2.2.2.2.2.2.2 < T
      · simp [h1, h2, mL h2]
      · by_cases h4 : r.2.2.2.2.2.2.2.2.2 < T' <;> simp [h1, h2, h4]
    · by_cases h5 : r.2.2.2.2.2.2.2.1 = 2
      · by_cases h2 : r.2.2.2.2.2.2.2.2.2 < T
        · simp [h5, h2, mL h2]
        · by_cases h4 : r.2.2.2.2.2.2.2.2.2 < T' <;> simp [h5, h2, h4]
      · simp [h1, h5]
theorem hb_rB_pr {k : Nat} (h : hb_ri na tm r) (hna : na ≤ 16) (hk : k < 16) (hT2 : T'.toInt = T.toInt + 1) : qB T (nI k) r + rB T' k (hb_pr T r) = qB T' (nI k) r := by
  unfold qB rB hb_lo
  have mL : yL r < T → yL r < T' := fun z => by rw [Int32.lt_iff_toInt_lt] at *; omega
  have eD : (hb_pr T r).2.2.2.2.2.2.2.1 = if ((yD r = 1 ∨ yD r = 2) ∧ yL r < T) then (if yD r = 1 then 3 else 4) else yD r := rfl
  have eL : (hb_pr T r).2.2.2.2.2.2.2.2.2 = if ((yD r = 1 ∨ yD r = 2) ∧ yL r < T) then (-1) else yL r := rfl
  have eA : (hb_pr T r).2.1 = yA r := rfl
  have eM : yM (hb_pr T r) = yM r := rfl
  rw [eD, eL, eA, eM]
  by_cases d2 : yD r = 2
  · have d1 : ¬ yD r = 1 := by rw [d2]; decide
    have hacc : ∃ k', k' < na ∧ yA r = nI k' := by
      rcases h.1 with ⟨-, -, z⟩ | z
      · rw [d2] at z; exact absurd z (by decide)
      · exact z
    obtain ⟨k', hk', ea⟩ := hacc
    have hiff : (yA r = nI k) ↔ ((yA r).toNatClampNeg = k) := by
      rw [ea, nI_clamp (by omega)]
      exact ⟨fun z => hb_eqi (by omega) (by omega) z, fun z => by rw [z]⟩
    by_cases hl : yL r < T
    · have hx : (yD r = 1 ∨ yD r = 2) ∧ yL r < T := ⟨Or.inr d2, hl⟩
      have c1 : yD r = 2 ∧ yL r < T := ⟨d2, hl⟩
      have c2 : yD r = 2 ∧ yL r < T' := ⟨d2, mL hl⟩
      have c3 : ¬ (((4 : Int32) = 2 ∧ (-1 : Int32) < T') ∧ (yA r).toNatClampNeg = k) := fun z => absurd z.1.1 (by decide)
      simp only [if_pos hx, if_neg d1, if_pos c1, if_pos c2, if_neg c3, Int64.add_zero]
    · have hx : ¬ ((yD r = 1 ∨ yD r = 2) ∧ yL r < T) := fun z => hl z.2
      have c1 : ¬ (yD r = 2 ∧ yL r < T) := fun z => hl z.2
      by_cases hl2 : yL r < T'
      · have c2 : yD r = 2 ∧ yL r < T' := ⟨d2, hl2⟩
        by_cases hk2 : yA r = nI k
        · have c3 : (yD r = 2 ∧ yL r < T') ∧ (yA r).toNatClampNeg = k := ⟨c2, hiff.mp hk2⟩
          simp only [if_neg hx, if_neg c1, if_pos c2, if_pos hk2, if_pos c3, Int64.zero_add]
        · have c3 : ¬ ((yD r = 2 ∧ yL r < T') ∧ (yA r).toNatClampNeg = k) := fun z => hk2 (hiff.mpr z.2)
          simp only [if_neg hx, if_neg hk2, if_neg c3, Int64.zero_add]
      · have c2 : ¬ (yD r = 2 ∧ yL r < T') := fun z => hl2 z.2
        have c3 : ¬ ((yD r = 2 ∧ yL r < T') ∧ (yA r).toNatClampNeg = k) := fun z => c2 z.1
        simp only [if_neg hx, if_neg c1, if_neg c2, if_neg c3, ite_self, Int64.add_zero]
  · have z0 : ∀ (X : Prop) [Decidable X], (if X then (if yD r = 2 ∧ yL r < T then yM r else 0) else 0) = (0 : Int64) := by
      intro X _
      rw [if_neg (c := yD r = 2 ∧ yL r < T) (fun z => d2 z.1)]
      split <;> rfl
    have z1 : ∀ (X : Prop) [Decidable X], (if X then (if yD r = 2 ∧ yL r < T' then yM r else 0) else 0) = (0 : Int64) := by
      intro X _
      rw [if_neg (c := yD r = 2 ∧ yL r < T') (fun z => d2 z.1)]
      split <;> rfl
    rw [z0, z1, if_neg, Int64.add_zero]
    rintro ⟨⟨z, -⟩, -⟩
    by_cases hx : (yD r = 1 ∨ yD r = 2) ∧ yL r < T
    · rw [if_pos hx] at z
      by_cases d1 : yD r = 1
      · rw [if_pos d1] at z; exact absurd z (by decide)
      · rw [if_neg d1] at z; exact absurd z (by decide)
    · rw [if_neg hx] at z; exact d2 z
end TR
