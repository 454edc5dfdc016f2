/-! ACCOUNT AND PAYMENT: tell, passTo -/
theorem hb_le {x y : Int32} (h : ¬ y < x) : x ≤ y := by
  rw [Int32.le_iff_toInt_le]
  rw [Int32.lt_iff_toInt_lt] at h
  omega
set_option maxHeartbeats 4000000 in
set_option maxRecDepth 100000 in
/-- Account.tell(w) -/
theorem c_Acc_tell {l : Launch} {s0 : State} {D : va_G} {cI cJ cO : ClassId} {e0 mi : Nat} (hE : hb_E l s0 D cI cJ cO e0 mi) (M : hb_M) (a : Nat) (an : Int32) (am af ab ah al : Int64) (ha : M a = some (.inr (0, [.int an, .long am, .long af, .long ab, .long ah, .long al]))) (w : Int32) : hb_Met l D hb_cl s0 y_Acc_tell b_Acc_tell 2 (some .long) { frames := 1, cells := 0, slots := 0, locals := 20 } [.ref a, .int w] M (fun v M1 => v = some (.long (if w = 0 then ab else if w = 1 then ah else if w = 2 then al else ab - am - ah - al)) ∧ M1 = M) := by
  refine hb_Met.of (by decide) (Nat.le_of_ble_eq_true rfl) ?_
  intro p e s m below meth c A hAe hX hz hP hD hA hS ls hl
  obtain ⟨hx, hb, hr, hml, hown, hlocks, hnm, hG, hnh⟩ := id hX
  have hown : s.vm.findClass "HoldBook$Account" = some m.cls := hown
  have hts := hE.ts hG ([.ref a, .int w] : List Value).toArray
  have hK := hE.kn hG
  have hl : lv_has ls 2 [(0, .ref a), (1, .int w)] := hl
  refine lv_iload_n hx hb d_Acc_tell_0 rfl (lv_at hl 1 rfl) ?_
  by_cases c1 : w = 0
  · skip
    refine lv_tableIn (off := 27) (tgt := 28) hx hb d_Acc_tell_1 (by rw [c1]; decide) (by rw [c1]; decide) (by rw [c1]; decide) (by decide) ?_
    refine lv_aload_n hx hb d_Acc_tell_28 rfl (lv_at hl 0 rfl) ?_
    refine hb_get hx hb hts hown hC_Acc hK hP ha 3 (by decide) rfl fl_Acc_20 rfl d_Acc_tell_29 ?_
    exact hb_lret hAe hx hb hr hlocks hP hD hS (Nat.le_of_ble_eq_true rfl) (Nat.le_of_ble_eq_true rfl) (⟨by rw [if_pos c1], rfl⟩) d_Acc_tell_32
  by_cases c2 : w = 1
  · skip
    refine lv_tableIn (off := 32) (tgt := 33) hx hb d_Acc_tell_1 (by rw [c2]; decide) (by rw [c2]; decide) (by rw [c2]; decide) (by decide) ?_
    refine lv_aload_n hx hb d_Acc_tell_33 rfl (lv_at hl 0 rfl) ?_
    refine hb_get hx hb hts hown hC_Acc hK hP ha 4 (by decide) rfl fl_Acc_7 rfl d_Acc_tell_34 ?_
    exact hb_lret hAe hx hb hr hlocks hP hD hS (Nat.le_of_ble_eq_true rfl) (Nat.le_of_ble_eq_true rfl) (⟨by rw [if_neg c1, if_pos c2], rfl⟩) d_Acc_tell_37
  by_cases c3 : w = 2
  · skip
    refine lv_tableIn (off := 37) (tgt := 38) hx hb d_Acc_tell_1 (by rw [c3]; decide) (by rw [c3]; decide) (by rw [c3]; decide) (by decide) ?_
    refine lv_aload_n hx hb d_Acc_tell_38 rfl (lv_at hl 0 rfl) ?_
    refine hb_get hx hb hts hown hC_Acc hK hP ha 5 (by decide) rfl fl_Acc_13 rfl d_Acc_tell_39 ?_
    exact hb_lret hAe hx hb hr hlocks hP hD hS (Nat.le_of_ble_eq_true rfl) (Nat.le_of_ble_eq_true rfl) (⟨by rw [if_neg c1, if_neg c2, if_pos c3], rfl⟩) d_Acc_tell_42
  refine lv_tableOut (tgt := 43) hx hb d_Acc_tell_1 (by have n0 := lv_neT (a := 0) c1 (by decide); have n1 := lv_neT (a := 1) c2 (by decide); have n2 := lv_neT (a := 2) c3 (by decide); omega) (by decide) ?_
  refine lv_aload_n hx hb d_Acc_tell_43 rfl (lv_at hl 0 rfl) ?_
  refine hb_callV (rest := []) hX hts hb_gd Y_Acc_free (c_Acc_free hE M a an am af ab ah al ha) ml_Acc_29 im_Acc_free se_Acc_free hK ha hC_Acc.1 hz hP hD hS hA rfl hl.1 rfl (Nat.le_of_ble_eq_true rfl) ⟨Nat.le_of_ble_eq_true rfl, Nat.le_of_ble_eq_true rfl⟩ ⟨Nat.le_of_ble_eq_true rfl, Nat.le_of_ble_eq_true rfl⟩ d_Acc_tell_44 (fun v6 M4 H locs hq5 hP hD hS _ hkp => ?_)
  obtain ⟨ev7, eM8⟩ := hq5
  subst ev7
  rw [eM8] at hP hD
  refine W.eq (g2 := F0 m 47 ls [.long (ab - am - ah - al)]) rfl ?_
  exact hb_lret hAe hx hb hr hlocks hP hD hS (Nat.le_of_ble_eq_true rfl) (Nat.le_of_ble_eq_true rfl) (⟨by rw [if_neg c1, if_neg c2, if_neg c3], rfl⟩) d_Acc_tell_47
set_option maxHeartbeats 4000000 in
set_option maxRecDepth 100000 in
/-- Payment.tell(w) -/
theorem c_Pay_tell {l : Launch} {s0 : State} {D : va_G} {cI cJ cO : ClassId} {e0 mi : Nat} (hE : hb_E l s0 D cI cJ cO e0 mi) (M : hb_M) (p0 a : Nat) (an : Int32) (am af ab ah al : Int64) (pk ps pu pn pd pt : Int32) (ph pc pa : Int64) (ha : M a = some (.inr (0, [.int an, .long am, .long af, .long ab, .long ah, .long al]))) (hp : M p0 = some (.inr (1, [.int pk, .ref a, .int ps, .long ph, .long pc, .int pu, .int pn, .int pd, .long pa, .int pt]))) (w : Int32) : hb_Met l D hb_cl s0 y_Pay_tell b_Pay_tell 2 (some .long) { frames := 0, cells := 0, slots := 0, locals := 0 } [.ref p0, .int w] M (fun v M1 => v = some (.long (if w = 0 then ps.toInt64 else if w = 1 then ph else if w = 2 then pc else if w = 3 then pu.toInt64 else if w = 4 then pn.toInt64 else if w = 5 then an.toInt64 else if w = 6 then pd.toInt64 else if w = 7 then pa else pt.toInt64)) ∧ M1 = M) := by
  refine hb_Met.of (by decide) (Nat.le_of_ble_eq_true rfl) ?_
  intro p e s m below meth c A hAe hX hz hP hD hA hS ls hl
  obtain ⟨hx, hb, hr, hml, hown, hlocks, hnm, hG, hnh⟩ := id hX
  have hown : s.vm.findClass "HoldBook$Payment" = some m.cls := hown
  have hts := hE.ts hG ([.ref p0, .int w] : List Value).toArray
  have hK := hE.kn hG
  have hl : lv_has ls 2 [(0, .ref p0), (1, .int w)] := hl
  refine lv_iload_n hx hb d_Pay_tell_0 rfl (lv_at hl 1 rfl) ?_
  by_cases c1 : w = 0
  · skip
    refine lv_tableIn (off := 47) (tgt := 48) hx hb d_Pay_tell_1 (by rw [c1]; decide) (by rw [c1]; decide) (by rw [c1]; decide) (by decide) ?_
    refine lv_aload_n hx hb d_Pay_tell_48 rfl (lv_at hl 0 rfl) ?_
    refine hb_get hx hb hts hown hC_Pay hK hP hp 2 (by decide) rfl fl_Pay_11 rfl d_Pay_tell_49 ?_
    refine lv_i2l (v := ps.toInt64) hx hb d_Pay_tell_52 rfl ?_
    exact hb_lret hAe hx hb hr hlocks hP hD hS (Nat.le_of_ble_eq_true rfl) (Nat.le_of_ble_eq_true rfl) (⟨by rw [if_pos c1], rfl⟩) d_Pay_tell_53
  by_cases c2 : w = 1
  · skip
    refine lv_tableIn (off := 53) (tgt := 54) hx hb d_Pay_tell_1 (by rw [c2]; decide) (by rw [c2]; decide) (by rw [c2]; decide) (by decide) ?_
    refine lv_aload_n hx hb d_Pay_tell_54 rfl (lv_at hl 0 rfl) ?_
    refine hb_get hx hb hts hown hC_Pay hK hP hp 3 (by decide) rfl fl_Pay_15 rfl d_Pay_tell_55 ?_
    exact hb_lret hAe hx hb hr hlocks hP hD hS (Nat.le_of_ble_eq_true rfl) (Nat.le_of_ble_eq_true rfl) (⟨by rw [if_neg c1, if_pos c2], rfl⟩) d_Pay_tell_58
  by_cases c3 : w = 2
  · skip
    refine lv_tableIn (off := 58) (tgt := 59) hx hb d_Pay_tell_1 (by rw [c3]; decide) (by rw [c3]; decide) (by rw [c3]; decide) (by decide) ?_
    refine lv_aload_n hx hb d_Pay_tell_59 rfl (lv_at hl 0 rfl) ?_
    refine hb_get hx hb hts hown hC_Pay hK hP hp 4 (by decide) rfl fl_Pay_19 rfl d_Pay_tell_60 ?_
    exact hb_lret hAe hx hb hr hlocks hP hD hS (Nat.le_of_ble_eq_true rfl) (Nat.le_of_ble_eq_true rfl) (⟨by rw [if_neg c1, if_neg c2, if_pos c3], rfl⟩) d_Pay_tell_63
  by_cases c4 : w = 3
  · skip
    refine lv_tableIn (off := 63) (tgt := 64) hx hb d_Pay_tell_1 (by rw [c4]; decide) (by rw [c4]; decide) (by rw [c4]; decide) (by decide) ?_
    refine lv_aload_n hx hb d_Pay_tell_64 rfl (lv_at hl 0 rfl) ?_
    refine hb_get hx hb hts hown hC_Pay hK hP hp 5 (by decide) rfl fl_Pay_22 rfl d_Pay_tell_65 ?_
    refine lv_i2l (v := pu.toInt64) hx hb d_Pay_tell_68 rfl ?_
    exact hb_lret hAe hx hb hr hlocks hP hD hS (Nat.le_of_ble_eq_true rfl) (Nat.le_of_ble_eq_true rfl) (⟨by rw [if_neg c1, if_neg c2, if_neg c3, if_pos c4], rfl⟩) d_Pay_tell_69
  by_cases c5 : w = 4
  · skip
    refine lv_tableIn (off := 69) (tgt := 70) hx hb d_Pay_tell_1 (by rw [c5]; decide) (by rw [c5]; decide) (by rw [c5]; decide) (by decide) ?_
    refine lv_aload_n hx hb d_Pay_tell_70 rfl (lv_at hl 0 rfl) ?_
    refine hb_get hx hb hts hown hC_Pay hK hP hp 6 (by decide) rfl fl_Pay_25 rfl d_Pay_tell_71 ?_
    refine lv_i2l (v := pn.toInt64) hx hb d_Pay_tell_74 rfl ?_
    exact hb_lret hAe hx hb hr hlocks hP hD hS (Nat.le_of_ble_eq_true rfl) (Nat.le_of_ble_eq_true rfl) (⟨by rw [if_neg c1, if_neg c2, if_neg c3, if_neg c4, if_pos c5], rfl⟩) d_Pay_tell_75
  by_cases c6 : w = 5
  · skip
    refine lv_tableIn (off := 75) (tgt := 76) hx hb d_Pay_tell_1 (by rw [c6]; decide) (by rw [c6]; decide) (by rw [c6]; decide) (by decide) ?_
    refine lv_aload_n hx hb d_Pay_tell_76 rfl (lv_at hl 0 rfl) ?_
    refine hb_get hx hb hts hown hC_Pay hK hP hp 1 (by decide) rfl fl_Pay_40 rfl d_Pay_tell_77 ?_
    refine hb_get hx hb hts hown hC_Acc hK hP ha 0 (by decide) rfl fl_Pay_69 rfl d_Pay_tell_80 ?_
    refine lv_i2l (v := an.toInt64) hx hb d_Pay_tell_83 rfl ?_
    exact hb_lret hAe hx hb hr hlocks hP hD hS (Nat.le_of_ble_eq_true rfl) (Nat.le_of_ble_eq_true rfl) (⟨by rw [if_neg c1, if_neg c2, if_neg c3, if_neg c4, if_neg c5, if_pos c6], rfl⟩) d_Pay_tell_84
  by_cases c7 : w = 6
  · skip
    refine lv_tableIn (off := 84) (tgt := 85) hx hb d_Pay_tell_1 (by rw [c7]; decide) (by rw [c7]; decide) (by rw [c7]; decide) (by decide) ?_
    refine lv_aload_n hx hb d_Pay_tell_85 rfl (lv_at hl 0 rfl) ?_
    refine hb_get hx hb hts hown hC_Pay hK hP hp 7 (by decide) rfl fl_Pay_28 rfl d_Pay_tell_86 ?_
    refine lv_i2l (v := pd.toInt64) hx hb d_Pay_tell_89 rfl ?_
    exact hb_lret hAe hx hb hr hlocks hP hD hS (Nat.le_of_ble_eq_true rfl) (Nat.le_of_ble_eq_true rfl) (⟨by rw [if_neg c1, if_neg c2, if_neg c3, if_neg c4, if_neg c5, if_neg c6, if_pos c7], rfl⟩) d_Pay_tell_90
  by_cases c8 : w = 7
  · skip
    refine lv_tableIn (off := 90) (tgt := 91) hx hb d_Pay_tell_1 (by rw [c8]; decide) (by rw [c8]; decide) (by rw [c8]; decide) (by decide) ?_
    refine lv_aload_n hx hb d_Pay_tell_91 rfl (lv_at hl 0 rfl) ?_
    refine hb_get hx hb hts hown hC_Pay hK hP hp 8 (by decide) rfl fl_Pay_31 rfl d_Pay_tell_92 ?_
    exact hb_lret hAe hx hb hr hlocks hP hD hS (Nat.le_of_ble_eq_true rfl) (Nat.le_of_ble_eq_true rfl) (⟨by rw [if_neg c1, if_neg c2, if_neg c3, if_neg c4, if_neg c5, if_neg c6, if_neg c7, if_pos c8], rfl⟩) d_Pay_tell_95
  refine lv_tableOut (tgt := 96) hx hb d_Pay_tell_1 (by have n0 := lv_neT (a := 0) c1 (by decide); have n1 := lv_neT (a := 1) c2 (by decide); have n2 := lv_neT (a := 2) c3 (by decide); have n3 := lv_neT (a := 3) c4 (by decide); have n4 := lv_neT (a := 4) c5 (by decide); have n5 := lv_neT (a := 5) c6 (by decide); have n6 := lv_neT (a := 6) c7 (by decide); have n7 := lv_neT (a := 7) c8 (by decide); omega) (by decide) ?_
  refine lv_aload_n hx hb d_Pay_tell_96 rfl (lv_at hl 0 rfl) ?_
  refine hb_get hx hb hts hown hC_Pay hK hP hp 9 (by decide) rfl fl_Pay_34 rfl d_Pay_tell_97 ?_
  refine lv_i2l (v := pt.toInt64) hx hb d_Pay_tell_100 rfl ?_
  exact hb_lret hAe hx hb hr hlocks hP hD hS (Nat.le_of_ble_eq_true rfl) (Nat.le_of_ble_eq_true rfl) (⟨by rw [if_neg c1, if_neg c2, if_neg c3, if_neg c4, if_neg c5, if_neg c6, if_neg c7, if_neg c8], rfl⟩) d_Pay_tell_101
set_option maxHeartbeats 4000000 in
set_option maxRecDepth 100000 in
/-- Payment.passTo(n) -/
theorem c_Pay_passTo {l : Launch} {s0 : State} {D : va_G} {cI cJ cO : ClassId} {e0 mi : Nat} (hE : hb_E l s0 D cI cJ cO e0 mi) (M : hb_M) (p0 a : Nat) (an : Int32) (am af ab ah al : Int64) (pk ps pu pn pd pt : Int32) (ph pc pa : Int64) (ha : M a = some (.inr (0, [.int an, .long am, .long af, .long ab, .long ah, .long al]))) (hp : M p0 = some (.inr (1, [.int pk, .ref a, .int ps, .long ph, .long pc, .int pu, .int pn, .int pd, .long pa, .int pt]))) (n : Int32) : hb_Met l D hb_cl s0 y_Pay_passTo b_Pay_passTo 2 none { frames := 2, cells := 0, slots := 0, locals := 43 } [.ref p0, .int n] M (fun v M1 => v = none ∧ M1 a = some (.inr (0, [.int an, .long am, .long af, .long (if ((pd = 1 ∨ pd = 2) ∧ pt < n) then (if pd = 1 then ab else ab - pa) else ab), .long (if (ps = 1 ∧ pu ≤ n) then ah + (0 - ph) else ah), .long (if ((pd = 1 ∨ pd = 2) ∧ pt < n) then al - pa else al)])) ∧ M1 p0 = some (.inr (1, [.int pk, .ref a, .int (if (ps = 1 ∧ pu ≤ n) then (if 0 < pc then 3 else 2) else ps), .long (if (ps = 1 ∧ pu ≤ n) then 0 else ph), .long pc, .int (if (ps = 1 ∧ pu ≤ n) then 0 else pu), .int (if (ps = 1 ∧ pu ≤ n) then (if 0 < pc then pu else pn) else pn), .int (if ((pd = 1 ∨ pd = 2) ∧ pt < n) then (if pd = 1 then 3 else 4) else pd), .long pa, .int (if ((pd = 1 ∨ pd = 2) ∧ pt < n) then (-1) else pt)])) ∧ hb_off [a, p0] M M1) := by
  refine hb_Met.of (by decide) (Nat.le_of_ble_eq_true rfl) ?_
  intro p e s m below meth c A hAe hX hz hP hD hA hS ls hl
  obtain ⟨hx, hb, hr, hml, hown, hlocks, hnm, hG, hnh⟩ := id hX
  have hown : s.vm.findClass "HoldBook$Payment" = some m.cls := hown
  have hts := hE.ts hG ([.ref p0, .int n] : List Value).toArray
  have hK := hE.kn hG
  have hl : lv_has ls 2 [(0, .ref p0), (1, .int n)] := hl
  refine lv_aload_n hx hb d_Pay_passTo_0 rfl (lv_at hl 0 rfl) ?_
  refine hb_get hx hb hts hown hC_Pay hK hP hp 2 (by decide) rfl fl_Pay_11 rfl d_Pay_passTo_1 ?_
  refine lv_iconst (v := 1) hx hb d_Pay_passTo_4 (by decide) ?_
  refine lv_icmp_ne (tgt := 24) hx hb d_Pay_passTo_5 (by decide) (fun c1 => ?_) (fun c1 => ?_)
  · skip
    have g1 : ¬ (ps = 1 ∧ pu ≤ n) := fun h => c1 h.1
    refine lv_aload_n hx hb d_Pay_passTo_24 rfl (lv_at hl 0 rfl) ?_
    refine hb_callV (rest := []) hX hts hb_gd Y_Pay_isDisputeOpen (c_Pay_isDisputeOpen hE M p0 a pk ps pu pn pd pt ph pc pa hp) ml_Pay_57 im_Pay_isDisputeOpen se_Pay_isDisputeOpen hK hp hC_Pay.1 hz hP hD hS hA rfl hl.1 rfl (Nat.le_of_ble_eq_true rfl) ⟨Nat.le_of_ble_eq_true rfl, Nat.le_of_ble_eq_true rfl⟩ ⟨Nat.le_of_ble_eq_true rfl, Nat.le_of_ble_eq_true rfl⟩ d_Pay_passTo_25 (fun v4 M2 H locs hq3 hP hD hS _ hkp => ?_)
    obtain ⟨ev5, eM6⟩ := hq3
    subst ev5
    rw [eM6] at hP hD
    refine W.eq (g2 := F0 m 28 ls [.int (if pd = 1 ∨ pd = 2 then 1 else 0)]) rfl ?_
    refine lv_if_eq (tgt := 56) hx hb d_Pay_passTo_28 (by decide) (fun c7 => ?_) (fun c7 => ?_)
    · skip
      have g2 : ¬ ((pd = 1 ∨ pd = 2) ∧ pt < n) := fun h => by rw [if_pos h.1] at c7; exact absurd c7 (by decide)
      exact hb_vret hAe hx hb hr hlocks hP hD hS (Nat.le_of_ble_eq_true rfl) (Nat.le_of_ble_eq_true rfl) (⟨rfl, by have h9 := ha; simp only [if_neg g1, if_neg g2] at h9 ⊢; exact h9, by have h9 := hp; simp only [if_neg g1, if_neg g2] at h9 ⊢; exact h9, hb_off.rf⟩) d_Pay_passTo_56
    · skip
      have g3 : pd = 1 ∨ pd = 2 := Classical.byContradiction (fun z => by rw [if_neg z] at c7; exact c7 rfl)
      refine lv_aload_n hx hb d_Pay_passTo_31 rfl (lv_at hl 0 rfl) ?_
      refine hb_get hx hb hts hown hC_Pay hK hP hp 9 (by decide) rfl fl_Pay_34 rfl d_Pay_passTo_32 ?_
      refine lv_iload_n hx hb d_Pay_passTo_35 rfl (lv_at hl 1 rfl) ?_
      refine lv_icmp_ge (tgt := 56) hx hb d_Pay_passTo_36 (by decide) (fun c8 => ?_) (fun c8 => ?_)
      · skip
        have c8n := hb_ngti c8
        have g2 : ¬ ((pd = 1 ∨ pd = 2) ∧ pt < n) := fun h => c8n h.2
        exact hb_vret hAe hx hb hr hlocks hP hD hS (Nat.le_of_ble_eq_true rfl) (Nat.le_of_ble_eq_true rfl) (⟨rfl, by have h9 := ha; simp only [if_neg g1, if_neg g2] at h9 ⊢; exact h9, by have h9 := hp; simp only [if_neg g1, if_neg g2] at h9 ⊢; exact h9, hb_off.rf⟩) d_Pay_passTo_56
      · skip
        have c8n := hb_gti c8
        have g2 : (pd = 1 ∨ pd = 2) ∧ pt < n := ⟨g3, c8n⟩
        refine lv_aload_n hx hb d_Pay_passTo_39 rfl (lv_at hl 0 rfl) ?_
        refine lv_aload_n hx hb d_Pay_passTo_40 rfl (lv_at hl 0 rfl) ?_
        refine hb_get hx hb hts hown hC_Pay hK hP hp 7 (by decide) rfl fl_Pay_28 rfl d_Pay_passTo_41 ?_
        refine lv_iconst (v := 1) hx hb d_Pay_passTo_44 (by decide) ?_
        refine lv_icmp_ne (tgt := 52) hx hb d_Pay_passTo_45 (by decide) (fun c9 => ?_) (fun c9 => ?_)
        · skip
          refine lv_iconst (v := 0) hx hb d_Pay_passTo_52 (by decide) ?_
          refine hb_callV (rest := []) hX hts hb_gd Y_Pay_endDispute (c_Pay_endDispute hE M p0 a an am af ab ah al pk ps pu pn pd pt ph pc pa ha hp 0) ml_Pay_65 im_Pay_endDispute se_Pay_endDispute hK hp hC_Pay.1 hz hP hD hS hA rfl hl.1 rfl (Nat.le_of_ble_eq_true rfl) ⟨Nat.le_of_ble_eq_true rfl, Nat.le_of_ble_eq_true rfl⟩ ⟨Nat.le_of_ble_eq_true rfl, Nat.le_of_ble_eq_true rfl⟩ d_Pay_passTo_53 (fun v12 M10 H locs hq11 hP hD hS _ hkp => ?_)
          obtain ⟨ev16, f13, f14, ho15⟩ := hq11
          subst ev16
          refine W.eq (g2 := F0 m 56 ls []) rfl ?_
          exact hb_vret hAe hx hb hr hlocks hP hD hS (Nat.le_of_ble_eq_true rfl) (Nat.le_of_ble_eq_true rfl) (⟨rfl, by have h9 := f13; simp only [if_neg g1, if_pos g2, if_neg c9, if_pos (rfl : (0 : Int32) = 0)] at h9 ⊢; exact h9, by have h9 := f14; simp only [if_neg g1, if_pos g2, if_neg c9, if_pos (rfl : (0 : Int32) = 0)] at h9 ⊢; exact h9, (hb_off.rf.tr ho15 (by simp))⟩) d_Pay_passTo_56
        · skip
          refine lv_iconst (v := 1) hx hb d_Pay_passTo_48 (by decide) ?_
          refine lv_goto (tgt := 53) hx hb d_Pay_passTo_49 (by decide) ?_
          refine hb_callV (rest := []) hX hts hb_gd Y_Pay_endDispute (c_Pay_endDispute hE M p0 a an am af ab ah al pk ps pu pn pd pt ph pc pa ha hp 1) ml_Pay_65 im_Pay_endDispute se_Pay_endDispute hK hp hC_Pay.1 hz hP hD hS hA rfl hl.1 rfl (Nat.le_of_ble_eq_true rfl) ⟨Nat.le_of_ble_eq_true rfl, Nat.le_of_ble_eq_true rfl⟩ ⟨Nat.le_of_ble_eq_true rfl, Nat.le_of_ble_eq_true rfl⟩ d_Pay_passTo_53 (fun v19 M17 H locs hq18 hP hD hS _ hkp => ?_)
          obtain ⟨ev23, f20, f21, ho22⟩ := hq18
          subst ev23
          refine W.eq (g2 := F0 m 56 ls []) rfl ?_
          exact hb_vret hAe hx hb hr hlocks hP hD hS (Nat.le_of_ble_eq_true rfl) (Nat.le_of_ble_eq_true rfl) (⟨rfl, by have h9 := f20; simp only [if_neg g1, if_pos g2, if_pos c9, if_neg (by decide : ¬ (1 : Int32) = 0)] at h9 ⊢; exact h9, by have h9 := f21; simp only [if_neg g1, if_pos g2, if_pos c9, if_neg (by decide : ¬ (1 : Int32) = 0)] at h9 ⊢; exact h9, (hb_off.rf.tr ho22 (by simp))⟩) d_Pay_passTo_56
  · skip
    have g0 := c1
    refine lv_aload_n hx hb d_Pay_passTo_8 rfl (lv_at hl 0 rfl) ?_
    refine hb_get hx hb hts hown hC_Pay hK hP hp 5 (by decide) rfl fl_Pay_22 rfl d_Pay_passTo_9 ?_
    refine lv_iload_n hx hb d_Pay_passTo_12 rfl (lv_at hl 1 rfl) ?_
    refine lv_icmp_gt (tgt := 24) hx hb d_Pay_passTo_13 (by decide) (fun c24 => ?_) (fun c24 => ?_)
    · skip
      have g1 : ¬ (ps = 1 ∧ pu ≤ n) := fun h => hb_ngti h.2 c24
      refine lv_aload_n hx hb d_Pay_passTo_24 rfl (lv_at hl 0 rfl) ?_
      refine hb_callV (rest := []) hX hts hb_gd Y_Pay_isDisputeOpen (c_Pay_isDisputeOpen hE M p0 a pk ps pu pn pd pt ph pc pa hp) ml_Pay_57 im_Pay_isDisputeOpen se_Pay_isDisputeOpen hK hp hC_Pay.1 hz hP hD hS hA rfl hl.1 rfl (Nat.le_of_ble_eq_true rfl) ⟨Nat.le_of_ble_eq_true rfl, Nat.le_of_ble_eq_true rfl⟩ ⟨Nat.le_of_ble_eq_true rfl, Nat.le_of_ble_eq_true rfl⟩ d_Pay_passTo_25 (fun v27 M25 H locs hq26 hP hD hS _ hkp => ?_)
      obtain ⟨ev28, eM29⟩ := hq26
      subst ev28
      rw [eM29] at hP hD
      refine W.eq (g2 := F0 m 28 ls [.int (if pd = 1 ∨ pd = 2 then 1 else 0)]) rfl ?_
      refine lv_if_eq (tgt := 56) hx hb d_Pay_passTo_28 (by decide) (fun c30 => ?_) (fun c30 => ?_)
      · skip
        have g2 : ¬ ((pd = 1 ∨ pd = 2) ∧ pt < n) := fun h => by rw [if_pos h.1] at c30; exact absurd c30 (by decide)
        exact hb_vret hAe hx hb hr hlocks hP hD hS (Nat.le_of_ble_eq_true rfl) (Nat.le_of_ble_eq_true rfl) (⟨rfl, by have h9 := ha; simp only [if_neg g1, if_neg g2] at h9 ⊢; exact h9, by have h9 := hp; simp only [if_neg g1, if_neg g2] at h9 ⊢; exact h9, hb_off.rf⟩) d_Pay_passTo_56
      · skip
        have g3 : pd = 1 ∨ pd = 2 := Classical.byContradiction (fun z => by rw [if_neg z] at c30; exact c30 rfl)
        refine lv_aload_n hx hb d_Pay_passTo_31 rfl (lv_at hl 0 rfl) ?_
        refine hb_get hx hb hts hown hC_Pay hK hP hp 9 (by decide) rfl fl_Pay_34 rfl d_Pay_passTo_32 ?_
        refine lv_iload_n hx hb d_Pay_passTo_35 rfl (lv_at hl 1 rfl) ?_
        refine lv_icmp_ge (tgt := 56) hx hb d_Pay_passTo_36 (by decide) (fun c31 => ?_) (fun c31 => ?_)
        · skip
          have c31n := hb_ngti c31
          have g2 : ¬ ((pd = 1 ∨ pd = 2) ∧ pt < n) := fun h => c31n h.2
          exact hb_vret hAe hx hb hr hlocks hP hD hS (Nat.le_of_ble_eq_true rfl) (Nat.le_of_ble_eq_true rfl) (⟨rfl, by have h9 := ha; simp only [if_neg g1, if_neg g2] at h9 ⊢; exact h9, by have h9 := hp; simp only [if_neg g1, if_neg g2] at h9 ⊢; exact h9, hb_off.rf⟩) d_Pay_passTo_56
        · skip
          have c31n := hb_gti c31
          have g2 : (pd = 1 ∨ pd = 2) ∧ pt < n := ⟨g3, c31n⟩
          refine lv_aload_n hx hb d_Pay_passTo_39 rfl (lv_at hl 0 rfl) ?_
          refine lv_aload_n hx hb d_Pay_passTo_40 rfl (lv_at hl 0 rfl) ?_
          refine hb_get hx hb hts hown hC_Pay hK hP hp 7 (by decide) rfl fl_Pay_28 rfl d_Pay_passTo_41 ?_
          refine lv_iconst (v := 1) hx hb d_Pay_passTo_44 (by decide) ?_
          refine lv_icmp_ne (tgt := 52) hx hb d_Pay_passTo_45 (by decide) (fun c32 => ?_) (fun c32 => ?_)
          · skip
            refine lv_iconst (v := 0) hx hb d_Pay_passTo_52 (by decide) ?_
            refine hb_callV (rest := []) hX hts hb_gd Y_Pay_endDispute (c_Pay_endDispute hE M p0 a an am af ab ah al pk ps pu pn pd pt ph pc pa ha hp 0) ml_Pay_65 im_Pay_endDispute se_Pay_endDispute hK hp hC_Pay.1 hz hP hD hS hA rfl hl.1 rfl (Nat.le_of_ble_eq_true rfl) ⟨Nat.le_of_ble_eq_true rfl, Nat.le_of_ble_eq_true rfl⟩ ⟨Nat.le_of_ble_eq_true rfl, Nat.le_of_ble_eq_true rfl⟩ d_Pay_passTo_53 (fun v35 M33 H locs hq34 hP hD hS _ hkp => ?_)
            obtain ⟨ev39, f36, f37, ho38⟩ := hq34
            subst ev39
            refine W.eq (g2 := F0 m 56 ls []) rfl ?_
            exact hb_vret hAe hx hb hr hlocks hP hD hS (Nat.le_of_ble_eq_true rfl) (Nat.le_of_ble_eq_true rfl) (⟨rfl, by have h9 := f36; simp only [if_neg g1, if_pos g2, if_neg c32, if_pos (rfl : (0 : Int32) = 0)] at h9 ⊢; exact h9, by have h9 := f37; simp only [if_neg g1, if_pos g2, if_neg c32, if_pos (rfl : (0 : Int32) = 0)] at h9 ⊢; exact h9, (hb_off.rf.tr ho38 (by simp))⟩) d_Pay_passTo_56
          · skip
            refine lv_iconst (v := 1) hx hb d_Pay_passTo_48 (by decide) ?_
            refine lv_goto (tgt := 53) hx hb d_Pay_passTo_49 (by decide) ?_
            refine hb_callV (rest := []) hX hts hb_gd Y_Pay_endDispute (c_Pay_endDispute hE M p0 a an am af ab ah al pk ps pu pn pd pt ph pc pa ha hp 1) ml_Pay_65 im_Pay_endDispute se_Pay_endDispute hK hp hC_Pay.1 hz hP hD hS hA rfl hl.1 rfl (Nat.le_of_ble_eq_true rfl) ⟨Nat.le_of_ble_eq_true rfl, Nat.le_of_ble_eq_true rfl⟩ ⟨Nat.le_of_ble_eq_true rfl, Nat.le_of_ble_eq_true rfl⟩ d_Pay_passTo_53 (fun v42 M40 H locs hq41 hP hD hS _ hkp => ?_)
            obtain ⟨ev46, f43, f44, ho45⟩ := hq41
            subst ev46
            refine W.eq (g2 := F0 m 56 ls []) rfl ?_
            exact hb_vret hAe hx hb hr hlocks hP hD hS (Nat.le_of_ble_eq_true rfl) (Nat.le_of_ble_eq_true rfl) (⟨rfl, by have h9 := f43; simp only [if_neg g1, if_pos g2, if_pos c32, if_neg (by decide : ¬ (1 : Int32) = 0)] at h9 ⊢; exact h9, by have h9 := f44; simp only [if_neg g1, if_pos g2, if_pos c32, if_neg (by decide : ¬ (1 : Int32) = 0)] at h9 ⊢; exact h9, (hb_off.rf.tr ho45 (by simp))⟩) d_Pay_passTo_56
    · skip
      have g1 : ps = 1 ∧ pu ≤ n := ⟨g0, hb_le c24⟩
      refine lv_aload_n hx hb d_Pay_passTo_16 rfl (lv_at hl 0 rfl) ?_
      refine lv_aload_n hx hb d_Pay_passTo_17 rfl (lv_at hl 0 rfl) ?_
      refine hb_get hx hb hts hown hC_Pay hK hP hp 5 (by decide) rfl fl_Pay_22 rfl d_Pay_passTo_18 ?_
      refine hb_callV (rest := []) hX hts hb_gd Y_Pay_endHold (c_Pay_endHold hE M p0 a an am af ab ah al pk ps pu pn pd pt ph pc pa ha hp pu) ml_Pay_61 im_Pay_endHold se_Pay_endHold hK hp hC_Pay.1 hz hP hD hS hA rfl hl.1 rfl (Nat.le_of_ble_eq_true rfl) ⟨Nat.le_of_ble_eq_true rfl, Nat.le_of_ble_eq_true rfl⟩ ⟨Nat.le_of_ble_eq_true rfl, Nat.le_of_ble_eq_true rfl⟩ d_Pay_passTo_21 (fun v49 M47 H locs hq48 hP hD hS _ hkp => ?_)
      obtain ⟨ev53, f50, f51, ho52⟩ := hq48
      subst ev53
      refine W.eq (g2 := F0 m 24 ls []) rfl ?_
      refine lv_aload_n hx hb d_Pay_passTo_24 rfl (lv_at hl 0 rfl) ?_
      refine hb_callV (rest := []) hX hts hb_gd Y_Pay_isDisputeOpen (c_Pay_isDisputeOpen hE M47 p0 a pk (if 0 < pc then 3 else 2) 0 (if 0 < pc then pu else pn) pd pt 0 pc pa f51) ml_Pay_57 im_Pay_isDisputeOpen se_Pay_isDisputeOpen hK f51 hC_Pay.1 hz hP hD hS hA rfl hl.1 rfl (Nat.le_of_ble_eq_true rfl) ⟨Nat.le_of_ble_eq_true rfl, Nat.le_of_ble_eq_true rfl⟩ ⟨Nat.le_of_ble_eq_true rfl, Nat.le_of_ble_eq_true rfl⟩ d_Pay_passTo_25 (fun v56 M54 H locs hq55 hP hD hS _ hkp => ?_)
      obtain ⟨ev57, eM58⟩ := hq55
      subst ev57
      rw [eM58] at hP hD
      refine W.eq (g2 := F0 m 28 ls [.int (if pd = 1 ∨ pd = 2 then 1 else 0)]) rfl ?_
      refine lv_if_eq (tgt := 56) hx hb d_Pay_passTo_28 (by decide) (fun c59 => ?_) (fun c59 => ?_)
      · skip
        have g2 : ¬ ((pd = 1 ∨ pd = 2) ∧ pt < n) := fun h => by rw [if_pos h.1] at c59; exact absurd c59 (by decide)
        exact hb_vret hAe hx hb hr hlocks hP hD hS (Nat.le_of_ble_eq_true rfl) (Nat.le_of_ble_eq_true rfl) (⟨rfl, by have h9 := f50; simp only [if_pos g1, if_neg g2] at h9 ⊢; exact h9, by have h9 := f51; simp only [if_pos g1, if_neg g2] at h9 ⊢; exact h9, (hb_off.rf.tr ho52 (by simp))⟩) d_Pay_passTo_56
      · skip
        have g3 : pd = 1 ∨ pd = 2 := Classical.byContradiction (fun z => by rw [if_neg z] at c59; exact c59 rfl)
        refine lv_aload_n hx hb d_Pay_passTo_31 rfl (lv_at hl 0 rfl) ?_
        refine hb_get hx hb hts hown hC_Pay hK hP f51 9 (by decide) rfl fl_Pay_34 rfl d_Pay_passTo_32 ?_
        refine lv_iload_n hx hb d_Pay_passTo_35 rfl (lv_at hl 1 rfl) ?_
        refine lv_icmp_ge (tgt := 56) hx hb d_Pay_passTo_36 (by decide) (fun c60 => ?_) (fun c60 => ?_)
        · skip
          have c60n := hb_ngti c60
          have g2 : ¬ ((pd = 1 ∨ pd = 2) ∧ pt < n) := fun h => c60n h.2
          exact hb_vret hAe hx hb hr hlocks hP hD hS (Nat.le_of_ble_eq_true rfl) (Nat.le_of_ble_eq_true rfl) (⟨rfl, by have h9 := f50; simp only [if_pos g1, if_neg g2] at h9 ⊢; exact h9, by have h9 := f51; simp only [if_pos g1, if_neg g2] at h9 ⊢; exact h9, (hb_off.rf.tr ho52 (by simp))⟩) d_Pay_passTo_56
        · skip
          have c60n := hb_gti c60
          have g2 : (pd = 1 ∨ pd = 2) ∧ pt < n := ⟨g3, c60n⟩
          refine lv_aload_n hx hb d_Pay_passTo_39 rfl (lv_at hl 0 rfl) ?_
          refine lv_aload_n hx hb d_Pay_passTo_40 rfl (lv_at hl 0 rfl) ?_
          refine hb_get hx hb hts hown hC_Pay hK hP f51 7 (by decide) rfl fl_Pay_28 rfl d_Pay_passTo_41 ?_
          refine lv_iconst (v := 1) hx hb d_Pay_passTo_44 (by decide) ?_
          refine lv_icmp_ne (tgt := 52) hx hb d_Pay_passTo_45 (by decide) (fun c61 => ?_) (fun c61 => ?_)
          · skip
            refine lv_iconst (v := 0) hx hb d_Pay_passTo_52 (by decide) ?_
            refine hb_callV (rest := []) hX hts hb_gd Y_Pay_endDispute (c_Pay_endDispute hE M47 p0 a an am af ab (ah + (0 - ph)) al pk (if 0 < pc then 3 else 2) 0 (if 0 < pc then pu else pn) pd pt 0 pc pa f50 f51 0) ml_Pay_65 im_Pay_endDispute se_Pay_endDispute hK f51 hC_Pay.1 hz hP hD hS hA rfl hl.1 rfl (Nat.le_of_ble_eq_true rfl) ⟨Nat.le_of_ble_eq_true rfl, Nat.le_of_ble_eq_true rfl⟩ ⟨Nat.le_of_ble_eq_true rfl, Nat.le_of_ble_eq_true rfl⟩ d_Pay_passTo_53 (fun v64 M62 H locs hq63 hP hD hS _ hkp => ?_)
            obtain ⟨ev68, f65, f66, ho67⟩ := hq63
            subst ev68
            refine W.eq (g2 := F0 m 56 ls []) rfl ?_
            exact hb_vret hAe hx hb hr hlocks hP hD hS (Nat.le_of_ble_eq_true rfl) (Nat.le_of_ble_eq_true rfl) (⟨rfl, by have h9 := f65; simp only [if_pos g1, if_pos g2, if_neg c61, if_pos (rfl : (0 : Int32) = 0)] at h9 ⊢; exact h9, by have h9 := f66; simp only [if_pos g1, if_pos g2, if_neg c61, if_pos (rfl : (0 : Int32) = 0)] at h9 ⊢; exact h9, ((hb_off.rf.tr ho52 (by simp)).tr ho67 (by simp))⟩) d_Pay_passTo_56
          · skip
            refine lv_iconst (v := 1) hx hb d_Pay_passTo_48 (by decide) ?_
            refine lv_goto (tgt := 53) hx hb d_Pay_passTo_49 (by decide) ?_
            refine hb_callV (rest := []) hX hts hb_gd Y_Pay_endDispute (c_Pay_endDispute hE M47 p0 a an am af ab (ah + (0 - ph)) al pk (if 0 < pc then 3 else 2) 0 (if 0 < pc then pu else pn) pd pt 0 pc pa f50 f51 1) ml_Pay_65 im_Pay_endDispute se_Pay_endDispute hK f51 hC_Pay.1 hz hP hD hS hA rfl hl.1 rfl (Nat.le_of_ble_eq_true rfl) ⟨Nat.le_of_ble_eq_true rfl, Nat.le_of_ble_eq_true rfl⟩ ⟨Nat.le_of_ble_eq_true rfl, Nat.le_of_ble_eq_true rfl⟩ d_Pay_passTo_53 (fun v71 M69 H locs hq70 hP hD hS _ hkp => ?_)
            obtain ⟨ev75, f72, f73, ho74⟩ := hq70
            subst ev75
            refine W.eq (g2 := F0 m 56 ls []) rfl ?_
            exact hb_vret hAe hx hb hr hlocks hP hD hS (Nat.le_of_ble_eq_true rfl) (Nat.le_of_ble_eq_true rfl) (⟨rfl, by have h9 := f72; simp only [if_pos g1, if_pos g2, if_pos c61, if_neg (by decide : ¬ (1 : Int32) = 0)] at h9 ⊢; exact h9, by have h9 := f73; simp only [if_pos g1, if_pos g2, if_pos c61, if_neg (by decide : ¬ (1 : Int32) = 0)] at h9 ⊢; exact h9, ((hb_off.rf.tr ho52 (by simp)).tr ho74 (by simp))⟩) d_Pay_passTo_56
