/-! HOLDBOOK: charge, undo, enter, ask, account -/
theorem hb_e0 {l : Launch} {s0 : State} {D : va_G} {cI cJ cO : ClassId} {e0 mi : Nat} {A : Nat → Prop} {M : hb_M} (hE : hb_E l s0 D cI cJ cO e0 mi) (hz : hb_Z s0 A) (hD : hb_D A M) : M e0 = none := by
  cases h : M e0 with
  | none => rfl
  | some z => exact absurd (hz _ (hD e0 z h)) (Nat.not_le.mpr hE.e0lt)
set_option maxHeartbeats 4000000 in
set_option maxRecDepth 100000 in
theorem c_Hb_charge_no {l : Launch} {s0 : State} {D : va_G} {cI cJ cO : ClassId} {e0 mi : Nat} (hE : hb_E l s0 D cI cJ cO e0 mi) (M : hb_M) (x la lp nb ra rp : Nat) (ho pa tm : Int32) (Ac : List (Nat × hbA)) (Py : List (Nat × hbY)) (h : cR cO e0 M x la lp nb ra rp ho pa tm Ac Py) (hk : cOK Ac Py) (k : Int32) (hno : ∀ (i q : Nat) (r : hbY), Py[i]? = some (q, r) → r.1 ≠ k) (hkk : ¬ k < 0 ∧ ¬ 1000000 < k) (am : Int64) (hm : ¬ am < 1) : hb_Met l D hb_cl s0 y_Hb_charge b_Hb_charge 5 (some .int) { frames := 5, cells := 0, slots := 0, locals := 109 } [.ref x, .int k, .long am] M (fun v M1 => v = some (.int (-6)) ∧ M1 = M) := by
  refine hb_Met.of (by decide) (Nat.le_of_ble_eq_true rfl) ?_
  intro p e s m below meth c A hAe hX hz hP hD hA hS ls hl
  obtain ⟨hx, hb, hr, hml, hown, hlocks, hnm, hG, hnh⟩ := id hX
  have hown : s.vm.findClass "HoldBook" = some m.cls := hown
  have hts := hE.ts hG ([.ref x, .int k, .long am] : List Value).toArray
  have hK := hE.kn hG
  have hl : lv_has ls 5 [(0, .ref x), (1, .int k), (2, .long am)] := hl
  have fx := h.1
  obtain ⟨mda, fla⟩ := h.fla
  obtain ⟨mdp, flp⟩ := h.flp
  have hlA := hk.1
  have hlP := hk.2.1
  refine lv_iload_n hx hb d_Hb_charge_0 rfl (lv_at hl 1 rfl) ?_
  refine hb_callS (rest := []) hX hts hb_gd Y_Hb_checkKey (c_Hb_checkKey_ok hE M k hkk) ml_Hb_68 st_Hb_checkKey hz hP hD hS hA rfl hl.1 rfl (Nat.le_of_ble_eq_true rfl) ⟨Nat.le_of_ble_eq_true rfl, Nat.le_of_ble_eq_true rfl⟩ ⟨Nat.le_of_ble_eq_true rfl, Nat.le_of_ble_eq_true rfl⟩ d_Hb_charge_1 (fun v3 M1 H locs hq2 hP hD hS _ hkp => ?_)
  obtain ⟨ev4, eM5⟩ := hq2
  subst ev4
  rw [eM5] at hP hD
  refine W.eq (g2 := F0 m 4 ls []) rfl ?_
  refine lv_lload_n hx hb d_Hb_charge_4 rfl (lv_at hl 2 rfl) ?_
  refine lv_lconst (v := 1) hx hb d_Hb_charge_5 (by decide) ?_
  refine hb_lc_ge (tgt := 20) hx hb d_Hb_charge_6 d_Hb_charge_7 (by decide) (fun c6 => ?_) (fun c6 => ?_)
  · skip
    have c6n := hb_ngt c6
    refine lv_aload_n hx hb d_Hb_charge_20 rfl (lv_at hl 0 rfl) ?_
    refine lv_iload_n hx hb d_Hb_charge_21 rfl (lv_at hl 1 rfl) ?_
    refine hb_callV (rest := []) hX hts hb_gd Y_Hb_find (c_Hb_find_no hE M x la lp nb ra rp ho pa tm Ac Py h hk k hno) ml_Hb_79 im_Hb_find se_Hb_find hK fx hC_Hb.1 hz hP hD hS hA rfl hl.1 rfl (Nat.le_of_ble_eq_true rfl) ⟨Nat.le_of_ble_eq_true rfl, Nat.le_of_ble_eq_true rfl⟩ ⟨Nat.le_of_ble_eq_true rfl, Nat.le_of_ble_eq_true rfl⟩ d_Hb_charge_22 (fun v9 M7 H locs hq8 hP hD hS _ hkp => ?_)
    obtain ⟨ev10, eM11⟩ := hq8
    subst ev10
    rw [eM11] at hP hD
    refine W.eq (g2 := F0 m 25 ls [.null]) rfl ?_
    refine lv_astoreN (lv' := [(4, .null), (0, .ref x), (1, .int k), (2, .long am)]) hx hb d_Hb_charge_25 hl (by decide) rfl (fun ls hl => ?_)
    refine lv_aloadN hx hb d_Hb_charge_27 (lv_at hl 0 rfl) ?_
    refine lv_ifnonnullN hx hb d_Hb_charge_29 ?_
    refine lv_bipush (v := (-6)) hx hb d_Hb_charge_32 (by decide) ?_
    exact hb_iret hAe hx hb hr hlocks hP hD hS (Nat.le_of_ble_eq_true rfl) (Nat.le_of_ble_eq_true rfl) (⟨rfl, rfl⟩) d_Hb_charge_34
  · skip
    have c6n := hb_gt c6
    exact absurd (hb_gt c6) hm
set_option maxHeartbeats 4000000 in
set_option maxRecDepth 100000 in
theorem c_Hb_charge_st {l : Launch} {s0 : State} {D : va_G} {cI cJ cO : ClassId} {e0 mi : Nat} (hE : hb_E l s0 D cI cJ cO e0 mi) (M : hb_M) (x la lp nb ra rp : Nat) (ho pa tm : Int32) (Ac : List (Nat × hbA)) (Py : List (Nat × hbY)) (h : cR cO e0 M x la lp nb ra rp ho pa tm Ac Py) (hk : cOK Ac Py) (i q : Nat) (r : hbY) (hi : Py[i]? = some (q, r)) (a : Nat) (an : Int32) (ak : hbA) (hac : hb_acc nb Ac r.2.1 = a) (fa : M a = some (aE an ak)) (hkk : ¬ r.1 < 0 ∧ ¬ 1000000 < r.1) (am : Int64) (hm : ¬ am < 1) (hs : r.2.2.1 ≠ 3 ∨ r.2.2.2.2.2.2.2.1 ≠ 0) : hb_Met l D hb_cl s0 y_Hb_charge b_Hb_charge 5 (some .int) { frames := 5, cells := 0, slots := 0, locals := 109 } [.ref x, .int r.1, .long am] M (fun v M1 => v = some (.int (-9)) ∧ M1 = M) := by
  refine hb_Met.of (by decide) (Nat.le_of_ble_eq_true rfl) ?_
  intro p e s m below meth c A hAe hX hz hP hD hA hS ls hl
  obtain ⟨hx, hb, hr, hml, hown, hlocks, hnm, hG, hnh⟩ := id hX
  have hown : s.vm.findClass "HoldBook" = some m.cls := hown
  have hts := hE.ts hG ([.ref x, .int r.1, .long am] : List Value).toArray
  have hK := hE.kn hG
  have hl : lv_has ls 5 [(0, .ref x), (1, .int r.1), (2, .long am)] := hl
  have fx := h.1
  obtain ⟨mda, fla⟩ := h.fla
  obtain ⟨mdp, flp⟩ := h.flp
  have hlA := hk.1
  have hlP := hk.2.1
  have fq : M q = some (pE a r) := by have h9 := h.py hi; rw [hac] at h9; exact h9
  refine lv_iload_n hx hb d_Hb_charge_0 rfl (lv_at hl 1 rfl) ?_
  refine hb_callS (rest := []) hX hts hb_gd Y_Hb_checkKey (c_Hb_checkKey_ok hE M r.1 hkk) ml_Hb_68 st_Hb_checkKey hz hP hD hS hA rfl hl.1 rfl (Nat.le_of_ble_eq_true rfl) ⟨Nat.le_of_ble_eq_true rfl, Nat.le_of_ble_eq_true rfl⟩ ⟨Nat.le_of_ble_eq_true rfl, Nat.le_of_ble_eq_true rfl⟩ d_Hb_charge_1 (fun v3 M1 H locs hq2 hP hD hS _ hkp => ?_)
  obtain ⟨ev4, eM5⟩ := hq2
  subst ev4
  rw [eM5] at hP hD
  refine W.eq (g2 := F0 m 4 ls []) rfl ?_
  refine lv_lload_n hx hb d_Hb_charge_4 rfl (lv_at hl 2 rfl) ?_
  refine lv_lconst (v := 1) hx hb d_Hb_charge_5 (by decide) ?_
  refine hb_lc_ge (tgt := 20) hx hb d_Hb_charge_6 d_Hb_charge_7 (by decide) (fun c6 => ?_) (fun c6 => ?_)
  · skip
    have c6n := hb_ngt c6
    refine lv_aload_n hx hb d_Hb_charge_20 rfl (lv_at hl 0 rfl) ?_
    refine lv_iload_n hx hb d_Hb_charge_21 rfl (lv_at hl 1 rfl) ?_
    refine hb_callV (rest := []) hX hts hb_gd Y_Hb_find (c_Hb_find_at hE M x la lp nb ra rp ho pa tm Ac Py h hk i q r hi) ml_Hb_79 im_Hb_find se_Hb_find hK fx hC_Hb.1 hz hP hD hS hA rfl hl.1 rfl (Nat.le_of_ble_eq_true rfl) ⟨Nat.le_of_ble_eq_true rfl, Nat.le_of_ble_eq_true rfl⟩ ⟨Nat.le_of_ble_eq_true rfl, Nat.le_of_ble_eq_true rfl⟩ d_Hb_charge_22 (fun v9 M7 H locs hq8 hP hD hS _ hkp => ?_)
    obtain ⟨ev10, eM11⟩ := hq8
    subst ev10
    rw [eM11] at hP hD
    refine W.eq (g2 := F0 m 25 ls [.ref q]) rfl ?_
    refine lv_astore (lv' := [(4, .ref q), (0, .ref x), (1, .int r.1), (2, .long am)]) hx hb d_Hb_charge_25 hl (by decide) rfl (fun ls hl => ?_)
    refine lv_aload hx hb d_Hb_charge_27 (lv_at hl 0 rfl) ?_
    refine lv_ifnonnull (tgt := 35) hx hb d_Hb_charge_29 (by decide) ?_
    refine lv_aload hx hb d_Hb_charge_35 (lv_at hl 0 rfl) ?_
    refine hb_get hx hb hts hown hC_Pay hK hP fq 2 (by decide) rfl fl_Hb_122 rfl d_Hb_charge_37 ?_
    refine lv_iconst (v := 3) hx hb d_Hb_charge_40 (by decide) ?_
    refine lv_icmp_ne (tgt := 52) hx hb d_Hb_charge_41 (by decide) (fun c12 => ?_) (fun c12 => ?_)
    · skip
      refine lv_bipush (v := (-9)) hx hb d_Hb_charge_52 (by decide) ?_
      exact hb_iret hAe hx hb hr hlocks hP hD hS (Nat.le_of_ble_eq_true rfl) (Nat.le_of_ble_eq_true rfl) (⟨rfl, rfl⟩) d_Hb_charge_54
    · skip
      refine lv_aload hx hb d_Hb_charge_44 (lv_at hl 0 rfl) ?_
      refine hb_get hx hb hts hown hC_Pay hK hP fq 7 (by decide) rfl fl_Hb_153 rfl d_Hb_charge_46 ?_
      refine lv_if_eq (tgt := 55) hx hb d_Hb_charge_49 (by decide) (fun c13 => ?_) (fun c13 => ?_)
      · skip
        exact absurd hs (by intro z; rcases z with z | z; exact z (by assumption); exact z c13)
      · skip
        refine lv_bipush (v := (-9)) hx hb d_Hb_charge_52 (by decide) ?_
        exact hb_iret hAe hx hb hr hlocks hP hD hS (Nat.le_of_ble_eq_true rfl) (Nat.le_of_ble_eq_true rfl) (⟨rfl, rfl⟩) d_Hb_charge_54
  · skip
    have c6n := hb_gt c6
    exact absurd (hb_gt c6) hm
set_option maxHeartbeats 4000000 in
set_option maxRecDepth 100000 in
theorem c_Hb_charge_late {l : Launch} {s0 : State} {D : va_G} {cI cJ cO : ClassId} {e0 mi : Nat} (hE : hb_E l s0 D cI cJ cO e0 mi) (M : hb_M) (x la lp nb ra rp : Nat) (ho pa tm : Int32) (Ac : List (Nat × hbA)) (Py : List (Nat × hbY)) (h : cR cO e0 M x la lp nb ra rp ho pa tm Ac Py) (hk : cOK Ac Py) (i q : Nat) (r : hbY) (hi : Py[i]? = some (q, r)) (a : Nat) (an : Int32) (ak : hbA) (hac : hb_acc nb Ac r.2.1 = a) (fa : M a = some (aE an ak)) (hkk : ¬ r.1 < 0 ∧ ¬ 1000000 < r.1) (am : Int64) (hm : ¬ am < 1) (hs : r.2.2.1 = 3) (hd0 : r.2.2.2.2.2.2.2.1 = 0) (hld : (r.2.2.1 = 3 ∧ pa < tm - r.2.2.2.2.2.2.1)) : hb_Met l D hb_cl s0 y_Hb_charge b_Hb_charge 5 (some .int) { frames := 5, cells := 0, slots := 0, locals := 109 } [.ref x, .int r.1, .long am] M (fun v M1 => v = some (.int (-10)) ∧ M1 = M) := by
  refine hb_Met.of (by decide) (Nat.le_of_ble_eq_true rfl) ?_
  intro p e s m below meth c A hAe hX hz hP hD hA hS ls hl
  obtain ⟨hx, hb, hr, hml, hown, hlocks, hnm, hG, hnh⟩ := id hX
  have hown : s.vm.findClass "HoldBook" = some m.cls := hown
  have hts := hE.ts hG ([.ref x, .int r.1, .long am] : List Value).toArray
  have hK := hE.kn hG
  have hl : lv_has ls 5 [(0, .ref x), (1, .int r.1), (2, .long am)] := hl
  have fx := h.1
  obtain ⟨mda, fla⟩ := h.fla
  obtain ⟨mdp, flp⟩ := h.flp
  have hlA := hk.1
  have hlP := hk.2.1
  have fq : M q = some (pE a r) := by have h9 := h.py hi; rw [hac] at h9; exact h9
  refine lv_iload_n hx hb d_Hb_charge_0 rfl (lv_at hl 1 rfl) ?_
  refine hb_callS (rest := []) hX hts hb_gd Y_Hb_checkKey (c_Hb_checkKey_ok hE M r.1 hkk) ml_Hb_68 st_Hb_checkKey hz hP hD hS hA rfl hl.1 rfl (Nat.le_of_ble_eq_true rfl) ⟨Nat.le_of_ble_eq_true rfl, Nat.le_of_ble_eq_true rfl⟩ ⟨Nat.le_of_ble_eq_true rfl, Nat.le_of_ble_eq_true rfl⟩ d_Hb_charge_1 (fun v3 M1 H locs hq2 hP hD hS _ hkp => ?_)
  obtain ⟨ev4, eM5⟩ := hq2
  subst ev4
  rw [eM5] at hP hD
  refine W.eq (g2 := F0 m 4 ls []) rfl ?_
  refine lv_lload_n hx hb d_Hb_charge_4 rfl (lv_at hl 2 rfl) ?_
  refine lv_lconst (v := 1) hx hb d_Hb_charge_5 (by decide) ?_
  refine hb_lc_ge (tgt := 20) hx hb d_Hb_charge_6 d_Hb_charge_7 (by decide) (fun c6 => ?_) (fun c6 => ?_)
  · skip
    have c6n := hb_ngt c6
    refine lv_aload_n hx hb d_Hb_charge_20 rfl (lv_at hl 0 rfl) ?_
    refine lv_iload_n hx hb d_Hb_charge_21 rfl (lv_at hl 1 rfl) ?_
    refine hb_callV (rest := []) hX hts hb_gd Y_Hb_find (c_Hb_find_at hE M x la lp nb ra rp ho pa tm Ac Py h hk i q r hi) ml_Hb_79 im_Hb_find se_Hb_find hK fx hC_Hb.1 hz hP hD hS hA rfl hl.1 rfl (Nat.le_of_ble_eq_true rfl) ⟨Nat.le_of_ble_eq_true rfl, Nat.le_of_ble_eq_true rfl⟩ ⟨Nat.le_of_ble_eq_true rfl, Nat.le_of_ble_eq_true rfl⟩ d_Hb_charge_22 (fun v9 M7 H locs hq8 hP hD hS _ hkp => ?_)
    obtain ⟨ev10, eM11⟩ := hq8
    subst ev10
    rw [eM11] at hP hD
    refine W.eq (g2 := F0 m 25 ls [.ref q]) rfl ?_
    refine lv_astore (lv' := [(4, .ref q), (0, .ref x), (1, .int r.1), (2, .long am)]) hx hb d_Hb_charge_25 hl (by decide) rfl (fun ls hl => ?_)
    refine lv_aload hx hb d_Hb_charge_27 (lv_at hl 0 rfl) ?_
    refine lv_ifnonnull (tgt := 35) hx hb d_Hb_charge_29 (by decide) ?_
    refine lv_aload hx hb d_Hb_charge_35 (lv_at hl 0 rfl) ?_
    refine hb_get hx hb hts hown hC_Pay hK hP fq 2 (by decide) rfl fl_Hb_122 rfl d_Hb_charge_37 ?_
    refine lv_iconst (v := 3) hx hb d_Hb_charge_40 (by decide) ?_
    refine lv_icmp_ne (tgt := 52) hx hb d_Hb_charge_41 (by decide) (fun c12 => ?_) (fun c12 => ?_)
    · skip
      exact absurd hs c12
    · skip
      refine lv_aload hx hb d_Hb_charge_44 (lv_at hl 0 rfl) ?_
      refine hb_get hx hb hts hown hC_Pay hK hP fq 7 (by decide) rfl fl_Hb_153 rfl d_Hb_charge_46 ?_
      refine lv_if_eq (tgt := 55) hx hb d_Hb_charge_49 (by decide) (fun c13 => ?_) (fun c13 => ?_)
      · skip
        refine lv_aload_n hx hb d_Hb_charge_55 rfl (lv_at hl 1 rfl) ?_
        refine lv_aload hx hb d_Hb_charge_56 (lv_at hl 0 rfl) ?_
        refine hb_callV (rest := []) hX hts hb_gd Y_Hb_isLongDone (c_Hb_isLongDone hE M x la lp nb ho pa tm fx q a r fq) ml_Hb_156 im_Hb_isLongDone se_Hb_isLongDone hK fx hC_Hb.1 hz hP hD hS hA rfl hl.1 rfl (Nat.le_of_ble_eq_true rfl) ⟨Nat.le_of_ble_eq_true rfl, Nat.le_of_ble_eq_true rfl⟩ ⟨Nat.le_of_ble_eq_true rfl, Nat.le_of_ble_eq_true rfl⟩ d_Hb_charge_58 (fun v16 M14 H locs hq15 hP hD hS _ hkp => ?_)
        obtain ⟨ev17, eM18⟩ := hq15
        subst ev17
        rw [eM18] at hP hD
        refine W.eq (g2 := F0 m 61 ls [.int (if (r.2.2.1 = 3 ∧ pa < tm - r.2.2.2.2.2.2.1) then 1 else 0)]) rfl ?_
        refine lv_if_eq (tgt := 67) hx hb d_Hb_charge_61 (by decide) (fun c19 => ?_) (fun c19 => ?_)
        · skip
          exact absurd c19 (by rw [if_pos hld]; decide)
        · skip
          refine lv_bipush (v := (-10)) hx hb d_Hb_charge_64 (by decide) ?_
          exact hb_iret hAe hx hb hr hlocks hP hD hS (Nat.le_of_ble_eq_true rfl) (Nat.le_of_ble_eq_true rfl) (⟨rfl, rfl⟩) d_Hb_charge_66
      · skip
        exact absurd hd0 c13
  · skip
    have c6n := hb_gt c6
    exact absurd (hb_gt c6) hm
set_option maxHeartbeats 4000000 in
set_option maxRecDepth 100000 in
theorem c_Hb_charge_mu {l : Launch} {s0 : State} {D : va_G} {cI cJ cO : ClassId} {e0 mi : Nat} (hE : hb_E l s0 D cI cJ cO e0 mi) (M : hb_M) (x la lp nb ra rp : Nat) (ho pa tm : Int32) (Ac : List (Nat × hbA)) (Py : List (Nat × hbY)) (h : cR cO e0 M x la lp nb ra rp ho pa tm Ac Py) (hk : cOK Ac Py) (i q : Nat) (r : hbY) (hi : Py[i]? = some (q, r)) (a : Nat) (an : Int32) (ak : hbA) (hac : hb_acc nb Ac r.2.1 = a) (fa : M a = some (aE an ak)) (hkk : ¬ r.1 < 0 ∧ ¬ 1000000 < r.1) (am : Int64) (hm : ¬ am < 1) (hs : r.2.2.1 = 3) (hd0 : r.2.2.2.2.2.2.2.1 = 0) (hld : ¬ (r.2.2.1 = 3 ∧ pa < tm - r.2.2.2.2.2.2.1)) (hmu : r.2.2.2.2.1 < am) : hb_Met l D hb_cl s0 y_Hb_charge b_Hb_charge 5 (some .int) { frames := 5, cells := 0, slots := 0, locals := 109 } [.ref x, .int r.1, .long am] M (fun v M1 => v = some (.int (-11)) ∧ M1 = M) := by
  refine hb_Met.of (by decide) (Nat.le_of_ble_eq_true rfl) ?_
  intro p e s m below meth c A hAe hX hz hP hD hA hS ls hl
  obtain ⟨hx, hb, hr, hml, hown, hlocks, hnm, hG, hnh⟩ := id hX
  have hown : s.vm.findClass "HoldBook" = some m.cls := hown
  have hts := hE.ts hG ([.ref x, .int r.1, .long am] : List Value).toArray
  have hK := hE.kn hG
  have hl : lv_has ls 5 [(0, .ref x), (1, .int r.1), (2, .long am)] := hl
  have fx := h.1
  obtain ⟨mda, fla⟩ := h.fla
  obtain ⟨mdp, flp⟩ := h.flp
  have hlA := hk.1
  have hlP := hk.2.1
  have fq : M q = some (pE a r) := by have h9 := h.py hi; rw [hac] at h9; exact h9
  refine lv_iload_n hx hb d_Hb_charge_0 rfl (lv_at hl 1 rfl) ?_
  refine hb_callS (rest := []) hX hts hb_gd Y_Hb_checkKey (c_Hb_checkKey_ok hE M r.1 hkk) ml_Hb_68 st_Hb_checkKey hz hP hD hS hA rfl hl.1 rfl (Nat.le_of_ble_eq_true rfl) ⟨Nat.le_of_ble_eq_true rfl, Nat.le_of_ble_eq_true rfl⟩ ⟨Nat.le_of_ble_eq_true rfl, Nat.le_of_ble_eq_true rfl⟩ d_Hb_charge_1 (fun v3 M1 H locs hq2 hP hD hS _ hkp => ?_)
  obtain ⟨ev4, eM5⟩ := hq2
  subst ev4
  rw [eM5] at hP hD
  refine W.eq (g2 := F0 m 4 ls []) rfl ?_
  refine lv_lload_n hx hb d_Hb_charge_4 rfl (lv_at hl 2 rfl) ?_
  refine lv_lconst (v := 1) hx hb d_Hb_charge_5 (by decide) ?_
  refine hb_lc_ge (tgt := 20) hx hb d_Hb_charge_6 d_Hb_charge_7 (by decide) (fun c6 => ?_) (fun c6 => ?_)
  · skip
    have c6n := hb_ngt c6
    refine lv_aload_n hx hb d_Hb_charge_20 rfl (lv_at hl 0 rfl) ?_
    refine lv_iload_n hx hb d_Hb_charge_21 rfl (lv_at hl 1 rfl) ?_
    refine hb_callV (rest := []) hX hts hb_gd Y_Hb_find (c_Hb_find_at hE M x la lp nb ra rp ho pa tm Ac Py h hk i q r hi) ml_Hb_79 im_Hb_find se_Hb_find hK fx hC_Hb.1 hz hP hD hS hA rfl hl.1 rfl (Nat.le_of_ble_eq_true rfl) ⟨Nat.le_of_ble_eq_true rfl, Nat.le_of_ble_eq_true rfl⟩ ⟨Nat.le_of_ble_eq_true rfl, Nat.le_of_ble_eq_true rfl⟩ d_Hb_charge_22 (fun v9 M7 H locs hq8 hP hD hS _ hkp => ?_)
    obtain ⟨ev10, eM11⟩ := hq8
    subst ev10
    rw [eM11] at hP hD
    refine W.eq (g2 := F0 m 25 ls [.ref q]) rfl ?_
    refine lv_astore (lv' := [(4, .ref q), (0, .ref x), (1, .int r.1), (2, .long am)]) hx hb d_Hb_charge_25 hl (by decide) rfl (fun ls hl => ?_)
    refine lv_aload hx hb d_Hb_charge_27 (lv_at hl 0 rfl) ?_
    refine lv_ifnonnull (tgt := 35) hx hb d_Hb_charge_29 (by decide) ?_
    refine lv_aload hx hb d_Hb_charge_35 (lv_at hl 0 rfl) ?_
    refine hb_get hx hb hts hown hC_Pay hK hP fq 2 (by decide) rfl fl_Hb_122 rfl d_Hb_charge_37 ?_
    refine lv_iconst (v := 3) hx hb d_Hb_charge_40 (by decide) ?_
    refine lv_icmp_ne (tgt := 52) hx hb d_Hb_charge_41 (by decide) (fun c12 => ?_) (fun c12 => ?_)
    · skip
      exact absurd hs c12
    · skip
      refine lv_aload hx hb d_Hb_charge_44 (lv_at hl 0 rfl) ?_
      refine hb_get hx hb hts hown hC_Pay hK hP fq 7 (by decide) rfl fl_Hb_153 rfl d_Hb_charge_46 ?_
      refine lv_if_eq (tgt := 55) hx hb d_Hb_charge_49 (by decide) (fun c13 => ?_) (fun c13 => ?_)
      · skip
        refine lv_aload_n hx hb d_Hb_charge_55 rfl (lv_at hl 1 rfl) ?_
        refine lv_aload hx hb d_Hb_charge_56 (lv_at hl 0 rfl) ?_
        refine hb_callV (rest := []) hX hts hb_gd Y_Hb_isLongDone (c_Hb_isLongDone hE M x la lp nb ho pa tm fx q a r fq) ml_Hb_156 im_Hb_isLongDone se_Hb_isLongDone hK fx hC_Hb.1 hz hP hD hS hA rfl hl.1 rfl (Nat.le_of_ble_eq_true rfl) ⟨Nat.le_of_ble_eq_true rfl, Nat.le_of_ble_eq_true rfl⟩ ⟨Nat.le_of_ble_eq_true rfl, Nat.le_of_ble_eq_true rfl⟩ d_Hb_charge_58 (fun v16 M14 H locs hq15 hP hD hS _ hkp => ?_)
        obtain ⟨ev17, eM18⟩ := hq15
        subst ev17
        rw [eM18] at hP hD
        refine W.eq (g2 := F0 m 61 ls [.int (if (r.2.2.1 = 3 ∧ pa < tm - r.2.2.2.2.2.2.1) then 1 else 0)]) rfl ?_
        refine lv_if_eq (tgt := 67) hx hb d_Hb_charge_61 (by decide) (fun c19 => ?_) (fun c19 => ?_)
        · skip
          refine lv_lload_n hx hb d_Hb_charge_67 rfl (lv_at hl 3 rfl) ?_
          refine lv_aload hx hb d_Hb_charge_68 (lv_at hl 0 rfl) ?_
          refine hb_get hx hb hts hown hC_Pay hK hP fq 4 (by decide) rfl fl_Hb_137 rfl d_Hb_charge_70 ?_
          refine hb_lc_le (tgt := 80) hx hb d_Hb_charge_73 d_Hb_charge_74 (by decide) (fun c20 => ?_) (fun c20 => ?_)
          · skip
            have c20n := hb_ngt c20
            exact absurd hmu (hb_ngt c20)
          · skip
            have c20n := hb_gt c20
            refine lv_bipush (v := (-11)) hx hb d_Hb_charge_77 (by decide) ?_
            exact hb_iret hAe hx hb hr hlocks hP hD hS (Nat.le_of_ble_eq_true rfl) (Nat.le_of_ble_eq_true rfl) (⟨rfl, rfl⟩) d_Hb_charge_79
        · skip
          exact absurd (by rw [if_neg hld]) c19
      · skip
        exact absurd hd0 c13
  · skip
    have c6n := hb_gt c6
    exact absurd (hb_gt c6) hm
set_option maxHeartbeats 4000000 in
set_option maxRecDepth 100000 in
theorem c_Hb_charge_ok {l : Launch} {s0 : State} {D : va_G} {cI cJ cO : ClassId} {e0 mi : Nat} (hE : hb_E l s0 D cI cJ cO e0 mi) (M : hb_M) (x la lp nb ra rp : Nat) (ho pa tm : Int32) (Ac : List (Nat × hbA)) (Py : List (Nat × hbY)) (h : cR cO e0 M x la lp nb ra rp ho pa tm Ac Py) (hk : cOK Ac Py) (i q : Nat) (r : hbY) (hi : Py[i]? = some (q, r)) (a : Nat) (an : Int32) (ak : hbA) (hac : hb_acc nb Ac r.2.1 = a) (fa : M a = some (aE an ak)) (hkk : ¬ r.1 < 0 ∧ ¬ 1000000 < r.1) (am : Int64) (hm : ¬ am < 1) (hs : r.2.2.1 = 3) (hd0 : r.2.2.2.2.2.2.2.1 = 0) (hld : ¬ (r.2.2.1 = 3 ∧ pa < tm - r.2.2.2.2.2.2.1)) (hmu : ¬ r.2.2.2.2.1 < am) : hb_Met l D hb_cl s0 y_Hb_charge b_Hb_charge 5 (some .int) { frames := 5, cells := 0, slots := 0, locals := 109 } [.ref x, .int r.1, .long am] M (fun v M1 => v = some (.int 1) ∧ M1 a = some (.inr (0, [.int an, .long ak.1, .long ak.2.1, .long (ak.2.2.1 + am), .long ak.2.2.2.1, .long (ak.2.2.2.2 + am)])) ∧ M1 q = some (.inr (1, [.int r.1, .ref a, .int r.2.2.1, .long r.2.2.2.1, .long r.2.2.2.2.1, .int r.2.2.2.2.2.1, .int r.2.2.2.2.2.2.1, .int 1, .long am, .int (tm + pa)])) ∧ hb_off [a, q] M M1) := by
  refine hb_Met.of (by decide) (Nat.le_of_ble_eq_true rfl) ?_
  intro p e s m below meth c A hAe hX hz hP hD hA hS ls hl
  obtain ⟨hx, hb, hr, hml, hown, hlocks, hnm, hG, hnh⟩ := id hX
  have hown : s.vm.findClass "HoldBook" = some m.cls := hown
  have hts := hE.ts hG ([.ref x, .int r.1, .long am] : List Value).toArray
  have hK := hE.kn hG
  have hl : lv_has ls 5 [(0, .ref x), (1, .int r.1), (2, .long am)] := hl
  have fx := h.1
  obtain ⟨mda, fla⟩ := h.fla
  obtain ⟨mdp, flp⟩ := h.flp
  have hlA := hk.1
  have hlP := hk.2.1
  have fq : M q = some (pE a r) := by have h9 := h.py hi; rw [hac] at h9; exact h9
  refine lv_iload_n hx hb d_Hb_charge_0 rfl (lv_at hl 1 rfl) ?_
  refine hb_callS (rest := []) hX hts hb_gd Y_Hb_checkKey (c_Hb_checkKey_ok hE M r.1 hkk) ml_Hb_68 st_Hb_checkKey hz hP hD hS hA rfl hl.1 rfl (Nat.le_of_ble_eq_true rfl) ⟨Nat.le_of_ble_eq_true rfl, Nat.le_of_ble_eq_true rfl⟩ ⟨Nat.le_of_ble_eq_true rfl, Nat.le_of_ble_eq_true rfl⟩ d_Hb_charge_1 (fun v3 M1 H locs hq2 hP hD hS _ hkp => ?_)
  obtain ⟨ev4, eM5⟩ := hq2
  subst ev4
  rw [eM5] at hP hD
  refine W.eq (g2 := F0 m 4 ls []) rfl ?_
  refine lv_lload_n hx hb d_Hb_charge_4 rfl (lv_at hl 2 rfl) ?_
  refine lv_lconst (v := 1) hx hb d_Hb_charge_5 (by decide) ?_
  refine hb_lc_ge (tgt := 20) hx hb d_Hb_charge_6 d_Hb_charge_7 (by decide) (fun c6 => ?_) (fun c6 => ?_)
  · skip
    have c6n := hb_ngt c6
    refine lv_aload_n hx hb d_Hb_charge_20 rfl (lv_at hl 0 rfl) ?_
    refine lv_iload_n hx hb d_Hb_charge_21 rfl (lv_at hl 1 rfl) ?_
    refine hb_callV (rest := []) hX hts hb_gd Y_Hb_find (c_Hb_find_at hE M x la lp nb ra rp ho pa tm Ac Py h hk i q r hi) ml_Hb_79 im_Hb_find se_Hb_find hK fx hC_Hb.1 hz hP hD hS hA rfl hl.1 rfl (Nat.le_of_ble_eq_true rfl) ⟨Nat.le_of_ble_eq_true rfl, Nat.le_of_ble_eq_true rfl⟩ ⟨Nat.le_of_ble_eq_true rfl, Nat.le_of_ble_eq_true rfl⟩ d_Hb_charge_22 (fun v9 M7 H locs hq8 hP hD hS _ hkp => ?_)
    obtain ⟨ev10, eM11⟩ := hq8
    subst ev10
    rw [eM11] at hP hD
    refine W.eq (g2 := F0 m 25 ls [.ref q]) rfl ?_
    refine lv_astore (lv' := [(4, .ref q), (0, .ref x), (1, .int r.1), (2, .long am)]) hx hb d_Hb_charge_25 hl (by decide) rfl (fun ls hl => ?_)
    refine lv_aload hx hb d_Hb_charge_27 (lv_at hl 0 rfl) ?_
    refine lv_ifnonnull (tgt := 35) hx hb d_Hb_charge_29 (by decide) ?_
    refine lv_aload hx hb d_Hb_charge_35 (lv_at hl 0 rfl) ?_
    refine hb_get hx hb hts hown hC_Pay hK hP fq 2 (by decide) rfl fl_Hb_122 rfl d_Hb_charge_37 ?_
    refine lv_iconst (v := 3) hx hb d_Hb_charge_40 (by decide) ?_
    refine lv_icmp_ne (tgt := 52) hx hb d_Hb_charge_41 (by decide) (fun c12 => ?_) (fun c12 => ?_)
    · skip
      exact absurd hs c12
    · skip
      refine lv_aload hx hb d_Hb_charge_44 (lv_at hl 0 rfl) ?_
      refine hb_get hx hb hts hown hC_Pay hK hP fq 7 (by decide) rfl fl_Hb_153 rfl d_Hb_charge_46 ?_
      refine lv_if_eq (tgt := 55) hx hb d_Hb_charge_49 (by decide) (fun c13 => ?_) (fun c13 => ?_)
      · skip
        refine lv_aload_n hx hb d_Hb_charge_55 rfl (lv_at hl 1 rfl) ?_
        refine lv_aload hx hb d_Hb_charge_56 (lv_at hl 0 rfl) ?_
        refine hb_callV (rest := []) hX hts hb_gd Y_Hb_isLongDone (c_Hb_isLongDone hE M x la lp nb ho pa tm fx q a r fq) ml_Hb_156 im_Hb_isLongDone se_Hb_isLongDone hK fx hC_Hb.1 hz hP hD hS hA rfl hl.1 rfl (Nat.le_of_ble_eq_true rfl) ⟨Nat.le_of_ble_eq_true rfl, Nat.le_of_ble_eq_true rfl⟩ ⟨Nat.le_of_ble_eq_true rfl, Nat.le_of_ble_eq_true rfl⟩ d_Hb_charge_58 (fun v16 M14 H locs hq15 hP hD hS _ hkp => ?_)
        obtain ⟨ev17, eM18⟩ := hq15
        subst ev17
        rw [eM18] at hP hD
        refine W.eq (g2 := F0 m 61 ls [.int (if (r.2.2.1 = 3 ∧ pa < tm - r.2.2.2.2.2.2.1) then 1 else 0)]) rfl ?_
        refine lv_if_eq (tgt := 67) hx hb d_Hb_charge_61 (by decide) (fun c19 => ?_) (fun c19 => ?_)
        · skip
          refine lv_lload_n hx hb d_Hb_charge_67 rfl (lv_at hl 3 rfl) ?_
          refine lv_aload hx hb d_Hb_charge_68 (lv_at hl 0 rfl) ?_
          refine hb_get hx hb hts hown hC_Pay hK hP fq 4 (by decide) rfl fl_Hb_137 rfl d_Hb_charge_70 ?_
          refine hb_lc_le (tgt := 80) hx hb d_Hb_charge_73 d_Hb_charge_74 (by decide) (fun c20 => ?_) (fun c20 => ?_)
          · skip
            have c20n := hb_ngt c20
            refine lv_aload hx hb d_Hb_charge_80 (lv_at hl 0 rfl) ?_
            refine lv_lload_n hx hb d_Hb_charge_82 rfl (lv_at hl 3 rfl) ?_
            refine lv_aload_n hx hb d_Hb_charge_83 rfl (lv_at hl 1 rfl) ?_
            refine hb_get hx hb hts hown hC_Hb hK hP fx 5 (by decide) rfl fl_Hb_28 rfl d_Hb_charge_84 ?_
            refine lv_aload_n hx hb d_Hb_charge_87 rfl (lv_at hl 1 rfl) ?_
            refine hb_get hx hb hts hown hC_Hb hK hP fx 1 (by decide) rfl fl_Hb_39 rfl d_Hb_charge_88 ?_
            refine lv_iadd hx hb d_Hb_charge_91 ?_
            refine hb_callV (rest := []) hX hts hb_gd Y_Pay_openDispute (c_Pay_openDispute hE M q a an ak.1 ak.2.1 ak.2.2.1 ak.2.2.2.1 ak.2.2.2.2 r.1 r.2.2.1 r.2.2.2.2.2.1 r.2.2.2.2.2.2.1 r.2.2.2.2.2.2.2.1 r.2.2.2.2.2.2.2.2.2 r.2.2.2.1 r.2.2.2.2.1 r.2.2.2.2.2.2.2.2.1 fa fq am (tm + pa)) ml_Hb_160 im_Pay_openDispute se_Pay_openDispute hK fq hC_Pay.1 hz hP hD hS hA rfl hl.1 rfl (Nat.le_of_ble_eq_true rfl) ⟨Nat.le_of_ble_eq_true rfl, Nat.le_of_ble_eq_true rfl⟩ ⟨Nat.le_of_ble_eq_true rfl, Nat.le_of_ble_eq_true rfl⟩ d_Hb_charge_92 (fun v23 M21 H locs hq22 hP hD hS _ hkp => ?_)
            obtain ⟨ev27, f24, f25, ho26⟩ := hq22
            subst ev27
            have f28 : M21 x = some (.inr (2, [.int ho, .int pa, .ref la, .ref lp, .ref nb, .int tm])) := ho26.at (hb_n2 (fun q9 => by rw [q9, fa] at fx; cases fx) (fun q9 => by rw [q9, fq] at fx; cases fx)) fx
            have f29 : M21 la = some (.inr (3, [.ref ra, .int (nI Ac.length), .int mda])) := ho26.at (hb_n2 (fun q9 => by rw [q9, fa] at fla; cases fla) (fun q9 => by rw [q9, fq] at fla; cases fla)) fla
            have f30 : M21 lp = some (.inr (3, [.ref rp, .int (nI Py.length), .int mdp])) := ho26.at (hb_n2 (fun q9 => by rw [q9, fa] at flp; cases flp) (fun q9 => by rw [q9, fq] at flp; cases flp)) flp
            refine W.eq (g2 := F0 m 95 ls []) rfl ?_
            refine lv_iconst (v := 1) hx hb d_Hb_charge_95 (by decide) ?_
            exact hb_iret hAe hx hb hr hlocks hP hD hS (Nat.le_of_ble_eq_true rfl) (Nat.le_of_ble_eq_true rfl) (⟨rfl, f24, f25, (hb_off.rf.tr ho26 (by simp))⟩) d_Hb_charge_96
          · skip
            have c20n := hb_gt c20
            exact absurd (hb_gt c20) hmu
        · skip
          exact absurd (by rw [if_neg hld]) c19
      · skip
        exact absurd hd0 c13
  · skip
    have c6n := hb_gt c6
    exact absurd (hb_gt c6) hm
set_option maxHeartbeats 4000000 in
set_option maxRecDepth 100000 in
theorem c_Hb_undo_st {l : Launch} {s0 : State} {D : va_G} {cI cJ cO : ClassId} {e0 mi : Nat} (hE : hb_E l s0 D cI cJ cO e0 mi) (M : hb_M) (x la lp nb ra rp : Nat) (ho pa tm : Int32) (Ac : List (Nat × hbA)) (Py : List (Nat × hbY)) (h : cR cO e0 M x la lp nb ra rp ho pa tm Ac Py) (hk : cOK Ac Py) (i q : Nat) (r : hbY) (hi : Py[i]? = some (q, r)) (a : Nat) (an : Int32) (ak : hbA) (hac : hb_acc nb Ac r.2.1 = a) (fa : M a = some (aE an ak)) (hkk : ¬ r.1 < 0 ∧ ¬ 1000000 < r.1) (le : Int64) (hl0 : ¬ le < 0) (to : Int32) (hs : r.2.2.1 = 3 ∨ 0 < r.2.2.2.2.1) : hb_Met l D hb_cl s0 y_Hb_undo b_Hb_undo 6 (some .long) { frames := 8, cells := 2, slots := 120, locals := 315 } [.ref x, .int r.1, .long le, .int to] M (fun v M1 => v = some (.long (-9)) ∧ M1 = M) := by
  refine hb_Met.of (by decide) (Nat.le_of_ble_eq_true rfl) ?_
  intro p e s m below meth c A hAe hX hz hP hD hA hS ls hl
  obtain ⟨hx, hb, hr, hml, hown, hlocks, hnm, hG, hnh⟩ := id hX
  have hown : s.vm.findClass "HoldBook" = some m.cls := hown
  have hts := hE.ts hG ([.ref x, .int r.1, .long le, .int to] : List Value).toArray
  have hK := hE.kn hG
  have hl : lv_has ls 6 [(0, .ref x), (1, .int r.1), (2, .long le), (4, .int to)] := hl
  have fx := h.1
  obtain ⟨mda, fla⟩ := h.fla
  obtain ⟨mdp, flp⟩ := h.flp
  have hlA := hk.1
  have hlP := hk.2.1
  have fq : M q = some (pE a r) := by have h9 := h.py hi; rw [hac] at h9; exact h9
  refine lv_iload_n hx hb d_Hb_undo_0 rfl (lv_at hl 1 rfl) ?_
  refine hb_callS (rest := []) hX hts hb_gd Y_Hb_checkKey (c_Hb_checkKey_ok hE M r.1 hkk) ml_Hb_68 st_Hb_checkKey hz hP hD hS hA rfl hl.1 rfl (Nat.le_of_ble_eq_true rfl) ⟨Nat.le_of_ble_eq_true rfl, Nat.le_of_ble_eq_true rfl⟩ ⟨Nat.le_of_ble_eq_true rfl, Nat.le_of_ble_eq_true rfl⟩ d_Hb_undo_1 (fun v3 M1 H locs hq2 hP hD hS _ hkp => ?_)
  obtain ⟨ev4, eM5⟩ := hq2
  subst ev4
  rw [eM5] at hP hD
  refine W.eq (g2 := F0 m 4 ls []) rfl ?_
  refine lv_lload_n hx hb d_Hb_undo_4 rfl (lv_at hl 2 rfl) ?_
  refine lv_lconst (v := 0) hx hb d_Hb_undo_5 (by decide) ?_
  refine hb_lc_ge (tgt := 20) hx hb d_Hb_undo_6 d_Hb_undo_7 (by decide) (fun c6 => ?_) (fun c6 => ?_)
  · skip
    have c6n := hb_ngt c6
    refine lv_aload_n hx hb d_Hb_undo_20 rfl (lv_at hl 0 rfl) ?_
    refine lv_iload_n hx hb d_Hb_undo_21 rfl (lv_at hl 1 rfl) ?_
    refine hb_callV (rest := []) hX hts hb_gd Y_Hb_find (c_Hb_find_at hE M x la lp nb ra rp ho pa tm Ac Py h hk i q r hi) ml_Hb_79 im_Hb_find se_Hb_find hK fx hC_Hb.1 hz hP hD hS hA rfl hl.1 rfl (Nat.le_of_ble_eq_true rfl) ⟨Nat.le_of_ble_eq_true rfl, Nat.le_of_ble_eq_true rfl⟩ ⟨Nat.le_of_ble_eq_true rfl, Nat.le_of_ble_eq_true rfl⟩ d_Hb_undo_22 (fun v9 M7 H locs hq8 hP hD hS _ hkp => ?_)
    obtain ⟨ev10, eM11⟩ := hq8
    subst ev10
    rw [eM11] at hP hD
    refine W.eq (g2 := F0 m 25 ls [.ref q]) rfl ?_
    refine lv_astore (lv' := [(5, .ref q), (0, .ref x), (1, .int r.1), (2, .long le), (4, .int to)]) hx hb d_Hb_undo_25 hl (by decide) rfl (fun ls hl => ?_)
    refine lv_aload hx hb d_Hb_undo_27 (lv_at hl 0 rfl) ?_
    refine lv_ifnonnull (tgt := 69) hx hb d_Hb_undo_29 (by decide) ?_
    refine lv_aload hx hb d_Hb_undo_69 (lv_at hl 0 rfl) ?_
    refine hb_get hx hb hts hown hC_Pay hK hP fq 2 (by decide) rfl fl_Hb_122 rfl d_Hb_undo_71 ?_
    refine lv_iconst (v := 3) hx hb d_Hb_undo_74 (by decide) ?_
    refine lv_icmp_eq (tgt := 88) hx hb d_Hb_undo_75 (by decide) (fun c12 => ?_) (fun c12 => ?_)
    · skip
      refine lv_ldc2 (v := (-9)) hx hb hown (hts _ kc_Hb_125) d_Hb_undo_88 ?_
      exact hb_lret hAe hx hb hr hlocks hP hD hS (Nat.le_of_ble_eq_true rfl) (Nat.le_of_ble_eq_true rfl) (⟨rfl, rfl⟩) d_Hb_undo_91
    · skip
      refine lv_aload hx hb d_Hb_undo_78 (lv_at hl 0 rfl) ?_
      refine hb_get hx hb hts hown hC_Pay hK hP fq 4 (by decide) rfl fl_Hb_137 rfl d_Hb_undo_80 ?_
      refine lv_lconst (v := 0) hx hb d_Hb_undo_83 (by decide) ?_
      refine hb_lc_le (tgt := 92) hx hb d_Hb_undo_84 d_Hb_undo_85 (by decide) (fun c13 => ?_) (fun c13 => ?_)
      · skip
        have c13n := hb_ngt c13
        exact absurd hs (by intro z; rcases z with z | z; exact absurd z (by assumption); exact absurd z c13n)
      · skip
        have c13n := hb_gt c13
        refine lv_ldc2 (v := (-9)) hx hb hown (hts _ kc_Hb_125) d_Hb_undo_88 ?_
        exact hb_lret hAe hx hb hr hlocks hP hD hS (Nat.le_of_ble_eq_true rfl) (Nat.le_of_ble_eq_true rfl) (⟨rfl, rfl⟩) d_Hb_undo_91
  · skip
    have c6n := hb_gt c6
    exact absurd (hb_gt c6) hl0
set_option maxHeartbeats 4000000 in
set_option maxRecDepth 100000 in
theorem c_Hb_undo_rel {l : Launch} {s0 : State} {D : va_G} {cI cJ cO : ClassId} {e0 mi : Nat} (hE : hb_E l s0 D cI cJ cO e0 mi) (M : hb_M) (x la lp nb ra rp : Nat) (ho pa tm : Int32) (Ac : List (Nat × hbA)) (Py : List (Nat × hbY)) (h : cR cO e0 M x la lp nb ra rp ho pa tm Ac Py) (hk : cOK Ac Py) (i q : Nat) (r : hbY) (hi : Py[i]? = some (q, r)) (a : Nat) (an : Int32) (ak : hbA) (hac : hb_acc nb Ac r.2.1 = a) (fa : M a = some (aE an ak)) (hkk : ¬ r.1 < 0 ∧ ¬ 1000000 < r.1) (le : Int64) (hl0 : ¬ le < 0) (to : Int32) (hs : ¬ (r.2.2.1 = 3 ∨ 0 < r.2.2.2.2.1)) (h1 : r.2.2.1 ≠ 1) : hb_Met l D hb_cl s0 y_Hb_undo b_Hb_undo 6 (some .long) { frames := 8, cells := 2, slots := 120, locals := 315 } [.ref x, .int r.1, .long le, .int to] M (fun v M1 => v = some (.long r.2.2.2.1) ∧ M1 = M) := by
  refine hb_Met.of (by decide) (Nat.le_of_ble_eq_true rfl) ?_
  intro p e s m below meth c A hAe hX hz hP hD hA hS ls hl
  obtain ⟨hx, hb, hr, hml, hown, hlocks, hnm, hG, hnh⟩ := id hX
  have hown : s.vm.findClass "HoldBook" = some m.cls := hown
  have hts := hE.ts hG ([.ref x, .int r.1, .long le, .int to] : List Value).toArray
  have hK := hE.kn hG
  have hl : lv_has ls 6 [(0, .ref x), (1, .int r.1), (2, .long le), (4, .int to)] := hl
  have fx := h.1
  obtain ⟨mda, fla⟩ := h.fla
  obtain ⟨mdp, flp⟩ := h.flp
  have hlA := hk.1
  have hlP := hk.2.1
  have fq : M q = some (pE a r) := by have h9 := h.py hi; rw [hac] at h9; exact h9
  refine lv_iload_n hx hb d_Hb_undo_0 rfl (lv_at hl 1 rfl) ?_
  refine hb_callS (rest := []) hX hts hb_gd Y_Hb_checkKey (c_Hb_checkKey_ok hE M r.1 hkk) ml_Hb_68 st_Hb_checkKey hz hP hD hS hA rfl hl.1 rfl (Nat.le_of_ble_eq_true rfl) ⟨Nat.le_of_ble_eq_true rfl, Nat.le_of_ble_eq_true rfl⟩ ⟨Nat.le_of_ble_eq_true rfl, Nat.le_of_ble_eq_true rfl⟩ d_Hb_undo_1 (fun v3 M1 H locs hq2 hP hD hS _ hkp => ?_)
  obtain ⟨ev4, eM5⟩ := hq2
  subst ev4
  rw [eM5] at hP hD
  refine W.eq (g2 := F0 m 4 ls []) rfl ?_
  refine lv_lload_n hx hb d_Hb_undo_4 rfl (lv_at hl 2 rfl) ?_
  refine lv_lconst (v := 0) hx hb d_Hb_undo_5 (by decide) ?_
  refine hb_lc_ge (tgt := 20) hx hb d_Hb_undo_6 d_Hb_undo_7 (by decide) (fun c6 => ?_) (fun c6 => ?_)
  · skip
    have c6n := hb_ngt c6
    refine lv_aload_n hx hb d_Hb_undo_20 rfl (lv_at hl 0 rfl) ?_
    refine lv_iload_n hx hb d_Hb_undo_21 rfl (lv_at hl 1 rfl) ?_
    refine hb_callV (rest := []) hX hts hb_gd Y_Hb_find (c_Hb_find_at hE M x la lp nb ra rp ho pa tm Ac Py h hk i q r hi) ml_Hb_79 im_Hb_find se_Hb_find hK fx hC_Hb.1 hz hP hD hS hA rfl hl.1 rfl (Nat.le_of_ble_eq_true rfl) ⟨Nat.le_of_ble_eq_true rfl, Nat.le_of_ble_eq_true rfl⟩ ⟨Nat.le_of_ble_eq_true rfl, Nat.le_of_ble_eq_true rfl⟩ d_Hb_undo_22 (fun v9 M7 H locs hq8 hP hD hS _ hkp => ?_)
    obtain ⟨ev10, eM11⟩ := hq8
    subst ev10
    rw [eM11] at hP hD
    refine W.eq (g2 := F0 m 25 ls [.ref q]) rfl ?_
    refine lv_astore (lv' := [(5, .ref q), (0, .ref x), (1, .int r.1), (2, .long le), (4, .int to)]) hx hb d_Hb_undo_25 hl (by decide) rfl (fun ls hl => ?_)
    refine lv_aload hx hb d_Hb_undo_27 (lv_at hl 0 rfl) ?_
    refine lv_ifnonnull (tgt := 69) hx hb d_Hb_undo_29 (by decide) ?_
    refine lv_aload hx hb d_Hb_undo_69 (lv_at hl 0 rfl) ?_
    refine hb_get hx hb hts hown hC_Pay hK hP fq 2 (by decide) rfl fl_Hb_122 rfl d_Hb_undo_71 ?_
    refine lv_iconst (v := 3) hx hb d_Hb_undo_74 (by decide) ?_
    refine lv_icmp_eq (tgt := 88) hx hb d_Hb_undo_75 (by decide) (fun c12 => ?_) (fun c12 => ?_)
    · skip
      exact absurd (Or.inl c12) hs
    · skip
      refine lv_aload hx hb d_Hb_undo_78 (lv_at hl 0 rfl) ?_
      refine hb_get hx hb hts hown hC_Pay hK hP fq 4 (by decide) rfl fl_Hb_137 rfl d_Hb_undo_80 ?_
      refine lv_lconst (v := 0) hx hb d_Hb_undo_83 (by decide) ?_
      refine hb_lc_le (tgt := 92) hx hb d_Hb_undo_84 d_Hb_undo_85 (by decide) (fun c13 => ?_) (fun c13 => ?_)
      · skip
        have c13n := hb_ngt c13
        refine lv_aload hx hb d_Hb_undo_92 (lv_at hl 0 rfl) ?_
        refine hb_get hx hb hts hown hC_Pay hK hP fq 2 (by decide) rfl fl_Hb_122 rfl d_Hb_undo_94 ?_
        refine lv_iconst (v := 1) hx hb d_Hb_undo_97 (by decide) ?_
        refine lv_icmp_ne (tgt := 135) hx hb d_Hb_undo_98 (by decide) (fun c14 => ?_) (fun c14 => ?_)
        · skip
          refine lv_aload hx hb d_Hb_undo_135 (lv_at hl 0 rfl) ?_
          refine hb_get hx hb hts hown hC_Pay hK hP fq 3 (by decide) rfl fl_Hb_116 rfl d_Hb_undo_137 ?_
          exact hb_lret hAe hx hb hr hlocks hP hD hS (Nat.le_of_ble_eq_true rfl) (Nat.le_of_ble_eq_true rfl) (⟨rfl, rfl⟩) d_Hb_undo_140
        · skip
          exact absurd c14 h1
      · skip
        have c13n := hb_gt c13
        exact absurd (Or.inr c13n) hs
  · skip
    have c6n := hb_gt c6
    exact absurd (hb_gt c6) hl0
set_option maxHeartbeats 4000000 in
set_option maxRecDepth 100000 in
theorem c_Hb_undo_keep {l : Launch} {s0 : State} {D : va_G} {cI cJ cO : ClassId} {e0 mi : Nat} (hE : hb_E l s0 D cI cJ cO e0 mi) (M : hb_M) (x la lp nb ra rp : Nat) (ho pa tm : Int32) (Ac : List (Nat × hbA)) (Py : List (Nat × hbY)) (h : cR cO e0 M x la lp nb ra rp ho pa tm Ac Py) (hk : cOK Ac Py) (i q : Nat) (r : hbY) (hi : Py[i]? = some (q, r)) (a : Nat) (an : Int32) (ak : hbA) (hac : hb_acc nb Ac r.2.1 = a) (fa : M a = some (aE an ak)) (hkk : ¬ r.1 < 0 ∧ ¬ 1000000 < r.1) (le : Int64) (hl0 : ¬ le < 0) (to : Int32) (hs : ¬ (r.2.2.1 = 3 ∨ 0 < r.2.2.2.2.1)) (h1 : r.2.2.1 = 1) (h2 : 0 < le ∧ le < r.2.2.2.1) : hb_Met l D hb_cl s0 y_Hb_undo b_Hb_undo 6 (some .long) { frames := 8, cells := 2, slots := 120, locals := 315 } [.ref x, .int r.1, .long le, .int to] M (fun v M1 => v = some (.long le) ∧ M1 a = some (.inr (0, [.int an, .long ak.1, .long ak.2.1, .long ak.2.2.1, .long (ak.2.2.2.1 + (le - r.2.2.2.1)), .long ak.2.2.2.2])) ∧ M1 q = some (.inr (1, [.int r.1, .ref a, .int r.2.2.1, .long le, .long r.2.2.2.2.1, .int r.2.2.2.2.2.1, .int r.2.2.2.2.2.2.1, .int r.2.2.2.2.2.2.2.1, .long r.2.2.2.2.2.2.2.2.1, .int r.2.2.2.2.2.2.2.2.2])) ∧ hb_off [a, q] M M1) := by
  refine hb_Met.of (by decide) (Nat.le_of_ble_eq_true rfl) ?_
  intro p e s m below meth c A hAe hX hz hP hD hA hS ls hl
  obtain ⟨hx, hb, hr, hml, hown, hlocks, hnm, hG, hnh⟩ := id hX
  have hown : s.vm.findClass "HoldBook" = some m.cls := hown
  have hts := hE.ts hG ([.ref x, .int r.1, .long le, .int to] : List Value).toArray
  have hK := hE.kn hG
  have hl : lv_has ls 6 [(0, .ref x), (1, .int r.1), (2, .long le), (4, .int to)] := hl
  have fx := h.1
  obtain ⟨mda, fla⟩ := h.fla
  obtain ⟨mdp, flp⟩ := h.flp
  have hlA := hk.1
  have hlP := hk.2.1
  have fq : M q = some (pE a r) := by have h9 := h.py hi; rw [hac] at h9; exact h9
  refine lv_iload_n hx hb d_Hb_undo_0 rfl (lv_at hl 1 rfl) ?_
  refine hb_callS (rest := []) hX hts hb_gd Y_Hb_checkKey (c_Hb_checkKey_ok hE M r.1 hkk) ml_Hb_68 st_Hb_checkKey hz hP hD hS hA rfl hl.1 rfl (Nat.le_of_ble_eq_true rfl) ⟨Nat.le_of_ble_eq_true rfl, Nat.le_of_ble_eq_true rfl⟩ ⟨Nat.le_of_ble_eq_true rfl, Nat.le_of_ble_eq_true rfl⟩ d_Hb_undo_1 (fun v3 M1 H locs hq2 hP hD hS _ hkp => ?_)
  obtain ⟨ev4, eM5⟩ := hq2
  subst ev4
  rw [eM5] at hP hD
  refine W.eq (g2 := F0 m 4 ls []) rfl ?_
  refine lv_lload_n hx hb d_Hb_undo_4 rfl (lv_at hl 2 rfl) ?_
  refine lv_lconst (v := 0) hx hb d_Hb_undo_5 (by decide) ?_
  refine hb_lc_ge (tgt := 20) hx hb d_Hb_undo_6 d_Hb_undo_7 (by decide) (fun c6 => ?_) (fun c6 => ?_)
  · skip
    have c6n := hb_ngt c6
    refine lv_aload_n hx hb d_Hb_undo_20 rfl (lv_at hl 0 rfl) ?_
    refine lv_iload_n hx hb d_Hb_undo_21 rfl (lv_at hl 1 rfl) ?_
    refine hb_callV (rest := []) hX hts hb_gd Y_Hb_find (c_Hb_find_at hE M x la lp nb ra rp ho pa tm Ac Py h hk i q r hi) ml_Hb_79 im_Hb_find se_Hb_find hK fx hC_Hb.1 hz hP hD hS hA rfl hl.1 rfl (Nat.le_of_ble_eq_true rfl) ⟨Nat.le_of_ble_eq_true rfl, Nat.le_of_ble_eq_true rfl⟩ ⟨Nat.le_of_ble_eq_true rfl, Nat.le_of_ble_eq_true rfl⟩ d_Hb_undo_22 (fun v9 M7 H locs hq8 hP hD hS _ hkp => ?_)
    obtain ⟨ev10, eM11⟩ := hq8
    subst ev10
    rw [eM11] at hP hD
    refine W.eq (g2 := F0 m 25 ls [.ref q]) rfl ?_
    refine lv_astore (lv' := [(5, .ref q), (0, .ref x), (1, .int r.1), (2, .long le), (4, .int to)]) hx hb d_Hb_undo_25 hl (by decide) rfl (fun ls hl => ?_)
    refine lv_aload hx hb d_Hb_undo_27 (lv_at hl 0 rfl) ?_
    refine lv_ifnonnull (tgt := 69) hx hb d_Hb_undo_29 (by decide) ?_
    refine lv_aload hx hb d_Hb_undo_69 (lv_at hl 0 rfl) ?_
    refine hb_get hx hb hts hown hC_Pay hK hP fq 2 (by decide) rfl fl_Hb_122 rfl d_Hb_undo_71 ?_
    refine lv_iconst (v := 3) hx hb d_Hb_undo_74 (by decide) ?_
    refine lv_icmp_eq (tgt := 88) hx hb d_Hb_undo_75 (by decide) (fun c12 => ?_) (fun c12 => ?_)
    · skip
      exact absurd (Or.inl c12) hs
    · skip
      refine lv_aload hx hb d_Hb_undo_78 (lv_at hl 0 rfl) ?_
      refine hb_get hx hb hts hown hC_Pay hK hP fq 4 (by decide) rfl fl_Hb_137 rfl d_Hb_undo_80 ?_
      refine lv_lconst (v := 0) hx hb d_Hb_undo_83 (by decide) ?_
      refine hb_lc_le (tgt := 92) hx hb d_Hb_undo_84 d_Hb_undo_85 (by decide) (fun c13 => ?_) (fun c13 => ?_)
      · skip
        have c13n := hb_ngt c13
        refine lv_aload hx hb d_Hb_undo_92 (lv_at hl 0 rfl) ?_
        refine hb_get hx hb hts hown hC_Pay hK hP fq 2 (by decide) rfl fl_Hb_122 rfl d_Hb_undo_94 ?_
        refine lv_iconst (v := 1) hx hb d_Hb_undo_97 (by decide) ?_
        refine lv_icmp_ne (tgt := 135) hx hb d_Hb_undo_98 (by decide) (fun c14 => ?_) (fun c14 => ?_)
        · skip
          exact absurd h1 c14
        · skip
          refine lv_lload_n hx hb d_Hb_undo_101 rfl (lv_at hl 3 rfl) ?_
          refine lv_lconst (v := 0) hx hb d_Hb_undo_102 (by decide) ?_
          refine hb_lc_le (tgt := 126) hx hb d_Hb_undo_103 d_Hb_undo_104 (by decide) (fun c15 => ?_) (fun c15 => ?_)
          · skip
            have c15n := hb_ngt c15
            exact absurd h2.1 c15n
          · skip
            have c15n := hb_gt c15
            refine lv_lload_n hx hb d_Hb_undo_107 rfl (lv_at hl 3 rfl) ?_
            refine lv_aload hx hb d_Hb_undo_108 (lv_at hl 0 rfl) ?_
            refine hb_get hx hb hts hown hC_Pay hK hP fq 3 (by decide) rfl fl_Hb_116 rfl d_Hb_undo_110 ?_
            refine hb_lc_ge (tgt := 126) hx hb d_Hb_undo_113 d_Hb_undo_114 (by decide) (fun c16 => ?_) (fun c16 => ?_)
            · skip
              have c16n := hb_ngt c16
              exact absurd h2.2 c16n
            · skip
              have c16n := hb_gt c16
              refine lv_aload hx hb d_Hb_undo_117 (lv_at hl 0 rfl) ?_
              refine lv_lload_n hx hb d_Hb_undo_119 rfl (lv_at hl 3 rfl) ?_
              refine hb_callV (rest := []) hX hts hb_gd Y_Pay_keepHeld (c_Pay_keepHeld hE M q a an ak.1 ak.2.1 ak.2.2.1 ak.2.2.2.1 ak.2.2.2.2 r.1 r.2.2.1 r.2.2.2.2.2.1 r.2.2.2.2.2.2.1 r.2.2.2.2.2.2.2.1 r.2.2.2.2.2.2.2.2.2 r.2.2.2.1 r.2.2.2.2.1 r.2.2.2.2.2.2.2.2.1 fa fq le) ml_Hb_140 im_Pay_keepHeld se_Pay_keepHeld hK fq hC_Pay.1 hz hP hD hS hA rfl hl.1 rfl (Nat.le_of_ble_eq_true rfl) ⟨Nat.le_of_ble_eq_true rfl, Nat.le_of_ble_eq_true rfl⟩ ⟨Nat.le_of_ble_eq_true rfl, Nat.le_of_ble_eq_true rfl⟩ d_Hb_undo_120 (fun v19 M17 H locs hq18 hP hD hS _ hkp => ?_)
              obtain ⟨ev23, f20, f21, ho22⟩ := hq18
              subst ev23
              have f24 : M17 x = some (.inr (2, [.int ho, .int pa, .ref la, .ref lp, .ref nb, .int tm])) := ho22.at (hb_n2 (fun q9 => by rw [q9, fa] at fx; cases fx) (fun q9 => by rw [q9, fq] at fx; cases fx)) fx
              have f25 : M17 la = some (.inr (3, [.ref ra, .int (nI Ac.length), .int mda])) := ho22.at (hb_n2 (fun q9 => by rw [q9, fa] at fla; cases fla) (fun q9 => by rw [q9, fq] at fla; cases fla)) fla
              have f26 : M17 lp = some (.inr (3, [.ref rp, .int (nI Py.length), .int mdp])) := ho22.at (hb_n2 (fun q9 => by rw [q9, fa] at flp; cases flp) (fun q9 => by rw [q9, fq] at flp; cases flp)) flp
              refine W.eq (g2 := F0 m 123 ls []) rfl ?_
              refine lv_goto (tgt := 135) hx hb d_Hb_undo_123 (by decide) ?_
              refine lv_aload hx hb d_Hb_undo_135 (lv_at hl 0 rfl) ?_
              refine hb_get hx hb hts hown hC_Pay hK hP f21 3 (by decide) rfl fl_Hb_116 rfl d_Hb_undo_137 ?_
              exact hb_lret hAe hx hb hr hlocks hP hD hS (Nat.le_of_ble_eq_true rfl) (Nat.le_of_ble_eq_true rfl) (⟨rfl, f20, f21, (hb_off.rf.tr ho22 (by simp))⟩) d_Hb_undo_140
      · skip
        have c13n := hb_gt c13
        exact absurd (Or.inr c13n) hs
  · skip
    have c6n := hb_gt c6
    exact absurd (hb_gt c6) hl0
set_option maxHeartbeats 4000000 in
set_option maxRecDepth 100000 in
theorem c_Hb_undo_end {l : Launch} {s0 : State} {D : va_G} {cI cJ cO : ClassId} {e0 mi : Nat} (hE : hb_E l s0 D cI cJ cO e0 mi) (M : hb_M) (x la lp nb ra rp : Nat) (ho pa tm : Int32) (Ac : List (Nat × hbA)) (Py : List (Nat × hbY)) (h : cR cO e0 M x la lp nb ra rp ho pa tm Ac Py) (hk : cOK Ac Py) (i q : Nat) (r : hbY) (hi : Py[i]? = some (q, r)) (a : Nat) (an : Int32) (ak : hbA) (hac : hb_acc nb Ac r.2.1 = a) (fa : M a = some (aE an ak)) (hkk : ¬ r.1 < 0 ∧ ¬ 1000000 < r.1) (le : Int64) (hl0 : ¬ le < 0) (to : Int32) (hs : ¬ (r.2.2.1 = 3 ∨ 0 < r.2.2.2.2.1)) (h1 : r.2.2.1 = 1) (h2 : ¬ (0 < le ∧ le < r.2.2.2.1)) : hb_Met l D hb_cl s0 y_Hb_undo b_Hb_undo 6 (some .long) { frames := 8, cells := 2, slots := 120, locals := 315 } [.ref x, .int r.1, .long le, .int to] M (fun v M1 => v = some (.long 0) ∧ M1 a = some (.inr (0, [.int an, .long ak.1, .long ak.2.1, .long ak.2.2.1, .long (ak.2.2.2.1 + (0 - r.2.2.2.1)), .long ak.2.2.2.2])) ∧ M1 q = some (.inr (1, [.int r.1, .ref a, .int (if 0 < r.2.2.2.2.1 then 3 else 2), .long 0, .long r.2.2.2.2.1, .int 0, .int (if 0 < r.2.2.2.2.1 then tm else r.2.2.2.2.2.2.1), .int r.2.2.2.2.2.2.2.1, .long r.2.2.2.2.2.2.2.2.1, .int r.2.2.2.2.2.2.2.2.2])) ∧ hb_off [a, q] M M1) := by
  refine hb_Met.of (by decide) (Nat.le_of_ble_eq_true rfl) ?_
  intro p e s m below meth c A hAe hX hz hP hD hA hS ls hl
  obtain ⟨hx, hb, hr, hml, hown, hlocks, hnm, hG, hnh⟩ := id hX
  have hown : s.vm.findClass "HoldBook" = some m.cls := hown
  have hts := hE.ts hG ([.ref x, .int r.1, .long le, .int to] : List Value).toArray
  have hK := hE.kn hG
  have hl : lv_has ls 6 [(0, .ref x), (1, .int r.1), (2, .long le), (4, .int to)] := hl
  have fx := h.1
  obtain ⟨mda, fla⟩ := h.fla
  obtain ⟨mdp, flp⟩ := h.flp
  have hlA := hk.1
  have hlP := hk.2.1
  have fq : M q = some (pE a r) := by have h9 := h.py hi; rw [hac] at h9; exact h9
  refine lv_iload_n hx hb d_Hb_undo_0 rfl (lv_at hl 1 rfl) ?_
  refine hb_callS (rest := []) hX hts hb_gd Y_Hb_checkKey (c_Hb_checkKey_ok hE M r.1 hkk) ml_Hb_68 st_Hb_checkKey hz hP hD hS hA rfl hl.1 rfl (Nat.le_of_ble_eq_true rfl) ⟨Nat.le_of_ble_eq_true rfl, Nat.le_of_ble_eq_true rfl⟩ ⟨Nat.le_of_ble_eq_true rfl, Nat.le_of_ble_eq_true rfl⟩ d_Hb_undo_1 (fun v3 M1 H locs hq2 hP hD hS _ hkp => ?_)
  obtain ⟨ev4, eM5⟩ := hq2
  subst ev4
  rw [eM5] at hP hD
  refine W.eq (g2 := F0 m 4 ls []) rfl ?_
  refine lv_lload_n hx hb d_Hb_undo_4 rfl (lv_at hl 2 rfl) ?_
  refine lv_lconst (v := 0) hx hb d_Hb_undo_5 (by decide) ?_
  refine hb_lc_ge (tgt := 20) hx hb d_Hb_undo_6 d_Hb_undo_7 (by decide) (fun c6 => ?_) (fun c6 => ?_)
  · skip
    have c6n := hb_ngt c6
    refine lv_aload_n hx hb d_Hb_undo_20 rfl (lv_at hl 0 rfl) ?_
    refine lv_iload_n hx hb d_Hb_undo_21 rfl (lv_at hl 1 rfl) ?_
    refine hb_callV (rest := []) hX hts hb_gd Y_Hb_find (c_Hb_find_at hE M x la lp nb ra rp ho pa tm Ac Py h hk i q r hi) ml_Hb_79 im_Hb_find se_Hb_find hK fx hC_Hb.1 hz hP hD hS hA rfl hl.1 rfl (Nat.le_of_ble_eq_true rfl) ⟨Nat.le_of_ble_eq_true rfl, Nat.le_of_ble_eq_true rfl⟩ ⟨Nat.le_of_ble_eq_true rfl, Nat.le_of_ble_eq_true rfl⟩ d_Hb_undo_22 (fun v9 M7 H locs hq8 hP hD hS _ hkp => ?_)
    obtain ⟨ev10, eM11⟩ := hq8
    subst ev10
    rw [eM11] at hP hD
    refine W.eq (g2 := F0 m 25 ls [.ref q]) rfl ?_
    refine lv_astore (lv' := [(5, .ref q), (0, .ref x), (1, .int r.1), (2, .long le), (4, .int to)]) hx hb d_Hb_undo_25 hl (by decide) rfl (fun ls hl => ?_)
    refine lv_aload hx hb d_Hb_undo_27 (lv_at hl 0 rfl) ?_
    refine lv_ifnonnull (tgt := 69) hx hb d_Hb_undo_29 (by decide) ?_
    refine lv_aload hx hb d_Hb_undo_69 (lv_at hl 0 rfl) ?_
    refine hb_get hx hb hts hown hC_Pay hK hP fq 2 (by decide) rfl fl_Hb_122 rfl d_Hb_undo_71 ?_
    refine lv_iconst (v := 3) hx hb d_Hb_undo_74 (by decide) ?_
    refine lv_icmp_eq (tgt := 88) hx hb d_Hb_undo_75 (by decide) (fun c12 => ?_) (fun c12 => ?_)
    · skip
      exact absurd (Or.inl c12) hs
    · skip
      refine lv_aload hx hb d_Hb_undo_78 (lv_at hl 0 rfl) ?_
      refine hb_get hx hb hts hown hC_Pay hK hP fq 4 (by decide) rfl fl_Hb_137 rfl d_Hb_undo_80 ?_
      refine lv_lconst (v := 0) hx hb d_Hb_undo_83 (by decide) ?_
      refine hb_lc_le (tgt := 92) hx hb d_Hb_undo_84 d_Hb_undo_85 (by decide) (fun c13 => ?_) (fun c13 => ?_)
      · skip
        have c13n := hb_ngt c13
        refine lv_aload hx hb d_Hb_undo_92 (lv_at hl 0 rfl) ?_
        refine hb_get hx hb hts hown hC_Pay hK hP fq 2 (by decide) rfl fl_Hb_122 rfl d_Hb_undo_94 ?_
        refine lv_iconst (v := 1) hx hb d_Hb_undo_97 (by decide) ?_
        refine lv_icmp_ne (tgt := 135) hx hb d_Hb_undo_98 (by decide) (fun c14 => ?_) (fun c14 => ?_)
        · skip
          exact absurd h1 c14
        · skip
          refine lv_lload_n hx hb d_Hb_undo_101 rfl (lv_at hl 3 rfl) ?_
          refine lv_lconst (v := 0) hx hb d_Hb_undo_102 (by decide) ?_
          refine hb_lc_le (tgt := 126) hx hb d_Hb_undo_103 d_Hb_undo_104 (by decide) (fun c15 => ?_) (fun c15 => ?_)
          · skip
            have c15n := hb_ngt c15
            refine lv_aload hx hb d_Hb_undo_126 (lv_at hl 0 rfl) ?_
            refine lv_aload_n hx hb d_Hb_undo_128 rfl (lv_at hl 1 rfl) ?_
            refine hb_get hx hb hts hown hC_Hb hK hP fx 5 (by decide) rfl fl_Hb_28 rfl d_Hb_undo_129 ?_
            refine hb_callV (rest := []) hX hts hb_gd Y_Pay_endHold (c_Pay_endHold hE M q a an ak.1 ak.2.1 ak.2.2.1 ak.2.2.2.1 ak.2.2.2.2 r.1 r.2.2.1 r.2.2.2.2.2.1 r.2.2.2.2.2.2.1 r.2.2.2.2.2.2.2.1 r.2.2.2.2.2.2.2.2.2 r.2.2.2.1 r.2.2.2.2.1 r.2.2.2.2.2.2.2.2.1 fa fq tm) ml_Hb_132 im_Pay_endHold se_Pay_endHold hK fq hC_Pay.1 hz hP hD hS hA rfl hl.1 rfl (Nat.le_of_ble_eq_true rfl) ⟨Nat.le_of_ble_eq_true rfl, Nat.le_of_ble_eq_true rfl⟩ ⟨Nat.le_of_ble_eq_true rfl, Nat.le_of_ble_eq_true rfl⟩ d_Hb_undo_132 (fun v18 M16 H locs hq17 hP hD hS _ hkp => ?_)
            obtain ⟨ev22, f19, f20, ho21⟩ := hq17
            subst ev22
            have f23 : M16 x = some (.inr (2, [.int ho, .int pa, .ref la, .ref lp, .ref nb, .int tm])) := ho21.at (hb_n2 (fun q9 => by rw [q9, fa] at fx; cases fx) (fun q9 => by rw [q9, fq] at fx; cases fx)) fx
            have f24 : M16 la = some (.inr (3, [.ref ra, .int (nI Ac.length), .int mda])) := ho21.at (hb_n2 (fun q9 => by rw [q9, fa] at fla; cases fla) (fun q9 => by rw [q9, fq] at fla; cases fla)) fla
            have f25 : M16 lp = some (.inr (3, [.ref rp, .int (nI Py.length), .int mdp])) := ho21.at (hb_n2 (fun q9 => by rw [q9, fa] at flp; cases flp) (fun q9 => by rw [q9, fq] at flp; cases flp)) flp
            refine W.eq (g2 := F0 m 135 ls []) rfl ?_
            refine lv_aload hx hb d_Hb_undo_135 (lv_at hl 0 rfl) ?_
            refine hb_get hx hb hts hown hC_Pay hK hP f20 3 (by decide) rfl fl_Hb_116 rfl d_Hb_undo_137 ?_
            exact hb_lret hAe hx hb hr hlocks hP hD hS (Nat.le_of_ble_eq_true rfl) (Nat.le_of_ble_eq_true rfl) (⟨rfl, f19, f20, (hb_off.rf.tr ho21 (by simp))⟩) d_Hb_undo_140
          · skip
            have c15n := hb_gt c15
            refine lv_lload_n hx hb d_Hb_undo_107 rfl (lv_at hl 3 rfl) ?_
            refine lv_aload hx hb d_Hb_undo_108 (lv_at hl 0 rfl) ?_
            refine hb_get hx hb hts hown hC_Pay hK hP fq 3 (by decide) rfl fl_Hb_116 rfl d_Hb_undo_110 ?_
            refine hb_lc_ge (tgt := 126) hx hb d_Hb_undo_113 d_Hb_undo_114 (by decide) (fun c26 => ?_) (fun c26 => ?_)
            · skip
              have c26n := hb_ngt c26
              refine lv_aload hx hb d_Hb_undo_126 (lv_at hl 0 rfl) ?_
              refine lv_aload_n hx hb d_Hb_undo_128 rfl (lv_at hl 1 rfl) ?_
              refine hb_get hx hb hts hown hC_Hb hK hP fx 5 (by decide) rfl fl_Hb_28 rfl d_Hb_undo_129 ?_
              refine hb_callV (rest := []) hX hts hb_gd Y_Pay_endHold (c_Pay_endHold hE M q a an ak.1 ak.2.1 ak.2.2.1 ak.2.2.2.1 ak.2.2.2.2 r.1 r.2.2.1 r.2.2.2.2.2.1 r.2.2.2.2.2.2.1 r.2.2.2.2.2.2.2.1 r.2.2.2.2.2.2.2.2.2 r.2.2.2.1 r.2.2.2.2.1 r.2.2.2.2.2.2.2.2.1 fa fq tm) ml_Hb_132 im_Pay_endHold se_Pay_endHold hK fq hC_Pay.1 hz hP hD hS hA rfl hl.1 rfl (Nat.le_of_ble_eq_true rfl) ⟨Nat.le_of_ble_eq_true rfl, Nat.le_of_ble_eq_true rfl⟩ ⟨Nat.le_of_ble_eq_true rfl, Nat.le_of_ble_eq_true rfl⟩ d_Hb_undo_132 (fun v29 M27 H locs hq28 hP hD hS _ hkp => ?_)
              obtain ⟨ev33, f30, f31, ho32⟩ := hq28
              subst ev33
              have f34 : M27 x = some (.inr (2, [.int ho, .int pa, .ref la, .ref lp, .ref nb, .int tm])) := ho32.at (hb_n2 (fun q9 => by rw [q9, fa] at fx; cases fx) (fun q9 => by rw [q9, fq] at fx; cases fx)) fx
              have f35 : M27 la = some (.inr (3, [.ref ra, .int (nI Ac.length), .int mda])) := ho32.at (hb_n2 (fun q9 => by rw [q9, fa] at fla; cases fla) (fun q9 => by rw [q9, fq] at fla; cases fla)) fla
              have f36 : M27 lp = some (.inr (3, [.ref rp, .int (nI Py.length), .int mdp])) := ho32.at (hb_n2 (fun q9 => by rw [q9, fa] at flp; cases flp) (fun q9 => by rw [q9, fq] at flp; cases flp)) flp
              refine W.eq (g2 := F0 m 135 ls []) rfl ?_
              refine lv_aload hx hb d_Hb_undo_135 (lv_at hl 0 rfl) ?_
              refine hb_get hx hb hts hown hC_Pay hK hP f31 3 (by decide) rfl fl_Hb_116 rfl d_Hb_undo_137 ?_
              exact hb_lret hAe hx hb hr hlocks hP hD hS (Nat.le_of_ble_eq_true rfl) (Nat.le_of_ble_eq_true rfl) (⟨rfl, f30, f31, (hb_off.rf.tr ho32 (by simp))⟩) d_Hb_undo_140
            · skip
              have c26n := hb_gt c26
              exact absurd ⟨by assumption, c26n⟩ h2
      · skip
        have c13n := hb_gt c13
        exact absurd (Or.inr c13n) hs
  · skip
    have c6n := hb_gt c6
    exact absurd (hb_gt c6) hl0
set_option maxHeartbeats 4000000 in
set_option maxRecDepth 100000 in
theorem c_Hb_undo_no {l : Launch} {s0 : State} {D : va_G} {cI cJ cO : ClassId} {e0 mi : Nat} (hE : hb_E l s0 D cI cJ cO e0 mi) (M : hb_M) (x la lp nb ra rp : Nat) (ho pa tm : Int32) (Ac : List (Nat × hbA)) (Py : List (Nat × hbY)) (h : cR cO e0 M x la lp nb ra rp ho pa tm Ac Py) (hk : cOK Ac Py) (k : Int32) (hno : ∀ (i q : Nat) (r : hbY), Py[i]? = some (q, r) → r.1 ≠ k) (hkk : ¬ k < 0 ∧ ¬ 1000000 < k) (le : Int64) (hl0 : ¬ le < 0) (to : Int32) (hto : to = 0 ∨ 60 ≤ Py.length) : hb_Met l D hb_cl s0 y_Hb_undo b_Hb_undo 6 (some .long) { frames := 8, cells := 2, slots := 120, locals := 315 } [.ref x, .int k, .long le, .int to] M (fun v M1 => v = some (.long (-6)) ∧ M1 = M) := by
  refine hb_Met.of (by decide) (Nat.le_of_ble_eq_true rfl) ?_
  intro p e s m below meth c A hAe hX hz hP hD hA hS ls hl
  obtain ⟨hx, hb, hr, hml, hown, hlocks, hnm, hG, hnh⟩ := id hX
  have hown : s.vm.findClass "HoldBook" = some m.cls := hown
  have hts := hE.ts hG ([.ref x, .int k, .long le, .int to] : List Value).toArray
  have hK := hE.kn hG
  have hl : lv_has ls 6 [(0, .ref x), (1, .int k), (2, .long le), (4, .int to)] := hl
  have fx := h.1
  obtain ⟨mda, fla⟩ := h.fla
  obtain ⟨mdp, flp⟩ := h.flp
  have hlA := hk.1
  have hlP := hk.2.1
  refine lv_iload_n hx hb d_Hb_undo_0 rfl (lv_at hl 1 rfl) ?_
  refine hb_callS (rest := []) hX hts hb_gd Y_Hb_checkKey (c_Hb_checkKey_ok hE M k hkk) ml_Hb_68 st_Hb_checkKey hz hP hD hS hA rfl hl.1 rfl (Nat.le_of_ble_eq_true rfl) ⟨Nat.le_of_ble_eq_true rfl, Nat.le_of_ble_eq_true rfl⟩ ⟨Nat.le_of_ble_eq_true rfl, Nat.le_of_ble_eq_true rfl⟩ d_Hb_undo_1 (fun v3 M1 H locs hq2 hP hD hS _ hkp => ?_)
  obtain ⟨ev4, eM5⟩ := hq2
  subst ev4
  rw [eM5] at hP hD
  refine W.eq (g2 := F0 m 4 ls []) rfl ?_
  refine lv_lload_n hx hb d_Hb_undo_4 rfl (lv_at hl 2 rfl) ?_
  refine lv_lconst (v := 0) hx hb d_Hb_undo_5 (by decide) ?_
  refine hb_lc_ge (tgt := 20) hx hb d_Hb_undo_6 d_Hb_undo_7 (by decide) (fun c6 => ?_) (fun c6 => ?_)
  · skip
    have c6n := hb_ngt c6
    refine lv_aload_n hx hb d_Hb_undo_20 rfl (lv_at hl 0 rfl) ?_
    refine lv_iload_n hx hb d_Hb_undo_21 rfl (lv_at hl 1 rfl) ?_
    refine hb_callV (rest := []) hX hts hb_gd Y_Hb_find (c_Hb_find_no hE M x la lp nb ra rp ho pa tm Ac Py h hk k hno) ml_Hb_79 im_Hb_find se_Hb_find hK fx hC_Hb.1 hz hP hD hS hA rfl hl.1 rfl (Nat.le_of_ble_eq_true rfl) ⟨Nat.le_of_ble_eq_true rfl, Nat.le_of_ble_eq_true rfl⟩ ⟨Nat.le_of_ble_eq_true rfl, Nat.le_of_ble_eq_true rfl⟩ d_Hb_undo_22 (fun v9 M7 H locs hq8 hP hD hS _ hkp => ?_)
    obtain ⟨ev10, eM11⟩ := hq8
    subst ev10
    rw [eM11] at hP hD
    refine W.eq (g2 := F0 m 25 ls [.null]) rfl ?_
    refine lv_astoreN (lv' := [(5, .null), (0, .ref x), (1, .int k), (2, .long le), (4, .int to)]) hx hb d_Hb_undo_25 hl (by decide) rfl (fun ls hl => ?_)
    refine lv_aloadN hx hb d_Hb_undo_27 (lv_at hl 0 rfl) ?_
    refine lv_ifnonnullN hx hb d_Hb_undo_29 ?_
    refine lv_iload hx hb d_Hb_undo_32 (lv_at hl 4 rfl) ?_
    refine lv_if_eq (tgt := 65) hx hb d_Hb_undo_34 (by decide) (fun c12 => ?_) (fun c12 => ?_)
    · skip
      refine lv_ldc2 (v := (-6)) hx hb hown (hts _ kc_Hb_120) d_Hb_undo_65 ?_
      exact hb_lret hAe hx hb hr hlocks hP hD hS (Nat.le_of_ble_eq_true rfl) (Nat.le_of_ble_eq_true rfl) (⟨rfl, rfl⟩) d_Hb_undo_68
    · skip
      refine lv_aload_n hx hb d_Hb_undo_37 rfl (lv_at hl 1 rfl) ?_
      refine hb_get hx hb hts hown hC_Hb hK hP fx 3 (by decide) rfl fl_Hb_16 rfl d_Hb_undo_38 ?_
      refine hb_callV (rest := []) hX hts hb_gd Y_Al_size (c_py_size hE h) ml_Hb_55 im_Al_size se_Al_size hK flp hC_Al.1 hz hP hD hS hA rfl hl.1 rfl (Nat.le_of_ble_eq_true rfl) ⟨Nat.le_of_ble_eq_true rfl, Nat.le_of_ble_eq_true rfl⟩ ⟨Nat.le_of_ble_eq_true rfl, Nat.le_of_ble_eq_true rfl⟩ d_Hb_undo_41 (fun v15 M13 H locs hq14 hP hD hS _ hkp => ?_)
      obtain ⟨ev16, eM17⟩ := hq14
      subst ev16
      rw [eM17] at hP hD
      refine W.eq (g2 := F0 m 44 ls [.int (nI Py.length)]) rfl ?_
      refine lv_bipush (v := 60) hx hb d_Hb_undo_44 (by decide) ?_
      refine lv_icmp_ge (tgt := 65) hx hb d_Hb_undo_46 (by decide) (fun c18 => ?_) (fun c18 => ?_)
      · skip
        have c18n := hb_ngti c18
        refine lv_ldc2 (v := (-6)) hx hb hown (hts _ kc_Hb_120) d_Hb_undo_65 ?_
        exact hb_lret hAe hx hb hr hlocks hP hD hS (Nat.le_of_ble_eq_true rfl) (Nat.le_of_ble_eq_true rfl) (⟨rfl, rfl⟩) d_Hb_undo_68
      · skip
        have c18n := hb_gti c18
        exact absurd hto (by intro z; rcases z with z | z; exact absurd z (by assumption); exact c18 (nI_le (a := 60) z (by omega)))
  · skip
    have c6n := hb_gt c6
    exact absurd (hb_gt c6) hl0
set_option maxHeartbeats 4000000 in
set_option maxRecDepth 100000 in
/-- enter(p) -/
theorem c_Hb_enter {l : Launch} {s0 : State} {D : va_G} {cI cJ cO : ClassId} {e0 mi : Nat} (hE : hb_E l s0 D cI cJ cO e0 mi) (M : hb_M) (x la lp nb ra rp : Nat) (ho pa tm : Int32) (Ac : List (Nat × hbA)) (Py : List (Nat × hbY)) (h : cR cO e0 M x la lp nb ra rp ho pa tm Ac Py) (hk : cOK Ac Py) (p0 : Nat) (r : hbY) (fp : M p0 = some (pE (hb_acc nb Ac r.2.1) r)) (hl9 : Py.length < 60) : hb_Met l D hb_cl s0 y_Hb_enter b_Hb_enter 2 none { frames := 6, cells := 1, slots := 100, locals := 231 } [.ref x, .ref p0] M (fun v M1 => v = none ∧ ∃ rp1, cR cO e0 M1 x la lp nb ra rp1 ho pa tm Ac (Py.insertIdx (hb_pos Py r.1) (p0, r))) := by
  refine hb_Met.of (by decide) (Nat.le_of_ble_eq_true rfl) ?_
  intro p e s m below meth c A hAe hX hz hP hD hA hS ls hl
  obtain ⟨hx, hb, hr, hml, hown, hlocks, hnm, hG, hnh⟩ := id hX
  have hown : s.vm.findClass "HoldBook" = some m.cls := hown
  have hts := hE.ts hG ([.ref x, .ref p0] : List Value).toArray
  have hK := hE.kn hG
  have hl : lv_has ls 2 [(0, .ref x), (1, .ref p0)] := hl
  have fx := h.1
  obtain ⟨mda, fla⟩ := h.fla
  obtain ⟨mdp, flp⟩ := h.flp
  have hlA := hk.1
  have hlP := hk.2.1
  refine lv_aload_n hx hb d_Hb_enter_0 rfl (lv_at hl 0 rfl) ?_
  refine hb_get hx hb hts hown hC_Hb hK hP fx 3 (by decide) rfl fl_Hb_16 rfl d_Hb_enter_1 ?_
  refine lv_aload_n hx hb d_Hb_enter_4 rfl (lv_at hl 0 rfl) ?_
  refine lv_aload_n hx hb d_Hb_enter_5 rfl (lv_at hl 1 rfl) ?_
  refine hb_get hx hb hts hown hC_Pay hK hP fp 0 (by decide) rfl fl_Hb_189 rfl d_Hb_enter_6 ?_
  refine hb_callV (rest := [.ref lp]) hX hts hb_gd Y_Hb_placeOf (c_Hb_placeOf hE M x la lp nb ra rp ho pa tm Ac Py h hk r.1) ml_Hb_214 im_Hb_placeOf se_Hb_placeOf hK fx hC_Hb.1 hz hP hD hS hA rfl hl.1 rfl (Nat.le_of_ble_eq_true rfl) ⟨Nat.le_of_ble_eq_true rfl, Nat.le_of_ble_eq_true rfl⟩ ⟨Nat.le_of_ble_eq_true rfl, Nat.le_of_ble_eq_true rfl⟩ d_Hb_enter_9 (fun v3 M1 H locs hq2 hP hD hS _ hkp => ?_)
  obtain ⟨ev4, eM5⟩ := hq2
  subst ev4
  rw [eM5] at hP hD
  refine W.eq (g2 := F0 m 12 ls [.int (nI (hb_pos Py r.1)), .ref lp]) rfl ?_
  refine lv_aload_n hx hb d_Hb_enter_12 rfl (lv_at hl 1 rfl) ?_
  refine hb_callV (rest := []) hX hts hb_gd Y_Al_add3 (c_lst_ins hE h.2.2.2.2.2.1 h.2.2.1 h.obP (by rw [List.length_map]; exact hb_pos_le Py r.1) (by rw [List.length_map]; omega) fp (Or.inr rfl)) ml_Hb_217 im_Al_add3 se_Al_add3 hK flp hC_Al.1 hz hP hD hS hA rfl hl.1 rfl (Nat.le_of_ble_eq_true rfl) ⟨Nat.le_of_ble_eq_true rfl, Nat.le_of_ble_eq_true rfl⟩ ⟨Nat.le_of_ble_eq_true rfl, Nat.le_of_ble_eq_true rfl⟩ d_Hb_enter_13 (fun v8 M6 H locs hq7 hP hD hS _ hkp => ?_)
  obtain ⟨ev9, rp9, b1, b2, b3⟩ := hq7
  subst ev9
  have m0 := hb_e0 hE hz hD
  refine W.eq (g2 := F0 m 16 ls []) rfl ?_
  exact hb_vret hAe hx hb hr hlocks hP hD hS (Nat.le_of_ble_eq_true rfl) (Nat.le_of_ble_eq_true rfl) (⟨rfl, rp9, h.ins (hb_pos_le Py r.1) fp b1 b2 b3 m0⟩) d_Hb_enter_16
set_option maxHeartbeats 4000000 in
set_option maxRecDepth 100000 in
theorem c_Hb_undo_tomb {l : Launch} {s0 : State} {D : va_G} {cI cJ cO : ClassId} {e0 mi : Nat} (hE : hb_E l s0 D cI cJ cO e0 mi) (M : hb_M) (x la lp nb ra rp : Nat) (ho pa tm : Int32) (Ac : List (Nat × hbA)) (Py : List (Nat × hbY)) (h : cR cO e0 M x la lp nb ra rp ho pa tm Ac Py) (hk : cOK Ac Py) (k : Int32) (hno : ∀ (i q : Nat) (r : hbY), Py[i]? = some (q, r) → r.1 ≠ k) (hkk : ¬ k < 0 ∧ ¬ 1000000 < k) (le : Int64) (hl0 : ¬ le < 0) (to : Int32) (hto : to ≠ 0) (hl9 : Py.length < 60) : hb_Met l D hb_cl s0 y_Hb_undo b_Hb_undo 6 (some .long) { frames := 8, cells := 2, slots := 120, locals := 315 } [.ref x, .int k, .long le, .int to] M (fun v M1 => v = some (.long (-6)) ∧ ∃ p0 rp1, cR cO e0 M1 x la lp nb ra rp1 ho pa tm Ac (Py.insertIdx (hb_pos Py k) (p0, ((k, -1, 2, 0, 0, 0, -1, 0, 0, -1) : hbY)))) := by
  refine hb_Met.of (by decide) (Nat.le_of_ble_eq_true rfl) ?_
  intro p e s m below meth c A hAe hX hz hP hD hA hS ls hl
  obtain ⟨hx, hb, hr, hml, hown, hlocks, hnm, hG, hnh⟩ := id hX
  have hown : s.vm.findClass "HoldBook" = some m.cls := hown
  have hts := hE.ts hG ([.ref x, .int k, .long le, .int to] : List Value).toArray
  have hK := hE.kn hG
  have hl : lv_has ls 6 [(0, .ref x), (1, .int k), (2, .long le), (4, .int to)] := hl
  have fx := h.1
  obtain ⟨mda, fla⟩ := h.fla
  obtain ⟨mdp, flp⟩ := h.flp
  have hlA := hk.1
  have hlP := hk.2.1
  refine lv_iload_n hx hb d_Hb_undo_0 rfl (lv_at hl 1 rfl) ?_
  refine hb_callS (rest := []) hX hts hb_gd Y_Hb_checkKey (c_Hb_checkKey_ok hE M k hkk) ml_Hb_68 st_Hb_checkKey hz hP hD hS hA rfl hl.1 rfl (Nat.le_of_ble_eq_true rfl) ⟨Nat.le_of_ble_eq_true rfl, Nat.le_of_ble_eq_true rfl⟩ ⟨Nat.le_of_ble_eq_true rfl, Nat.le_of_ble_eq_true rfl⟩ d_Hb_undo_1 (fun v3 M1 H locs hq2 hP hD hS _ hkp => ?_)
  obtain ⟨ev4, eM5⟩ := hq2
  subst ev4
  rw [eM5] at hP hD
  refine W.eq (g2 := F0 m 4 ls []) rfl ?_
  refine lv_lload_n hx hb d_Hb_undo_4 rfl (lv_at hl 2 rfl) ?_
  refine lv_lconst (v := 0) hx hb d_Hb_undo_5 (by decide) ?_
  refine hb_lc_ge (tgt := 20) hx hb d_Hb_undo_6 d_Hb_undo_7 (by decide) (fun c6 => ?_) (fun c6 => ?_)
  · skip
    have c6n := hb_ngt c6
    refine lv_aload_n hx hb d_Hb_undo_20 rfl (lv_at hl 0 rfl) ?_
    refine lv_iload_n hx hb d_Hb_undo_21 rfl (lv_at hl 1 rfl) ?_
    refine hb_callV (rest := []) hX hts hb_gd Y_Hb_find (c_Hb_find_no hE M x la lp nb ra rp ho pa tm Ac Py h hk k hno) ml_Hb_79 im_Hb_find se_Hb_find hK fx hC_Hb.1 hz hP hD hS hA rfl hl.1 rfl (Nat.le_of_ble_eq_true rfl) ⟨Nat.le_of_ble_eq_true rfl, Nat.le_of_ble_eq_true rfl⟩ ⟨Nat.le_of_ble_eq_true rfl, Nat.le_of_ble_eq_true rfl⟩ d_Hb_undo_22 (fun v9 M7 H locs hq8 hP hD hS _ hkp => ?_)
    obtain ⟨ev10, eM11⟩ := hq8
    subst ev10
    rw [eM11] at hP hD
    refine W.eq (g2 := F0 m 25 ls [.null]) rfl ?_
    refine lv_astoreN (lv' := [(5, .null), (0, .ref x), (1, .int k), (2, .long le), (4, .int to)]) hx hb d_Hb_undo_25 hl (by decide) rfl (fun ls hl => ?_)
    refine lv_aloadN hx hb d_Hb_undo_27 (lv_at hl 0 rfl) ?_
    refine lv_ifnonnullN hx hb d_Hb_undo_29 ?_
    refine lv_iload hx hb d_Hb_undo_32 (lv_at hl 4 rfl) ?_
    refine lv_if_eq (tgt := 65) hx hb d_Hb_undo_34 (by decide) (fun c12 => ?_) (fun c12 => ?_)
    · skip
      exact absurd c12 hto
    · skip
      refine lv_aload_n hx hb d_Hb_undo_37 rfl (lv_at hl 1 rfl) ?_
      refine hb_get hx hb hts hown hC_Hb hK hP fx 3 (by decide) rfl fl_Hb_16 rfl d_Hb_undo_38 ?_
      refine hb_callV (rest := []) hX hts hb_gd Y_Al_size (c_py_size hE h) ml_Hb_55 im_Al_size se_Al_size hK flp hC_Al.1 hz hP hD hS hA rfl hl.1 rfl (Nat.le_of_ble_eq_true rfl) ⟨Nat.le_of_ble_eq_true rfl, Nat.le_of_ble_eq_true rfl⟩ ⟨Nat.le_of_ble_eq_true rfl, Nat.le_of_ble_eq_true rfl⟩ d_Hb_undo_41 (fun v15 M13 H locs hq14 hP hD hS _ hkp => ?_)
      obtain ⟨ev16, eM17⟩ := hq14
      subst ev16
      rw [eM17] at hP hD
      refine W.eq (g2 := F0 m 44 ls [.int (nI Py.length)]) rfl ?_
      refine lv_bipush (v := 60) hx hb d_Hb_undo_44 (by decide) ?_
      refine lv_icmp_ge (tgt := 65) hx hb d_Hb_undo_46 (by decide) (fun c18 => ?_) (fun c18 => ?_)
      · skip
        have c18n := hb_ngti c18
        exact absurd c18 (by intro z; have := (nI_leI (a := 60) (by omega) (by omega)).mp z; omega)
      · skip
        have c18n := hb_gti c18
        refine lv_aload_n hx hb d_Hb_undo_49 rfl (lv_at hl 1 rfl) ?_
        refine hb_new (fs := [.int 0, .null, .int 0, .long 0, .long 0, .int 0, .int 0, .int 0, .long 0, .int 0]) hx hb hts hown hC_Pay kl_Hb_97 it_Pay in_Pay hK hP hD hS hA (fun j hj => by rcases (show j = 0 ∨ j = 1 ∨ j = 2 ∨ j = 3 ∨ j = 4 ∨ j = 5 ∨ j = 6 ∨ j = 7 ∨ j = 8 ∨ j = 9 by omega) with rfl | rfl | rfl | rfl | rfl | rfl | rfl | rfl | rfl | rfl <;> rfl) (Nat.le_of_ble_eq_true rfl) (Nat.le_of_ble_eq_true rfl) d_Hb_undo_50 (fun q19 M20 H hq22 ha23 eM21 hP hD hS => ?_)
        have f24 : M20 q19 = some (.inr (1, [.int 0, .null, .int 0, .long 0, .long 0, .int 0, .int 0, .int 0, .long 0, .int 0])) := by rw [eM21]; exact hb_up_self
        have f25 : M20 x = some (.inr (2, [.int ho, .int pa, .ref la, .ref lp, .ref nb, .int tm])) := by rw [eM21, hb_up_ne (fun q9 => by rw [q9, hq22] at fx; cases fx)]; exact fx
        have f26 : M20 la = some (.inr (3, [.ref ra, .int (nI Ac.length), .int mda])) := by rw [eM21, hb_up_ne (fun q9 => by rw [q9, hq22] at fla; cases fla)]; exact fla
        have f27 : M20 lp = some (.inr (3, [.ref rp, .int (nI Py.length), .int mdp])) := by rw [eM21, hb_up_ne (fun q9 => by rw [q9, hq22] at flp; cases flp)]; exact flp
        refine lv_dup hx hb d_Hb_undo_53 rfl ?_
        refine lv_iload_n hx hb d_Hb_undo_54 rfl (lv_at hl 2 rfl) ?_
        refine lv_aload_n hx hb d_Hb_undo_55 rfl (lv_at hl 1 rfl) ?_
        refine hb_get hx hb hts hown hC_Hb hK hP f25 4 (by decide) rfl fl_Hb_24 rfl d_Hb_undo_56 ?_
        refine hb_callI (rest := [.ref q19, .ref x]) hX hts hb_gd Y_Pay_init (c_Pay_init hE M20 q19 nb k f24) ml_Hb_99 im_Pay_init rfl hz hP hD hS hA rfl hl.1 rfl (Nat.le_of_ble_eq_true rfl) ⟨Nat.le_of_ble_eq_true rfl, Nat.le_of_ble_eq_true rfl⟩ ⟨Nat.le_of_ble_eq_true rfl, Nat.le_of_ble_eq_true rfl⟩ d_Hb_undo_59 (fun v30 M28 H locs hq29 hP hD hS _ hkp => ?_)
        obtain ⟨ev33, f31, ho32⟩ := hq29
        subst ev33
        have f34 : M28 x = some (.inr (2, [.int ho, .int pa, .ref la, .ref lp, .ref nb, .int tm])) := ho32.at (hb_n1 (fun q9 => by rw [q9, hq22] at fx; cases fx)) f25
        have f35 : M28 la = some (.inr (3, [.ref ra, .int (nI Ac.length), .int mda])) := ho32.at (hb_n1 (fun q9 => by rw [q9, hq22] at fla; cases fla)) f26
        have f36 : M28 lp = some (.inr (3, [.ref rp, .int (nI Py.length), .int mdp])) := ho32.at (hb_n1 (fun q9 => by rw [q9, hq22] at flp; cases flp)) f27
        refine W.eq (g2 := F0 m 62 ls [.ref q19, .ref x]) rfl ?_
        have m0 := hb_e0 hE hz hD
        have kp0 : hb_kp [] M M28 := fun b e9 _ he => by rw [ho32 b (hb_n1 (fun z => by rw [z, hq22] at he; cases he)), eM21, hb_up_ne (fun z => by rw [z, hq22] at he; cases he)]; exact he
        have h2 := h.more kp0 m0
        refine hb_callV (rest := []) hX hts hb_gd Y_Hb_enter (c_Hb_enter hE M28 x la lp nb ra rp ho pa tm Ac Py h2 hk q19 ((k, -1, 2, 0, 0, 0, -1, 0, 0, -1) : hbY) f31 hl9) ml_Hb_112 im_Hb_enter se_Hb_enter hK f34 hC_Hb.1 hz hP hD hS hA rfl hl.1 rfl (Nat.le_of_ble_eq_true rfl) ⟨Nat.le_of_ble_eq_true rfl, Nat.le_of_ble_eq_true rfl⟩ ⟨Nat.le_of_ble_eq_true rfl, Nat.le_of_ble_eq_true rfl⟩ d_Hb_undo_62 (fun v39 M37 H locs hq38 hP hD hS _ hkp => ?_)
        obtain ⟨ev9, rp9, b1⟩ := hq38
        subst ev9
        refine W.eq (g2 := F0 m 65 ls []) rfl ?_
        refine lv_ldc2 (v := (-6)) hx hb hown (hts _ kc_Hb_120) d_Hb_undo_65 ?_
        exact hb_lret hAe hx hb hr hlocks hP hD hS (Nat.le_of_ble_eq_true rfl) (Nat.le_of_ble_eq_true rfl) (⟨rfl, q19, rp9, b1⟩) d_Hb_undo_68
  · skip
    have c6n := hb_gt c6
    exact absurd (hb_gt c6) hl0
