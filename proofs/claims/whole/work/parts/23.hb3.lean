/-! HOLDBOOK: payment, represent, decide, clear -/
set_option maxHeartbeats 4000000 in
set_option maxRecDepth 100000 in
/-- payment(k, wh), there -/
theorem c_Hb_payment_at {l : Launch} {s0 : State} {D : va_G} {cI cJ cO : ClassId} {e0 mi : Nat} (hE : hb_E l s0 D cI cJ cO e0 mi) (M : hb_M) (x la lp nb ra rp : Nat) (ho pa tm : Int32) (Ac : List (Nat × hbA)) (Py : List (Nat × hbY)) (h : cR cO e0 M x la lp nb ra rp ho pa tm Ac Py) (hk : cOK Ac Py) (i q : Nat) (r : hbY) (hi : Py[i]? = some (q, r)) (a : Nat) (an : Int32) (ak : hbA) (hac : hb_acc nb Ac r.2.1 = a) (fa : M a = some (aE an ak)) (hkk : ¬ r.1 < 0 ∧ ¬ 1000000 < r.1) (wh : Int32) (hw : ¬ wh < 0 ∧ ¬ 8 < wh) : hb_Met l D hb_cl s0 y_Hb_payment b_Hb_payment 4 (some .long) { frames := 5, cells := 0, slots := 0, locals := 109 } [.ref x, .int r.1, .int wh] M (fun v M1 => v = some (.long (if wh = 0 then r.2.2.1.toInt64 else if wh = 1 then r.2.2.2.1 else if wh = 2 then r.2.2.2.2.1 else if wh = 3 then r.2.2.2.2.2.1.toInt64 else if wh = 4 then r.2.2.2.2.2.2.1.toInt64 else if wh = 5 then an.toInt64 else if wh = 6 then r.2.2.2.2.2.2.2.1.toInt64 else if wh = 7 then r.2.2.2.2.2.2.2.2.1 else r.2.2.2.2.2.2.2.2.2.toInt64)) ∧ M1 = M) := by
  refine hb_Met.of (by decide) (Nat.le_of_ble_eq_true rfl) ?_
  intro p e s m below meth c A hAe hX hz hP hD hA hS ls hl
  obtain ⟨hx, hb, hr, hml, hown, hlocks, hnm, hG, hnh⟩ := id hX
  have hown : s.vm.findClass "HoldBook" = some m.cls := hown
  have hts := hE.ts hG ([.ref x, .int r.1, .int wh] : List Value).toArray
  have hK := hE.kn hG
  have hl : lv_has ls 4 [(0, .ref x), (1, .int r.1), (2, .int wh)] := hl
  have fx := h.1
  obtain ⟨mda, fla⟩ := h.fla
  obtain ⟨mdp, flp⟩ := h.flp
  have hlA := hk.1
  have hlP := hk.2.1
  have fq : M q = some (pE a r) := by have h9 := h.py hi; rw [hac] at h9; exact h9
  refine lv_iload_n hx hb d_Hb_payment_0 rfl (lv_at hl 1 rfl) ?_
  refine hb_callS (rest := []) hX hts hb_gd Y_Hb_checkKey (c_Hb_checkKey_ok hE M r.1 hkk) ml_Hb_68 st_Hb_checkKey hz hP hD hS hA rfl hl.1 rfl (Nat.le_of_ble_eq_true rfl) ⟨Nat.le_of_ble_eq_true rfl, Nat.le_of_ble_eq_true rfl⟩ ⟨Nat.le_of_ble_eq_true rfl, Nat.le_of_ble_eq_true rfl⟩ d_Hb_payment_1 (fun v3 M1 H locs hq2 hP hD hS _ hkp => ?_)
  obtain ⟨ev4, eM5⟩ := hq2
  subst ev4
  rw [eM5] at hP hD
  refine W.eq (g2 := F0 m 4 ls []) rfl ?_
  refine lv_iload_n hx hb d_Hb_payment_4 rfl (lv_at hl 2 rfl) ?_
  refine lv_bipush (v := 8) hx hb d_Hb_payment_5 (by decide) ?_
  refine hb_callS (rest := []) hX hts hb_gd Y_Hb_checkWhat (c_Hb_checkWhat_ok hE M wh 8 hw) ml_Hb_176 st_Hb_checkWhat hz hP hD hS hA rfl hl.1 rfl (Nat.le_of_ble_eq_true rfl) ⟨Nat.le_of_ble_eq_true rfl, Nat.le_of_ble_eq_true rfl⟩ ⟨Nat.le_of_ble_eq_true rfl, Nat.le_of_ble_eq_true rfl⟩ d_Hb_payment_7 (fun v8 M6 H locs hq7 hP hD hS _ hkp => ?_)
  obtain ⟨ev9, eM10⟩ := hq7
  subst ev9
  rw [eM10] at hP hD
  refine W.eq (g2 := F0 m 10 ls []) rfl ?_
  refine lv_aload_n hx hb d_Hb_payment_10 rfl (lv_at hl 0 rfl) ?_
  refine lv_iload_n hx hb d_Hb_payment_11 rfl (lv_at hl 1 rfl) ?_
  refine hb_callV (rest := []) hX hts hb_gd Y_Hb_find (c_Hb_find_at hE M x la lp nb ra rp ho pa tm Ac Py h hk i q r hi) ml_Hb_79 im_Hb_find se_Hb_find hK fx hC_Hb.1 hz hP hD hS hA rfl hl.1 rfl (Nat.le_of_ble_eq_true rfl) ⟨Nat.le_of_ble_eq_true rfl, Nat.le_of_ble_eq_true rfl⟩ ⟨Nat.le_of_ble_eq_true rfl, Nat.le_of_ble_eq_true rfl⟩ d_Hb_payment_12 (fun v13 M11 H locs hq12 hP hD hS _ hkp => ?_)
  obtain ⟨ev14, eM15⟩ := hq12
  subst ev14
  rw [eM15] at hP hD
  refine W.eq (g2 := F0 m 15 ls [.ref q]) rfl ?_
  refine lv_astore_n (lv' := [(3, .ref q), (0, .ref x), (1, .int r.1), (2, .int wh)]) hx hb d_Hb_payment_15 rfl hl (by decide) rfl (fun ls hl => ?_)
  refine lv_aload_n hx hb d_Hb_payment_16 rfl (lv_at hl 0 rfl) ?_
  refine lv_ifnonnull (tgt := 32) hx hb d_Hb_payment_17 (by decide) ?_
  refine lv_aload_n hx hb d_Hb_payment_32 rfl (lv_at hl 0 rfl) ?_
  refine lv_iload_n hx hb d_Hb_payment_33 rfl (lv_at hl 3 rfl) ?_
  refine hb_callV (rest := []) hX hts hb_gd Y_Pay_tell (c_Pay_tell hE M q a an ak.1 ak.2.1 ak.2.2.1 ak.2.2.2.1 ak.2.2.2.2 r.1 r.2.2.1 r.2.2.2.2.2.1 r.2.2.2.2.2.2.1 r.2.2.2.2.2.2.2.1 r.2.2.2.2.2.2.2.2.2 r.2.2.2.1 r.2.2.2.2.1 r.2.2.2.2.2.2.2.2.1 fa fq wh) ml_Hb_186 im_Pay_tell se_Pay_tell hK fq hC_Pay.1 hz hP hD hS hA rfl hl.1 rfl (Nat.le_of_ble_eq_true rfl) ⟨Nat.le_of_ble_eq_true rfl, Nat.le_of_ble_eq_true rfl⟩ ⟨Nat.le_of_ble_eq_true rfl, Nat.le_of_ble_eq_true rfl⟩ d_Hb_payment_34 (fun v18 M16 H locs hq17 hP hD hS _ hkp => ?_)
  obtain ⟨ev19, eM20⟩ := hq17
  subst ev19
  rw [eM20] at hP hD
  refine W.eq (g2 := F0 m 37 ls [.long (if wh = 0 then r.2.2.1.toInt64 else if wh = 1 then r.2.2.2.1 else if wh = 2 then r.2.2.2.2.1 else if wh = 3 then r.2.2.2.2.2.1.toInt64 else if wh = 4 then r.2.2.2.2.2.2.1.toInt64 else if wh = 5 then an.toInt64 else if wh = 6 then r.2.2.2.2.2.2.2.1.toInt64 else if wh = 7 then r.2.2.2.2.2.2.2.2.1 else r.2.2.2.2.2.2.2.2.2.toInt64)]) rfl ?_
  exact hb_lret hAe hx hb hr hlocks hP hD hS (Nat.le_of_ble_eq_true rfl) (Nat.le_of_ble_eq_true rfl) (⟨rfl, rfl⟩) d_Hb_payment_37
set_option maxHeartbeats 4000000 in
set_option maxRecDepth 100000 in
/-- payment(k, wh), not there -/
theorem c_Hb_payment_no {l : Launch} {s0 : State} {D : va_G} {cI cJ cO : ClassId} {e0 mi : Nat} (hE : hb_E l s0 D cI cJ cO e0 mi) (M : hb_M) (x la lp nb ra rp : Nat) (ho pa tm : Int32) (Ac : List (Nat × hbA)) (Py : List (Nat × hbY)) (h : cR cO e0 M x la lp nb ra rp ho pa tm Ac Py) (hk : cOK Ac Py) (k : Int32) (hno : ∀ (i q : Nat) (r : hbY), Py[i]? = some (q, r) → r.1 ≠ k) (hkk : ¬ k < 0 ∧ ¬ 1000000 < k) (wh : Int32) (hw : ¬ wh < 0 ∧ ¬ 8 < wh) : hb_Met l D hb_cl s0 y_Hb_payment b_Hb_payment 4 (some .long) { frames := 5, cells := 0, slots := 0, locals := 109 } [.ref x, .int k, .int wh] M (fun v M1 => v = some (.long (if wh = 0 then 0 else -1)) ∧ M1 = M) := by
  refine hb_Met.of (by decide) (Nat.le_of_ble_eq_true rfl) ?_
  intro p e s m below meth c A hAe hX hz hP hD hA hS ls hl
  obtain ⟨hx, hb, hr, hml, hown, hlocks, hnm, hG, hnh⟩ := id hX
  have hown : s.vm.findClass "HoldBook" = some m.cls := hown
  have hts := hE.ts hG ([.ref x, .int k, .int wh] : List Value).toArray
  have hK := hE.kn hG
  have hl : lv_has ls 4 [(0, .ref x), (1, .int k), (2, .int wh)] := hl
  have fx := h.1
  obtain ⟨mda, fla⟩ := h.fla
  obtain ⟨mdp, flp⟩ := h.flp
  have hlA := hk.1
  have hlP := hk.2.1
  refine lv_iload_n hx hb d_Hb_payment_0 rfl (lv_at hl 1 rfl) ?_
  refine hb_callS (rest := []) hX hts hb_gd Y_Hb_checkKey (c_Hb_checkKey_ok hE M k hkk) ml_Hb_68 st_Hb_checkKey hz hP hD hS hA rfl hl.1 rfl (Nat.le_of_ble_eq_true rfl) ⟨Nat.le_of_ble_eq_true rfl, Nat.le_of_ble_eq_true rfl⟩ ⟨Nat.le_of_ble_eq_true rfl, Nat.le_of_ble_eq_true rfl⟩ d_Hb_payment_1 (fun v3 M1 H locs hq2 hP hD hS _ hkp => ?_)
  obtain ⟨ev4, eM5⟩ := hq2
  subst ev4
  rw [eM5] at hP hD
  refine W.eq (g2 := F0 m 4 ls []) rfl ?_
  refine lv_iload_n hx hb d_Hb_payment_4 rfl (lv_at hl 2 rfl) ?_
  refine lv_bipush (v := 8) hx hb d_Hb_payment_5 (by decide) ?_
  refine hb_callS (rest := []) hX hts hb_gd Y_Hb_checkWhat (c_Hb_checkWhat_ok hE M wh 8 hw) ml_Hb_176 st_Hb_checkWhat hz hP hD hS hA rfl hl.1 rfl (Nat.le_of_ble_eq_true rfl) ⟨Nat.le_of_ble_eq_true rfl, Nat.le_of_ble_eq_true rfl⟩ ⟨Nat.le_of_ble_eq_true rfl, Nat.le_of_ble_eq_true rfl⟩ d_Hb_payment_7 (fun v8 M6 H locs hq7 hP hD hS _ hkp => ?_)
  obtain ⟨ev9, eM10⟩ := hq7
  subst ev9
  rw [eM10] at hP hD
  refine W.eq (g2 := F0 m 10 ls []) rfl ?_
  refine lv_aload_n hx hb d_Hb_payment_10 rfl (lv_at hl 0 rfl) ?_
  refine lv_iload_n hx hb d_Hb_payment_11 rfl (lv_at hl 1 rfl) ?_
  refine hb_callV (rest := []) hX hts hb_gd Y_Hb_find (c_Hb_find_no hE M x la lp nb ra rp ho pa tm Ac Py h hk k hno) ml_Hb_79 im_Hb_find se_Hb_find hK fx hC_Hb.1 hz hP hD hS hA rfl hl.1 rfl (Nat.le_of_ble_eq_true rfl) ⟨Nat.le_of_ble_eq_true rfl, Nat.le_of_ble_eq_true rfl⟩ ⟨Nat.le_of_ble_eq_true rfl, Nat.le_of_ble_eq_true rfl⟩ d_Hb_payment_12 (fun v13 M11 H locs hq12 hP hD hS _ hkp => ?_)
  obtain ⟨ev14, eM15⟩ := hq12
  subst ev14
  rw [eM15] at hP hD
  refine W.eq (g2 := F0 m 15 ls [.null]) rfl ?_
  refine lv_astore_nN (lv' := [(3, .null), (0, .ref x), (1, .int k), (2, .int wh)]) hx hb d_Hb_payment_15 rfl hl (by decide) rfl (fun ls hl => ?_)
  refine lv_aload_nN hx hb d_Hb_payment_16 rfl (lv_at hl 0 rfl) ?_
  refine lv_ifnonnullN hx hb d_Hb_payment_17 ?_
  refine lv_iload_n hx hb d_Hb_payment_20 rfl (lv_at hl 3 rfl) ?_
  refine lv_if_ne (tgt := 28) hx hb d_Hb_payment_21 (by decide) (fun c16 => ?_) (fun c16 => ?_)
  · skip
    refine lv_ldc2 (v := (-1)) hx hb hown (hts _ kc_Hb_184) d_Hb_payment_28 ?_
    exact hb_lret hAe hx hb hr hlocks hP hD hS (Nat.le_of_ble_eq_true rfl) (Nat.le_of_ble_eq_true rfl) (⟨by first | rw [if_pos (by assumption)] | rw [if_neg (by assumption)], rfl⟩) d_Hb_payment_31
  · skip
    refine lv_lconst (v := 0) hx hb d_Hb_payment_24 (by decide) ?_
    refine lv_goto (tgt := 31) hx hb d_Hb_payment_25 (by decide) ?_
    exact hb_lret hAe hx hb hr hlocks hP hD hS (Nat.le_of_ble_eq_true rfl) (Nat.le_of_ble_eq_true rfl) (⟨by first | rw [if_pos (by assumption)] | rw [if_neg (by assumption)], rfl⟩) d_Hb_payment_31
set_option maxHeartbeats 4000000 in
set_option maxRecDepth 100000 in
theorem c_Hb_represent_no {l : Launch} {s0 : State} {D : va_G} {cI cJ cO : ClassId} {e0 mi : Nat} (hE : hb_E l s0 D cI cJ cO e0 mi) (M : hb_M) (x la lp nb ra rp : Nat) (ho pa tm : Int32) (Ac : List (Nat × hbA)) (Py : List (Nat × hbY)) (h : cR cO e0 M x la lp nb ra rp ho pa tm Ac Py) (hk : cOK Ac Py) (k : Int32) (hno : ∀ (i q : Nat) (r : hbY), Py[i]? = some (q, r) → r.1 ≠ k) (hkk : ¬ k < 0 ∧ ¬ 1000000 < k) : hb_Met l D hb_cl s0 y_Hb_represent b_Hb_represent 3 (some .int) { frames := 5, cells := 0, slots := 0, locals := 109 } [.ref x, .int k] M (fun v M1 => v = some (.int (-6)) ∧ M1 = M) := by
  refine hb_Met.of (by decide) (Nat.le_of_ble_eq_true rfl) ?_
  intro p e s m below meth c A hAe hX hz hP hD hA hS ls hl
  obtain ⟨hx, hb, hr, hml, hown, hlocks, hnm, hG, hnh⟩ := id hX
  have hown : s.vm.findClass "HoldBook" = some m.cls := hown
  have hts := hE.ts hG ([.ref x, .int k] : List Value).toArray
  have hK := hE.kn hG
  have hl : lv_has ls 3 [(0, .ref x), (1, .int k)] := hl
  have fx := h.1
  obtain ⟨mda, fla⟩ := h.fla
  obtain ⟨mdp, flp⟩ := h.flp
  have hlA := hk.1
  have hlP := hk.2.1
  refine lv_iload_n hx hb d_Hb_represent_0 rfl (lv_at hl 1 rfl) ?_
  refine hb_callS (rest := []) hX hts hb_gd Y_Hb_checkKey (c_Hb_checkKey_ok hE M k hkk) ml_Hb_68 st_Hb_checkKey hz hP hD hS hA rfl hl.1 rfl (Nat.le_of_ble_eq_true rfl) ⟨Nat.le_of_ble_eq_true rfl, Nat.le_of_ble_eq_true rfl⟩ ⟨Nat.le_of_ble_eq_true rfl, Nat.le_of_ble_eq_true rfl⟩ d_Hb_represent_1 (fun v3 M1 H locs hq2 hP hD hS _ hkp => ?_)
  obtain ⟨ev4, eM5⟩ := hq2
  subst ev4
  rw [eM5] at hP hD
  refine W.eq (g2 := F0 m 4 ls []) rfl ?_
  refine lv_aload_n hx hb d_Hb_represent_4 rfl (lv_at hl 0 rfl) ?_
  refine lv_iload_n hx hb d_Hb_represent_5 rfl (lv_at hl 1 rfl) ?_
  refine hb_callV (rest := []) hX hts hb_gd Y_Hb_find (c_Hb_find_no hE M x la lp nb ra rp ho pa tm Ac Py h hk k hno) ml_Hb_79 im_Hb_find se_Hb_find hK fx hC_Hb.1 hz hP hD hS hA rfl hl.1 rfl (Nat.le_of_ble_eq_true rfl) ⟨Nat.le_of_ble_eq_true rfl, Nat.le_of_ble_eq_true rfl⟩ ⟨Nat.le_of_ble_eq_true rfl, Nat.le_of_ble_eq_true rfl⟩ d_Hb_represent_6 (fun v8 M6 H locs hq7 hP hD hS _ hkp => ?_)
  obtain ⟨ev9, eM10⟩ := hq7
  subst ev9
  rw [eM10] at hP hD
  refine W.eq (g2 := F0 m 9 ls [.null]) rfl ?_
  refine lv_astore_nN (lv' := [(2, .null), (0, .ref x), (1, .int k)]) hx hb d_Hb_represent_9 rfl hl (by decide) rfl (fun ls hl => ?_)
  refine lv_aload_nN hx hb d_Hb_represent_10 rfl (lv_at hl 0 rfl) ?_
  refine lv_ifnonnullN hx hb d_Hb_represent_11 ?_
  refine lv_bipush (v := (-6)) hx hb d_Hb_represent_14 (by decide) ?_
  exact hb_iret hAe hx hb hr hlocks hP hD hS (Nat.le_of_ble_eq_true rfl) (Nat.le_of_ble_eq_true rfl) (⟨rfl, rfl⟩) d_Hb_represent_16
set_option maxHeartbeats 4000000 in
set_option maxRecDepth 100000 in
theorem c_Hb_represent_st {l : Launch} {s0 : State} {D : va_G} {cI cJ cO : ClassId} {e0 mi : Nat} (hE : hb_E l s0 D cI cJ cO e0 mi) (M : hb_M) (x la lp nb ra rp : Nat) (ho pa tm : Int32) (Ac : List (Nat × hbA)) (Py : List (Nat × hbY)) (h : cR cO e0 M x la lp nb ra rp ho pa tm Ac Py) (hk : cOK Ac Py) (i q : Nat) (r : hbY) (hi : Py[i]? = some (q, r)) (a : Nat) (an : Int32) (ak : hbA) (hac : hb_acc nb Ac r.2.1 = a) (fa : M a = some (aE an ak)) (hkk : ¬ r.1 < 0 ∧ ¬ 1000000 < r.1) (hs : r.2.2.2.2.2.2.2.1 ≠ 1) : hb_Met l D hb_cl s0 y_Hb_represent b_Hb_represent 3 (some .int) { frames := 5, cells := 0, slots := 0, locals := 109 } [.ref x, .int r.1] M (fun v M1 => v = some (.int (-9)) ∧ M1 = M) := by
  refine hb_Met.of (by decide) (Nat.le_of_ble_eq_true rfl) ?_
  intro p e s m below meth c A hAe hX hz hP hD hA hS ls hl
  obtain ⟨hx, hb, hr, hml, hown, hlocks, hnm, hG, hnh⟩ := id hX
  have hown : s.vm.findClass "HoldBook" = some m.cls := hown
  have hts := hE.ts hG ([.ref x, .int r.1] : List Value).toArray
  have hK := hE.kn hG
  have hl : lv_has ls 3 [(0, .ref x), (1, .int r.1)] := hl
  have fx := h.1
  obtain ⟨mda, fla⟩ := h.fla
  obtain ⟨mdp, flp⟩ := h.flp
  have hlA := hk.1
  have hlP := hk.2.1
  have fq : M q = some (pE a r) := by have h9 := h.py hi; rw [hac] at h9; exact h9
  refine lv_iload_n hx hb d_Hb_represent_0 rfl (lv_at hl 1 rfl) ?_
  refine hb_callS (rest := []) hX hts hb_gd Y_Hb_checkKey (c_Hb_checkKey_ok hE M r.1 hkk) ml_Hb_68 st_Hb_checkKey hz hP hD hS hA rfl hl.1 rfl (Nat.le_of_ble_eq_true rfl) ⟨Nat.le_of_ble_eq_true rfl, Nat.le_of_ble_eq_true rfl⟩ ⟨Nat.le_of_ble_eq_true rfl, Nat.le_of_ble_eq_true rfl⟩ d_Hb_represent_1 (fun v3 M1 H locs hq2 hP hD hS _ hkp => ?_)
  obtain ⟨ev4, eM5⟩ := hq2
  subst ev4
  rw [eM5] at hP hD
  refine W.eq (g2 := F0 m 4 ls []) rfl ?_
  refine lv_aload_n hx hb d_Hb_represent_4 rfl (lv_at hl 0 rfl) ?_
  refine lv_iload_n hx hb d_Hb_represent_5 rfl (lv_at hl 1 rfl) ?_
  refine hb_callV (rest := []) hX hts hb_gd Y_Hb_find (c_Hb_find_at hE M x la lp nb ra rp ho pa tm Ac Py h hk i q r hi) ml_Hb_79 im_Hb_find se_Hb_find hK fx hC_Hb.1 hz hP hD hS hA rfl hl.1 rfl (Nat.le_of_ble_eq_true rfl) ⟨Nat.le_of_ble_eq_true rfl, Nat.le_of_ble_eq_true rfl⟩ ⟨Nat.le_of_ble_eq_true rfl, Nat.le_of_ble_eq_true rfl⟩ d_Hb_represent_6 (fun v8 M6 H locs hq7 hP hD hS _ hkp => ?_)
  obtain ⟨ev9, eM10⟩ := hq7
  subst ev9
  rw [eM10] at hP hD
  refine W.eq (g2 := F0 m 9 ls [.ref q]) rfl ?_
  refine lv_astore_n (lv' := [(2, .ref q), (0, .ref x), (1, .int r.1)]) hx hb d_Hb_represent_9 rfl hl (by decide) rfl (fun ls hl => ?_)
  refine lv_aload_n hx hb d_Hb_represent_10 rfl (lv_at hl 0 rfl) ?_
  refine lv_ifnonnull (tgt := 17) hx hb d_Hb_represent_11 (by decide) ?_
  refine lv_aload_n hx hb d_Hb_represent_17 rfl (lv_at hl 0 rfl) ?_
  refine hb_get hx hb hts hown hC_Pay hK hP fq 7 (by decide) rfl fl_Hb_153 rfl d_Hb_represent_18 ?_
  refine lv_iconst (v := 1) hx hb d_Hb_represent_21 (by decide) ?_
  refine lv_icmp_eq (tgt := 28) hx hb d_Hb_represent_22 (by decide) (fun c11 => ?_) (fun c11 => ?_)
  · skip
    exact absurd c11 hs
  · skip
    refine lv_bipush (v := (-9)) hx hb d_Hb_represent_25 (by decide) ?_
    exact hb_iret hAe hx hb hr hlocks hP hD hS (Nat.le_of_ble_eq_true rfl) (Nat.le_of_ble_eq_true rfl) (⟨rfl, rfl⟩) d_Hb_represent_27
set_option maxHeartbeats 4000000 in
set_option maxRecDepth 100000 in
theorem c_Hb_represent_ok {l : Launch} {s0 : State} {D : va_G} {cI cJ cO : ClassId} {e0 mi : Nat} (hE : hb_E l s0 D cI cJ cO e0 mi) (M : hb_M) (x la lp nb ra rp : Nat) (ho pa tm : Int32) (Ac : List (Nat × hbA)) (Py : List (Nat × hbY)) (h : cR cO e0 M x la lp nb ra rp ho pa tm Ac Py) (hk : cOK Ac Py) (i q : Nat) (r : hbY) (hi : Py[i]? = some (q, r)) (a : Nat) (an : Int32) (ak : hbA) (hac : hb_acc nb Ac r.2.1 = a) (fa : M a = some (aE an ak)) (hkk : ¬ r.1 < 0 ∧ ¬ 1000000 < r.1) (hs : r.2.2.2.2.2.2.2.1 = 1) : hb_Met l D hb_cl s0 y_Hb_represent b_Hb_represent 3 (some .int) { frames := 5, cells := 0, slots := 0, locals := 109 } [.ref x, .int r.1] M (fun v M1 => v = some (.int 1) ∧ M1 q = some (.inr (1, [.int r.1, .ref a, .int r.2.2.1, .long r.2.2.2.1, .long r.2.2.2.2.1, .int r.2.2.2.2.2.1, .int r.2.2.2.2.2.2.1, .int 2, .long r.2.2.2.2.2.2.2.2.1, .int (tm + pa)])) ∧ hb_off [q] M M1) := by
  refine hb_Met.of (by decide) (Nat.le_of_ble_eq_true rfl) ?_
  intro p e s m below meth c A hAe hX hz hP hD hA hS ls hl
  obtain ⟨hx, hb, hr, hml, hown, hlocks, hnm, hG, hnh⟩ := id hX
  have hown : s.vm.findClass "HoldBook" = some m.cls := hown
  have hts := hE.ts hG ([.ref x, .int r.1] : List Value).toArray
  have hK := hE.kn hG
  have hl : lv_has ls 3 [(0, .ref x), (1, .int r.1)] := hl
  have fx := h.1
  obtain ⟨mda, fla⟩ := h.fla
  obtain ⟨mdp, flp⟩ := h.flp
  have hlA := hk.1
  have hlP := hk.2.1
  have fq : M q = some (pE a r) := by have h9 := h.py hi; rw [hac] at h9; exact h9
  refine lv_iload_n hx hb d_Hb_represent_0 rfl (lv_at hl 1 rfl) ?_
  refine hb_callS (rest := []) hX hts hb_gd Y_Hb_checkKey (c_Hb_checkKey_ok hE M r.1 hkk) ml_Hb_68 st_Hb_checkKey hz hP hD hS hA rfl hl.1 rfl (Nat.le_of_ble_eq_true rfl) ⟨Nat.le_of_ble_eq_true rfl, Nat.le_of_ble_eq_true rfl⟩ ⟨Nat.le_of_ble_eq_true rfl, Nat.le_of_ble_eq_true rfl⟩ d_Hb_represent_1 (fun v3 M1 H locs hq2 hP hD hS _ hkp => ?_)
  obtain ⟨ev4, eM5⟩ := hq2
  subst ev4
  rw [eM5] at hP hD
  refine W.eq (g2 := F0 m 4 ls []) rfl ?_
  refine lv_aload_n hx hb d_Hb_represent_4 rfl (lv_at hl 0 rfl) ?_
  refine lv_iload_n hx hb d_Hb_represent_5 rfl (lv_at hl 1 rfl) ?_
  refine hb_callV (rest := []) hX hts hb_gd Y_Hb_find (c_Hb_find_at hE M x la lp nb ra rp ho pa tm Ac Py h hk i q r hi) ml_Hb_79 im_Hb_find se_Hb_find hK fx hC_Hb.1 hz hP hD hS hA rfl hl.1 rfl (Nat.le_of_ble_eq_true rfl) ⟨Nat.le_of_ble_eq_true rfl, Nat.le_of_ble_eq_true rfl⟩ ⟨Nat.le_of_ble_eq_true rfl, Nat.le_of_ble_eq_true rfl⟩ d_Hb_represent_6 (fun v8 M6 H locs hq7 hP hD hS _ hkp => ?_)
  obtain ⟨ev9, eM10⟩ := hq7
  subst ev9
  rw [eM10] at hP hD
  refine W.eq (g2 := F0 m 9 ls [.ref q]) rfl ?_
  refine lv_astore_n (lv' := [(2, .ref q), (0, .ref x), (1, .int r.1)]) hx hb d_Hb_represent_9 rfl hl (by decide) rfl (fun ls hl => ?_)
  refine lv_aload_n hx hb d_Hb_represent_10 rfl (lv_at hl 0 rfl) ?_
  refine lv_ifnonnull (tgt := 17) hx hb d_Hb_represent_11 (by decide) ?_
  refine lv_aload_n hx hb d_Hb_represent_17 rfl (lv_at hl 0 rfl) ?_
  refine hb_get hx hb hts hown hC_Pay hK hP fq 7 (by decide) rfl fl_Hb_153 rfl d_Hb_represent_18 ?_
  refine lv_iconst (v := 1) hx hb d_Hb_represent_21 (by decide) ?_
  refine lv_icmp_eq (tgt := 28) hx hb d_Hb_represent_22 (by decide) (fun c11 => ?_) (fun c11 => ?_)
  · skip
    refine lv_aload_n hx hb d_Hb_represent_28 rfl (lv_at hl 0 rfl) ?_
    refine lv_aload_n hx hb d_Hb_represent_29 rfl (lv_at hl 1 rfl) ?_
    refine hb_get hx hb hts hown hC_Hb hK hP fx 5 (by decide) rfl fl_Hb_28 rfl d_Hb_represent_30 ?_
    refine lv_aload_n hx hb d_Hb_represent_33 rfl (lv_at hl 1 rfl) ?_
    refine hb_get hx hb hts hown hC_Hb hK hP fx 1 (by decide) rfl fl_Hb_39 rfl d_Hb_represent_34 ?_
    refine lv_iadd hx hb d_Hb_represent_37 ?_
    refine hb_callV (rest := []) hX hts hb_gd Y_Pay_answerDispute (c_Pay_answerDispute hE M q a r.1 r.2.2.1 r.2.2.2.2.2.1 r.2.2.2.2.2.2.1 r.2.2.2.2.2.2.2.1 r.2.2.2.2.2.2.2.2.2 r.2.2.2.1 r.2.2.2.2.1 r.2.2.2.2.2.2.2.2.1 fq (tm + pa)) ml_Hb_163 im_Pay_answerDispute se_Pay_answerDispute hK fq hC_Pay.1 hz hP hD hS hA rfl hl.1 rfl (Nat.le_of_ble_eq_true rfl) ⟨Nat.le_of_ble_eq_true rfl, Nat.le_of_ble_eq_true rfl⟩ ⟨Nat.le_of_ble_eq_true rfl, Nat.le_of_ble_eq_true rfl⟩ d_Hb_represent_38 (fun v14 M12 H locs hq13 hP hD hS _ hkp => ?_)
    obtain ⟨ev17, f15, ho16⟩ := hq13
    subst ev17
    have f18 : M12 x = some (.inr (2, [.int ho, .int pa, .ref la, .ref lp, .ref nb, .int tm])) := ho16.at (hb_n1 (fun q9 => by rw [q9, fq] at fx; cases fx)) fx
    have f19 : M12 la = some (.inr (3, [.ref ra, .int (nI Ac.length), .int mda])) := ho16.at (hb_n1 (fun q9 => by rw [q9, fq] at fla; cases fla)) fla
    have f20 : M12 lp = some (.inr (3, [.ref rp, .int (nI Py.length), .int mdp])) := ho16.at (hb_n1 (fun q9 => by rw [q9, fq] at flp; cases flp)) flp
    have f21 : M12 a = some (.inr (0, [.int an, .long ak.1, .long ak.2.1, .long ak.2.2.1, .long ak.2.2.2.1, .long ak.2.2.2.2])) := ho16.at (hb_n1 (fun q9 => by rw [q9, fq] at fa; cases fa)) fa
    refine W.eq (g2 := F0 m 41 ls []) rfl ?_
    refine lv_iconst (v := 1) hx hb d_Hb_represent_41 (by decide) ?_
    exact hb_iret hAe hx hb hr hlocks hP hD hS (Nat.le_of_ble_eq_true rfl) (Nat.le_of_ble_eq_true rfl) (⟨rfl, f15, (hb_off.rf.tr ho16 (by simp))⟩) d_Hb_represent_42
  · skip
    exact absurd hs c11
set_option maxHeartbeats 4000000 in
set_option maxRecDepth 100000 in
theorem c_Hb_decide_no {l : Launch} {s0 : State} {D : va_G} {cI cJ cO : ClassId} {e0 mi : Nat} (hE : hb_E l s0 D cI cJ cO e0 mi) (M : hb_M) (x la lp nb ra rp : Nat) (ho pa tm : Int32) (Ac : List (Nat × hbA)) (Py : List (Nat × hbY)) (h : cR cO e0 M x la lp nb ra rp ho pa tm Ac Py) (hk : cOK Ac Py) (k : Int32) (hno : ∀ (i q : Nat) (r : hbY), Py[i]? = some (q, r) → r.1 ≠ k) (hkk : ¬ k < 0 ∧ ¬ 1000000 < k) (w : Int32) : hb_Met l D hb_cl s0 y_Hb_decide b_Hb_decide 4 (some .int) { frames := 5, cells := 0, slots := 0, locals := 109 } [.ref x, .int k, .int w] M (fun v M1 => v = some (.int (-6)) ∧ M1 = M) := by
  refine hb_Met.of (by decide) (Nat.le_of_ble_eq_true rfl) ?_
  intro p e s m below meth c A hAe hX hz hP hD hA hS ls hl
  obtain ⟨hx, hb, hr, hml, hown, hlocks, hnm, hG, hnh⟩ := id hX
  have hown : s.vm.findClass "HoldBook" = some m.cls := hown
  have hts := hE.ts hG ([.ref x, .int k, .int w] : List Value).toArray
  have hK := hE.kn hG
  have hl : lv_has ls 4 [(0, .ref x), (1, .int k), (2, .int w)] := hl
  have fx := h.1
  obtain ⟨mda, fla⟩ := h.fla
  obtain ⟨mdp, flp⟩ := h.flp
  have hlA := hk.1
  have hlP := hk.2.1
  refine lv_iload_n hx hb d_Hb_decide_0 rfl (lv_at hl 1 rfl) ?_
  refine hb_callS (rest := []) hX hts hb_gd Y_Hb_checkKey (c_Hb_checkKey_ok hE M k hkk) ml_Hb_68 st_Hb_checkKey hz hP hD hS hA rfl hl.1 rfl (Nat.le_of_ble_eq_true rfl) ⟨Nat.le_of_ble_eq_true rfl, Nat.le_of_ble_eq_true rfl⟩ ⟨Nat.le_of_ble_eq_true rfl, Nat.le_of_ble_eq_true rfl⟩ d_Hb_decide_1 (fun v3 M1 H locs hq2 hP hD hS _ hkp => ?_)
  obtain ⟨ev4, eM5⟩ := hq2
  subst ev4
  rw [eM5] at hP hD
  refine W.eq (g2 := F0 m 4 ls []) rfl ?_
  refine lv_aload_n hx hb d_Hb_decide_4 rfl (lv_at hl 0 rfl) ?_
  refine lv_iload_n hx hb d_Hb_decide_5 rfl (lv_at hl 1 rfl) ?_
  refine hb_callV (rest := []) hX hts hb_gd Y_Hb_find (c_Hb_find_no hE M x la lp nb ra rp ho pa tm Ac Py h hk k hno) ml_Hb_79 im_Hb_find se_Hb_find hK fx hC_Hb.1 hz hP hD hS hA rfl hl.1 rfl (Nat.le_of_ble_eq_true rfl) ⟨Nat.le_of_ble_eq_true rfl, Nat.le_of_ble_eq_true rfl⟩ ⟨Nat.le_of_ble_eq_true rfl, Nat.le_of_ble_eq_true rfl⟩ d_Hb_decide_6 (fun v8 M6 H locs hq7 hP hD hS _ hkp => ?_)
  obtain ⟨ev9, eM10⟩ := hq7
  subst ev9
  rw [eM10] at hP hD
  refine W.eq (g2 := F0 m 9 ls [.null]) rfl ?_
  refine lv_astore_nN (lv' := [(3, .null), (0, .ref x), (1, .int k), (2, .int w)]) hx hb d_Hb_decide_9 rfl hl (by decide) rfl (fun ls hl => ?_)
  refine lv_aload_nN hx hb d_Hb_decide_10 rfl (lv_at hl 0 rfl) ?_
  refine lv_ifnonnullN hx hb d_Hb_decide_11 ?_
  refine lv_bipush (v := (-6)) hx hb d_Hb_decide_14 (by decide) ?_
  exact hb_iret hAe hx hb hr hlocks hP hD hS (Nat.le_of_ble_eq_true rfl) (Nat.le_of_ble_eq_true rfl) (⟨rfl, rfl⟩) d_Hb_decide_16
set_option maxHeartbeats 4000000 in
set_option maxRecDepth 100000 in
theorem c_Hb_decide_st {l : Launch} {s0 : State} {D : va_G} {cI cJ cO : ClassId} {e0 mi : Nat} (hE : hb_E l s0 D cI cJ cO e0 mi) (M : hb_M) (x la lp nb ra rp : Nat) (ho pa tm : Int32) (Ac : List (Nat × hbA)) (Py : List (Nat × hbY)) (h : cR cO e0 M x la lp nb ra rp ho pa tm Ac Py) (hk : cOK Ac Py) (i q : Nat) (r : hbY) (hi : Py[i]? = some (q, r)) (a : Nat) (an : Int32) (ak : hbA) (hac : hb_acc nb Ac r.2.1 = a) (fa : M a = some (aE an ak)) (hkk : ¬ r.1 < 0 ∧ ¬ 1000000 < r.1) (w : Int32) (hs : r.2.2.2.2.2.2.2.1 ≠ 2) : hb_Met l D hb_cl s0 y_Hb_decide b_Hb_decide 4 (some .int) { frames := 5, cells := 0, slots := 0, locals := 109 } [.ref x, .int r.1, .int w] M (fun v M1 => v = some (.int (-9)) ∧ M1 = M) := by
  refine hb_Met.of (by decide) (Nat.le_of_ble_eq_true rfl) ?_
  intro p e s m below meth c A hAe hX hz hP hD hA hS ls hl
  obtain ⟨hx, hb, hr, hml, hown, hlocks, hnm, hG, hnh⟩ := id hX
  have hown : s.vm.findClass "HoldBook" = some m.cls := hown
  have hts := hE.ts hG ([.ref x, .int r.1, .int w] : List Value).toArray
  have hK := hE.kn hG
  have hl : lv_has ls 4 [(0, .ref x), (1, .int r.1), (2, .int w)] := hl
  have fx := h.1
  obtain ⟨mda, fla⟩ := h.fla
  obtain ⟨mdp, flp⟩ := h.flp
  have hlA := hk.1
  have hlP := hk.2.1
  have fq : M q = some (pE a r) := by have h9 := h.py hi; rw [hac] at h9; exact h9
  refine lv_iload_n hx hb d_Hb_decide_0 rfl (lv_at hl 1 rfl) ?_
  refine hb_callS (rest := []) hX hts hb_gd Y_Hb_checkKey (c_Hb_checkKey_ok hE M r.1 hkk) ml_Hb_68 st_Hb_checkKey hz hP hD hS hA rfl hl.1 rfl (Nat.le_of_ble_eq_true rfl) ⟨Nat.le_of_ble_eq_true rfl, Nat.le_of_ble_eq_true rfl⟩ ⟨Nat.le_of_ble_eq_true rfl, Nat.le_of_ble_eq_true rfl⟩ d_Hb_decide_1 (fun v3 M1 H locs hq2 hP hD hS _ hkp => ?_)
  obtain ⟨ev4, eM5⟩ := hq2
  subst ev4
  rw [eM5] at hP hD
  refine W.eq (g2 := F0 m 4 ls []) rfl ?_
  refine lv_aload_n hx hb d_Hb_decide_4 rfl (lv_at hl 0 rfl) ?_
  refine lv_iload_n hx hb d_Hb_decide_5 rfl (lv_at hl 1 rfl) ?_
  refine hb_callV (rest := []) hX hts hb_gd Y_Hb_find (c_Hb_find_at hE M x la lp nb ra rp ho pa tm Ac Py h hk i q r hi) ml_Hb_79 im_Hb_find se_Hb_find hK fx hC_Hb.1 hz hP hD hS hA rfl hl.1 rfl (Nat.le_of_ble_eq_true rfl) ⟨Nat.le_of_ble_eq_true rfl, Nat.le_of_ble_eq_true rfl⟩ ⟨Nat.le_of_ble_eq_true rfl, Nat.le_of_ble_eq_true rfl⟩ d_Hb_decide_6 (fun v8 M6 H locs hq7 hP hD hS _ hkp => ?_)
  obtain ⟨ev9, eM10⟩ := hq7
  subst ev9
  rw [eM10] at hP hD
  refine W.eq (g2 := F0 m 9 ls [.ref q]) rfl ?_
  refine lv_astore_n (lv' := [(3, .ref q), (0, .ref x), (1, .int r.1), (2, .int w)]) hx hb d_Hb_decide_9 rfl hl (by decide) rfl (fun ls hl => ?_)
  refine lv_aload_n hx hb d_Hb_decide_10 rfl (lv_at hl 0 rfl) ?_
  refine lv_ifnonnull (tgt := 17) hx hb d_Hb_decide_11 (by decide) ?_
  refine lv_aload_n hx hb d_Hb_decide_17 rfl (lv_at hl 0 rfl) ?_
  refine hb_get hx hb hts hown hC_Pay hK hP fq 7 (by decide) rfl fl_Hb_153 rfl d_Hb_decide_18 ?_
  refine lv_iconst (v := 2) hx hb d_Hb_decide_21 (by decide) ?_
  refine lv_icmp_eq (tgt := 28) hx hb d_Hb_decide_22 (by decide) (fun c11 => ?_) (fun c11 => ?_)
  · skip
    exact absurd c11 hs
  · skip
    refine lv_bipush (v := (-9)) hx hb d_Hb_decide_25 (by decide) ?_
    exact hb_iret hAe hx hb hr hlocks hP hD hS (Nat.le_of_ble_eq_true rfl) (Nat.le_of_ble_eq_true rfl) (⟨rfl, rfl⟩) d_Hb_decide_27
set_option maxHeartbeats 4000000 in
set_option maxRecDepth 100000 in
theorem c_Hb_decide_ok {l : Launch} {s0 : State} {D : va_G} {cI cJ cO : ClassId} {e0 mi : Nat} (hE : hb_E l s0 D cI cJ cO e0 mi) (M : hb_M) (x la lp nb ra rp : Nat) (ho pa tm : Int32) (Ac : List (Nat × hbA)) (Py : List (Nat × hbY)) (h : cR cO e0 M x la lp nb ra rp ho pa tm Ac Py) (hk : cOK Ac Py) (i q : Nat) (r : hbY) (hi : Py[i]? = some (q, r)) (a : Nat) (an : Int32) (ak : hbA) (hac : hb_acc nb Ac r.2.1 = a) (fa : M a = some (aE an ak)) (hkk : ¬ r.1 < 0 ∧ ¬ 1000000 < r.1) (w : Int32) (hs : r.2.2.2.2.2.2.2.1 = 2) : hb_Met l D hb_cl s0 y_Hb_decide b_Hb_decide 4 (some .int) { frames := 5, cells := 0, slots := 0, locals := 109 } [.ref x, .int r.1, .int w] M (fun v M1 => v = some (.int 1) ∧ M1 a = some (.inr (0, [.int an, .long ak.1, .long ak.2.1, .long (if w = 0 then ak.2.2.1 - r.2.2.2.2.2.2.2.2.1 else ak.2.2.1), .long ak.2.2.2.1, .long (ak.2.2.2.2 - r.2.2.2.2.2.2.2.2.1)])) ∧ M1 q = some (.inr (1, [.int r.1, .ref a, .int r.2.2.1, .long r.2.2.2.1, .long r.2.2.2.2.1, .int r.2.2.2.2.2.1, .int r.2.2.2.2.2.2.1, .int (if w = 0 then 4 else 3), .long r.2.2.2.2.2.2.2.2.1, .int (-1)])) ∧ hb_off [a, q] M M1) := by
  refine hb_Met.of (by decide) (Nat.le_of_ble_eq_true rfl) ?_
  intro p e s m below meth c A hAe hX hz hP hD hA hS ls hl
  obtain ⟨hx, hb, hr, hml, hown, hlocks, hnm, hG, hnh⟩ := id hX
  have hown : s.vm.findClass "HoldBook" = some m.cls := hown
  have hts := hE.ts hG ([.ref x, .int r.1, .int w] : List Value).toArray
  have hK := hE.kn hG
  have hl : lv_has ls 4 [(0, .ref x), (1, .int r.1), (2, .int w)] := hl
  have fx := h.1
  obtain ⟨mda, fla⟩ := h.fla
  obtain ⟨mdp, flp⟩ := h.flp
  have hlA := hk.1
  have hlP := hk.2.1
  have fq : M q = some (pE a r) := by have h9 := h.py hi; rw [hac] at h9; exact h9
  refine lv_iload_n hx hb d_Hb_decide_0 rfl (lv_at hl 1 rfl) ?_
  refine hb_callS (rest := []) hX hts hb_gd Y_Hb_checkKey (c_Hb_checkKey_ok hE M r.1 hkk) ml_Hb_68 st_Hb_checkKey hz hP hD hS hA rfl hl.1 rfl (Nat.le_of_ble_eq_true rfl) ⟨Nat.le_of_ble_eq_true rfl, Nat.le_of_ble_eq_true rfl⟩ ⟨Nat.le_of_ble_eq_true rfl, Nat.le_of_ble_eq_true rfl⟩ d_Hb_decide_1 (fun v3 M1 H locs hq2 hP hD hS _ hkp => ?_)
  obtain ⟨ev4, eM5⟩ := hq2
  subst ev4
  rw [eM5] at hP hD
  refine W.eq (g2 := F0 m 4 ls []) rfl ?_
  refine lv_aload_n hx hb d_Hb_decide_4 rfl (lv_at hl 0 rfl) ?_
  refine lv_iload_n hx hb d_Hb_decide_5 rfl (lv_at hl 1 rfl) ?_
  refine hb_callV (rest := []) hX hts hb_gd Y_Hb_find (c_Hb_find_at hE M x la lp nb ra rp ho pa tm Ac Py h hk i q r hi) ml_Hb_79 im_Hb_find se_Hb_find hK fx hC_Hb.1 hz hP hD hS hA rfl hl.1 rfl (Nat.le_of_ble_eq_true rfl) ⟨Nat.le_of_ble_eq_true rfl, Nat.le_of_ble_eq_true rfl⟩ ⟨Nat.le_of_ble_eq_true rfl, Nat.le_of_ble_eq_true rfl⟩ d_Hb_decide_6 (fun v8 M6 H locs hq7 hP hD hS _ hkp => ?_)
  obtain ⟨ev9, eM10⟩ := hq7
  subst ev9
  rw [eM10] at hP hD
  refine W.eq (g2 := F0 m 9 ls [.ref q]) rfl ?_
  refine lv_astore_n (lv' := [(3, .ref q), (0, .ref x), (1, .int r.1), (2, .int w)]) hx hb d_Hb_decide_9 rfl hl (by decide) rfl (fun ls hl => ?_)
  refine lv_aload_n hx hb d_Hb_decide_10 rfl (lv_at hl 0 rfl) ?_
  refine lv_ifnonnull (tgt := 17) hx hb d_Hb_decide_11 (by decide) ?_
  refine lv_aload_n hx hb d_Hb_decide_17 rfl (lv_at hl 0 rfl) ?_
  refine hb_get hx hb hts hown hC_Pay hK hP fq 7 (by decide) rfl fl_Hb_153 rfl d_Hb_decide_18 ?_
  refine lv_iconst (v := 2) hx hb d_Hb_decide_21 (by decide) ?_
  refine lv_icmp_eq (tgt := 28) hx hb d_Hb_decide_22 (by decide) (fun c11 => ?_) (fun c11 => ?_)
  · skip
    refine lv_aload_n hx hb d_Hb_decide_28 rfl (lv_at hl 0 rfl) ?_
    refine lv_iload_n hx hb d_Hb_decide_29 rfl (lv_at hl 3 rfl) ?_
    refine hb_callV (rest := []) hX hts hb_gd Y_Pay_endDispute (c_Pay_endDispute hE M q a an ak.1 ak.2.1 ak.2.2.1 ak.2.2.2.1 ak.2.2.2.2 r.1 r.2.2.1 r.2.2.2.2.2.1 r.2.2.2.2.2.2.1 r.2.2.2.2.2.2.2.1 r.2.2.2.2.2.2.2.2.2 r.2.2.2.1 r.2.2.2.2.1 r.2.2.2.2.2.2.2.2.1 fa fq w) ml_Hb_166 im_Pay_endDispute se_Pay_endDispute hK fq hC_Pay.1 hz hP hD hS hA rfl hl.1 rfl (Nat.le_of_ble_eq_true rfl) ⟨Nat.le_of_ble_eq_true rfl, Nat.le_of_ble_eq_true rfl⟩ ⟨Nat.le_of_ble_eq_true rfl, Nat.le_of_ble_eq_true rfl⟩ d_Hb_decide_30 (fun v14 M12 H locs hq13 hP hD hS _ hkp => ?_)
    obtain ⟨ev18, f15, f16, ho17⟩ := hq13
    subst ev18
    have f19 : M12 x = some (.inr (2, [.int ho, .int pa, .ref la, .ref lp, .ref nb, .int tm])) := ho17.at (hb_n2 (fun q9 => by rw [q9, fa] at fx; cases fx) (fun q9 => by rw [q9, fq] at fx; cases fx)) fx
    have f20 : M12 la = some (.inr (3, [.ref ra, .int (nI Ac.length), .int mda])) := ho17.at (hb_n2 (fun q9 => by rw [q9, fa] at fla; cases fla) (fun q9 => by rw [q9, fq] at fla; cases fla)) fla
    have f21 : M12 lp = some (.inr (3, [.ref rp, .int (nI Py.length), .int mdp])) := ho17.at (hb_n2 (fun q9 => by rw [q9, fa] at flp; cases flp) (fun q9 => by rw [q9, fq] at flp; cases flp)) flp
    refine W.eq (g2 := F0 m 33 ls []) rfl ?_
    refine lv_iconst (v := 1) hx hb d_Hb_decide_33 (by decide) ?_
    exact hb_iret hAe hx hb hr hlocks hP hD hS (Nat.le_of_ble_eq_true rfl) (Nat.le_of_ble_eq_true rfl) (⟨rfl, f15, f16, (hb_off.rf.tr ho17 (by simp))⟩) d_Hb_decide_34
  · skip
    exact absurd hs c11
set_option maxHeartbeats 4000000 in
set_option maxRecDepth 100000 in
theorem c_Hb_clear_no {l : Launch} {s0 : State} {D : va_G} {cI cJ cO : ClassId} {e0 mi : Nat} (hE : hb_E l s0 D cI cJ cO e0 mi) (M : hb_M) (x la lp nb ra rp : Nat) (ho pa tm : Int32) (Ac : List (Nat × hbA)) (Py : List (Nat × hbY)) (h : cR cO e0 M x la lp nb ra rp ho pa tm Ac Py) (hk : cOK Ac Py) (k : Int32) (hno : ∀ (i q : Nat) (r : hbY), Py[i]? = some (q, r) → r.1 ≠ k) (hkk : ¬ k < 0 ∧ ¬ 1000000 < k) (am : Int64) (hm : ¬ am < 1 ∧ ¬ 1000000000000 < am) (mo : Int32) : hb_Met l D hb_cl s0 y_Hb_clear b_Hb_clear 6 (some .long) { frames := 5, cells := 0, slots := 0, locals := 109 } [.ref x, .int k, .long am, .int mo] M (fun v M1 => v = some (.long (-6)) ∧ M1 = M) := by
  refine hb_Met.of (by decide) (Nat.le_of_ble_eq_true rfl) ?_
  intro p e s m below meth c A hAe hX hz hP hD hA hS ls hl
  obtain ⟨hx, hb, hr, hml, hown, hlocks, hnm, hG, hnh⟩ := id hX
  have hown : s.vm.findClass "HoldBook" = some m.cls := hown
  have hts := hE.ts hG ([.ref x, .int k, .long am, .int mo] : List Value).toArray
  have hK := hE.kn hG
  have hl : lv_has ls 6 [(0, .ref x), (1, .int k), (2, .long am), (4, .int mo)] := hl
  have fx := h.1
  obtain ⟨mda, fla⟩ := h.fla
  obtain ⟨mdp, flp⟩ := h.flp
  have hlA := hk.1
  have hlP := hk.2.1
  refine lv_iload_n hx hb d_Hb_clear_0 rfl (lv_at hl 1 rfl) ?_
  refine hb_callS (rest := []) hX hts hb_gd Y_Hb_checkKey (c_Hb_checkKey_ok hE M k hkk) ml_Hb_68 st_Hb_checkKey hz hP hD hS hA rfl hl.1 rfl (Nat.le_of_ble_eq_true rfl) ⟨Nat.le_of_ble_eq_true rfl, Nat.le_of_ble_eq_true rfl⟩ ⟨Nat.le_of_ble_eq_true rfl, Nat.le_of_ble_eq_true rfl⟩ d_Hb_clear_1 (fun v3 M1 H locs hq2 hP hD hS _ hkp => ?_)
  obtain ⟨ev4, eM5⟩ := hq2
  subst ev4
  rw [eM5] at hP hD
  refine W.eq (g2 := F0 m 4 ls []) rfl ?_
  refine lv_lload_n hx hb d_Hb_clear_4 rfl (lv_at hl 2 rfl) ?_
  refine hb_callS (rest := []) hX hts hb_gd Y_Hb_checkAmount (c_Hb_checkAmount_ok hE M am hm) ml_Hb_75 st_Hb_checkAmount hz hP hD hS hA rfl hl.1 rfl (Nat.le_of_ble_eq_true rfl) ⟨Nat.le_of_ble_eq_true rfl, Nat.le_of_ble_eq_true rfl⟩ ⟨Nat.le_of_ble_eq_true rfl, Nat.le_of_ble_eq_true rfl⟩ d_Hb_clear_5 (fun v8 M6 H locs hq7 hP hD hS _ hkp => ?_)
  obtain ⟨ev9, eM10⟩ := hq7
  subst ev9
  rw [eM10] at hP hD
  refine W.eq (g2 := F0 m 8 ls []) rfl ?_
  refine lv_aload_n hx hb d_Hb_clear_8 rfl (lv_at hl 0 rfl) ?_
  refine lv_iload_n hx hb d_Hb_clear_9 rfl (lv_at hl 1 rfl) ?_
  refine hb_callV (rest := []) hX hts hb_gd Y_Hb_find (c_Hb_find_no hE M x la lp nb ra rp ho pa tm Ac Py h hk k hno) ml_Hb_79 im_Hb_find se_Hb_find hK fx hC_Hb.1 hz hP hD hS hA rfl hl.1 rfl (Nat.le_of_ble_eq_true rfl) ⟨Nat.le_of_ble_eq_true rfl, Nat.le_of_ble_eq_true rfl⟩ ⟨Nat.le_of_ble_eq_true rfl, Nat.le_of_ble_eq_true rfl⟩ d_Hb_clear_10 (fun v13 M11 H locs hq12 hP hD hS _ hkp => ?_)
  obtain ⟨ev14, eM15⟩ := hq12
  subst ev14
  rw [eM15] at hP hD
  refine W.eq (g2 := F0 m 13 ls [.null]) rfl ?_
  refine lv_astoreN (lv' := [(5, .null), (0, .ref x), (1, .int k), (2, .long am), (4, .int mo)]) hx hb d_Hb_clear_13 hl (by decide) rfl (fun ls hl => ?_)
  refine lv_aloadN hx hb d_Hb_clear_15 (lv_at hl 0 rfl) ?_
  refine lv_ifnonnullN hx hb d_Hb_clear_17 ?_
  refine lv_ldc2 (v := (-6)) hx hb hown (hts _ kc_Hb_120) d_Hb_clear_20 ?_
  exact hb_lret hAe hx hb hr hlocks hP hD hS (Nat.le_of_ble_eq_true rfl) (Nat.le_of_ble_eq_true rfl) (⟨rfl, rfl⟩) d_Hb_clear_23
set_option maxHeartbeats 4000000 in
set_option maxRecDepth 100000 in
theorem c_Hb_clear_st {l : Launch} {s0 : State} {D : va_G} {cI cJ cO : ClassId} {e0 mi : Nat} (hE : hb_E l s0 D cI cJ cO e0 mi) (M : hb_M) (x la lp nb ra rp : Nat) (ho pa tm : Int32) (Ac : List (Nat × hbA)) (Py : List (Nat × hbY)) (h : cR cO e0 M x la lp nb ra rp ho pa tm Ac Py) (hk : cOK Ac Py) (i q : Nat) (r : hbY) (hi : Py[i]? = some (q, r)) (a : Nat) (an : Int32) (ak : hbA) (hac : hb_acc nb Ac r.2.1 = a) (fa : M a = some (aE an ak)) (hkk : ¬ r.1 < 0 ∧ ¬ 1000000 < r.1) (am : Int64) (hm : ¬ am < 1 ∧ ¬ 1000000000000 < am) (mo : Int32) (hs : r.2.2.1 ≠ 1) : hb_Met l D hb_cl s0 y_Hb_clear b_Hb_clear 6 (some .long) { frames := 5, cells := 0, slots := 0, locals := 109 } [.ref x, .int r.1, .long am, .int mo] M (fun v M1 => v = some (.long (-9)) ∧ M1 = M) := by
  refine hb_Met.of (by decide) (Nat.le_of_ble_eq_true rfl) ?_
  intro p e s m below meth c A hAe hX hz hP hD hA hS ls hl
  obtain ⟨hx, hb, hr, hml, hown, hlocks, hnm, hG, hnh⟩ := id hX
  have hown : s.vm.findClass "HoldBook" = some m.cls := hown
  have hts := hE.ts hG ([.ref x, .int r.1, .long am, .int mo] : List Value).toArray
  have hK := hE.kn hG
  have hl : lv_has ls 6 [(0, .ref x), (1, .int r.1), (2, .long am), (4, .int mo)] := hl
  have fx := h.1
  obtain ⟨mda, fla⟩ := h.fla
  obtain ⟨mdp, flp⟩ := h.flp
  have hlA := hk.1
  have hlP := hk.2.1
  have fq : M q = some (pE a r) := by have h9 := h.py hi; rw [hac] at h9; exact h9
  refine lv_iload_n hx hb d_Hb_clear_0 rfl (lv_at hl 1 rfl) ?_
  refine hb_callS (rest := []) hX hts hb_gd Y_Hb_checkKey (c_Hb_checkKey_ok hE M r.1 hkk) ml_Hb_68 st_Hb_checkKey hz hP hD hS hA rfl hl.1 rfl (Nat.le_of_ble_eq_true rfl) ⟨Nat.le_of_ble_eq_true rfl, Nat.le_of_ble_eq_true rfl⟩ ⟨Nat.le_of_ble_eq_true rfl, Nat.le_of_ble_eq_true rfl⟩ d_Hb_clear_1 (fun v3 M1 H locs hq2 hP hD hS _ hkp => ?_)
  obtain ⟨ev4, eM5⟩ := hq2
  subst ev4
  rw [eM5] at hP hD
  refine W.eq (g2 := F0 m 4 ls []) rfl ?_
  refine lv_lload_n hx hb d_Hb_clear_4 rfl (lv_at hl 2 rfl) ?_
  refine hb_callS (rest := []) hX hts hb_gd Y_Hb_checkAmount (c_Hb_checkAmount_ok hE M am hm) ml_Hb_75 st_Hb_checkAmount hz hP hD hS hA rfl hl.1 rfl (Nat.le_of_ble_eq_true rfl) ⟨Nat.le_of_ble_eq_true rfl, Nat.le_of_ble_eq_true rfl⟩ ⟨Nat.le_of_ble_eq_true rfl, Nat.le_of_ble_eq_true rfl⟩ d_Hb_clear_5 (fun v8 M6 H locs hq7 hP hD hS _ hkp => ?_)
  obtain ⟨ev9, eM10⟩ := hq7
  subst ev9
  rw [eM10] at hP hD
  refine W.eq (g2 := F0 m 8 ls []) rfl ?_
  refine lv_aload_n hx hb d_Hb_clear_8 rfl (lv_at hl 0 rfl) ?_
  refine lv_iload_n hx hb d_Hb_clear_9 rfl (lv_at hl 1 rfl) ?_
  refine hb_callV (rest := []) hX hts hb_gd Y_Hb_find (c_Hb_find_at hE M x la lp nb ra rp ho pa tm Ac Py h hk i q r hi) ml_Hb_79 im_Hb_find se_Hb_find hK fx hC_Hb.1 hz hP hD hS hA rfl hl.1 rfl (Nat.le_of_ble_eq_true rfl) ⟨Nat.le_of_ble_eq_true rfl, Nat.le_of_ble_eq_true rfl⟩ ⟨Nat.le_of_ble_eq_true rfl, Nat.le_of_ble_eq_true rfl⟩ d_Hb_clear_10 (fun v13 M11 H locs hq12 hP hD hS _ hkp => ?_)
  obtain ⟨ev14, eM15⟩ := hq12
  subst ev14
  rw [eM15] at hP hD
  refine W.eq (g2 := F0 m 13 ls [.ref q]) rfl ?_
  refine lv_astore (lv' := [(5, .ref q), (0, .ref x), (1, .int r.1), (2, .long am), (4, .int mo)]) hx hb d_Hb_clear_13 hl (by decide) rfl (fun ls hl => ?_)
  refine lv_aload hx hb d_Hb_clear_15 (lv_at hl 0 rfl) ?_
  refine lv_ifnonnull (tgt := 24) hx hb d_Hb_clear_17 (by decide) ?_
  refine lv_aload hx hb d_Hb_clear_24 (lv_at hl 0 rfl) ?_
  refine hb_get hx hb hts hown hC_Pay hK hP fq 2 (by decide) rfl fl_Hb_122 rfl d_Hb_clear_26 ?_
  refine lv_iconst (v := 1) hx hb d_Hb_clear_29 (by decide) ?_
  refine lv_icmp_eq (tgt := 37) hx hb d_Hb_clear_30 (by decide) (fun c16 => ?_) (fun c16 => ?_)
  · skip
    exact absurd c16 hs
  · skip
    refine lv_ldc2 (v := (-9)) hx hb hown (hts _ kc_Hb_125) d_Hb_clear_33 ?_
    exact hb_lret hAe hx hb hr hlocks hP hD hS (Nat.le_of_ble_eq_true rfl) (Nat.le_of_ble_eq_true rfl) (⟨rfl, rfl⟩) d_Hb_clear_36
set_option maxHeartbeats 4000000 in
set_option maxRecDepth 100000 in
theorem c_Hb_clear_mu {l : Launch} {s0 : State} {D : va_G} {cI cJ cO : ClassId} {e0 mi : Nat} (hE : hb_E l s0 D cI cJ cO e0 mi) (M : hb_M) (x la lp nb ra rp : Nat) (ho pa tm : Int32) (Ac : List (Nat × hbA)) (Py : List (Nat × hbY)) (h : cR cO e0 M x la lp nb ra rp ho pa tm Ac Py) (hk : cOK Ac Py) (i q : Nat) (r : hbY) (hi : Py[i]? = some (q, r)) (a : Nat) (an : Int32) (ak : hbA) (hac : hb_acc nb Ac r.2.1 = a) (fa : M a = some (aE an ak)) (hkk : ¬ r.1 < 0 ∧ ¬ 1000000 < r.1) (am : Int64) (hm : ¬ am < 1 ∧ ¬ 1000000000000 < am) (mo : Int32) (hs : r.2.2.1 = 1) (hmu : r.2.2.2.1 < am) : hb_Met l D hb_cl s0 y_Hb_clear b_Hb_clear 6 (some .long) { frames := 5, cells := 0, slots := 0, locals := 109 } [.ref x, .int r.1, .long am, .int mo] M (fun v M1 => v = some (.long (-11)) ∧ M1 = M) := by
  refine hb_Met.of (by decide) (Nat.le_of_ble_eq_true rfl) ?_
  intro p e s m below meth c A hAe hX hz hP hD hA hS ls hl
  obtain ⟨hx, hb, hr, hml, hown, hlocks, hnm, hG, hnh⟩ := id hX
  have hown : s.vm.findClass "HoldBook" = some m.cls := hown
  have hts := hE.ts hG ([.ref x, .int r.1, .long am, .int mo] : List Value).toArray
  have hK := hE.kn hG
  have hl : lv_has ls 6 [(0, .ref x), (1, .int r.1), (2, .long am), (4, .int mo)] := hl
  have fx := h.1
  obtain ⟨mda, fla⟩ := h.fla
  obtain ⟨mdp, flp⟩ := h.flp
  have hlA := hk.1
  have hlP := hk.2.1
  have fq : M q = some (pE a r) := by have h9 := h.py hi; rw [hac] at h9; exact h9
  refine lv_iload_n hx hb d_Hb_clear_0 rfl (lv_at hl 1 rfl) ?_
  refine hb_callS (rest := []) hX hts hb_gd Y_Hb_checkKey (c_Hb_checkKey_ok hE M r.1 hkk) ml_Hb_68 st_Hb_checkKey hz hP hD hS hA rfl hl.1 rfl (Nat.le_of_ble_eq_true rfl) ⟨Nat.le_of_ble_eq_true rfl, Nat.le_of_ble_eq_true rfl⟩ ⟨Nat.le_of_ble_eq_true rfl, Nat.le_of_ble_eq_true rfl⟩ d_Hb_clear_1 (fun v3 M1 H locs hq2 hP hD hS _ hkp => ?_)
  obtain ⟨ev4, eM5⟩ := hq2
  subst ev4
  rw [eM5] at hP hD
  refine W.eq (g2 := F0 m 4 ls []) rfl ?_
  refine lv_lload_n hx hb d_Hb_clear_4 rfl (lv_at hl 2 rfl) ?_
  refine hb_callS (rest := []) hX hts hb_gd Y_Hb_checkAmount (c_Hb_checkAmount_ok hE M am hm) ml_Hb_75 st_Hb_checkAmount hz hP hD hS hA rfl hl.1 rfl (Nat.le_of_ble_eq_true rfl) ⟨Nat.le_of_ble_eq_true rfl, Nat.le_of_ble_eq_true rfl⟩ ⟨Nat.le_of_ble_eq_true rfl, Nat.le_of_ble_eq_true rfl⟩ d_Hb_clear_5 (fun v8 M6 H locs hq7 hP hD hS _ hkp => ?_)
  obtain ⟨ev9, eM10⟩ := hq7
  subst ev9
  rw [eM10] at hP hD
  refine W.eq (g2 := F0 m 8 ls []) rfl ?_
  refine lv_aload_n hx hb d_Hb_clear_8 rfl (lv_at hl 0 rfl) ?_
  refine lv_iload_n hx hb d_Hb_clear_9 rfl (lv_at hl 1 rfl) ?_
  refine hb_callV (rest := []) hX hts hb_gd Y_Hb_find (c_Hb_find_at hE M x la lp nb ra rp ho pa tm Ac Py h hk i q r hi) ml_Hb_79 im_Hb_find se_Hb_find hK fx hC_Hb.1 hz hP hD hS hA rfl hl.1 rfl (Nat.le_of_ble_eq_true rfl) ⟨Nat.le_of_ble_eq_true rfl, Nat.le_of_ble_eq_true rfl⟩ ⟨Nat.le_of_ble_eq_true rfl, Nat.le_of_ble_eq_true rfl⟩ d_Hb_clear_10 (fun v13 M11 H locs hq12 hP hD hS _ hkp => ?_)
  obtain ⟨ev14, eM15⟩ := hq12
  subst ev14
  rw [eM15] at hP hD
  refine W.eq (g2 := F0 m 13 ls [.ref q]) rfl ?_
  refine lv_astore (lv' := [(5, .ref q), (0, .ref x), (1, .int r.1), (2, .long am), (4, .int mo)]) hx hb d_Hb_clear_13 hl (by decide) rfl (fun ls hl => ?_)
  refine lv_aload hx hb d_Hb_clear_15 (lv_at hl 0 rfl) ?_
  refine lv_ifnonnull (tgt := 24) hx hb d_Hb_clear_17 (by decide) ?_
  refine lv_aload hx hb d_Hb_clear_24 (lv_at hl 0 rfl) ?_
  refine hb_get hx hb hts hown hC_Pay hK hP fq 2 (by decide) rfl fl_Hb_122 rfl d_Hb_clear_26 ?_
  refine lv_iconst (v := 1) hx hb d_Hb_clear_29 (by decide) ?_
  refine lv_icmp_eq (tgt := 37) hx hb d_Hb_clear_30 (by decide) (fun c16 => ?_) (fun c16 => ?_)
  · skip
    refine lv_lload_n hx hb d_Hb_clear_37 rfl (lv_at hl 3 rfl) ?_
    refine lv_aload hx hb d_Hb_clear_38 (lv_at hl 0 rfl) ?_
    refine hb_get hx hb hts hown hC_Pay hK hP fq 3 (by decide) rfl fl_Hb_116 rfl d_Hb_clear_40 ?_
    refine hb_lc_le (tgt := 51) hx hb d_Hb_clear_43 d_Hb_clear_44 (by decide) (fun c17 => ?_) (fun c17 => ?_)
    · skip
      have c17n := hb_ngt c17
      exact absurd hmu (hb_ngt c17)
    · skip
      have c17n := hb_gt c17
      refine lv_ldc2 (v := (-11)) hx hb hown (hts _ kc_Hb_127) d_Hb_clear_47 ?_
      exact hb_lret hAe hx hb hr hlocks hP hD hS (Nat.le_of_ble_eq_true rfl) (Nat.le_of_ble_eq_true rfl) (⟨rfl, rfl⟩) d_Hb_clear_50
  · skip
    exact absurd hs c16
set_option maxHeartbeats 4000000 in
set_option maxRecDepth 100000 in
theorem c_Hb_clear_part {l : Launch} {s0 : State} {D : va_G} {cI cJ cO : ClassId} {e0 mi : Nat} (hE : hb_E l s0 D cI cJ cO e0 mi) (M : hb_M) (x la lp nb ra rp : Nat) (ho pa tm : Int32) (Ac : List (Nat × hbA)) (Py : List (Nat × hbY)) (h : cR cO e0 M x la lp nb ra rp ho pa tm Ac Py) (hk : cOK Ac Py) (i q : Nat) (r : hbY) (hi : Py[i]? = some (q, r)) (a : Nat) (an : Int32) (ak : hbA) (hac : hb_acc nb Ac r.2.1 = a) (fa : M a = some (aE an ak)) (hkk : ¬ r.1 < 0 ∧ ¬ 1000000 < r.1) (am : Int64) (hm : ¬ am < 1 ∧ ¬ 1000000000000 < am) (mo : Int32) (hs : r.2.2.1 = 1) (hmu : ¬ r.2.2.2.1 < am) (hmo : mo ≠ 0) (hle : r.2.2.2.1 - am ≠ 0) : hb_Met l D hb_cl s0 y_Hb_clear b_Hb_clear 6 (some .long) { frames := 5, cells := 0, slots := 0, locals := 109 } [.ref x, .int r.1, .long am, .int mo] M (fun v M1 => v = some (.long (r.2.2.2.1 - am)) ∧ M1 a = some (.inr (0, [.int an, .long ak.1, .long ak.2.1, .long (ak.2.2.1 - am), .long (ak.2.2.2.1 + ((r.2.2.2.1 - am) - r.2.2.2.1)), .long ak.2.2.2.2])) ∧ M1 q = some (.inr (1, [.int r.1, .ref a, .int r.2.2.1, .long (r.2.2.2.1 - am), .long (r.2.2.2.2.1 + am), .int r.2.2.2.2.2.1, .int r.2.2.2.2.2.2.1, .int r.2.2.2.2.2.2.2.1, .long r.2.2.2.2.2.2.2.2.1, .int r.2.2.2.2.2.2.2.2.2])) ∧ hb_off [a, q] M M1) := by
  refine hb_Met.of (by decide) (Nat.le_of_ble_eq_true rfl) ?_
  intro p e s m below meth c A hAe hX hz hP hD hA hS ls hl
  obtain ⟨hx, hb, hr, hml, hown, hlocks, hnm, hG, hnh⟩ := id hX
  have hown : s.vm.findClass "HoldBook" = some m.cls := hown
  have hts := hE.ts hG ([.ref x, .int r.1, .long am, .int mo] : List Value).toArray
  have hK := hE.kn hG
  have hl : lv_has ls 6 [(0, .ref x), (1, .int r.1), (2, .long am), (4, .int mo)] := hl
  have fx := h.1
  obtain ⟨mda, fla⟩ := h.fla
  obtain ⟨mdp, flp⟩ := h.flp
  have hlA := hk.1
  have hlP := hk.2.1
  have fq : M q = some (pE a r) := by have h9 := h.py hi; rw [hac] at h9; exact h9
  refine lv_iload_n hx hb d_Hb_clear_0 rfl (lv_at hl 1 rfl) ?_
  refine hb_callS (rest := []) hX hts hb_gd Y_Hb_checkKey (c_Hb_checkKey_ok hE M r.1 hkk) ml_Hb_68 st_Hb_checkKey hz hP hD hS hA rfl hl.1 rfl (Nat.le_of_ble_eq_true rfl) ⟨Nat.le_of_ble_eq_true rfl, Nat.le_of_ble_eq_true rfl⟩ ⟨Nat.le_of_ble_eq_true rfl, Nat.le_of_ble_eq_true rfl⟩ d_Hb_clear_1 (fun v3 M1 H locs hq2 hP hD hS _ hkp => ?_)
  obtain ⟨ev4, eM5⟩ := hq2
  subst ev4
  rw [eM5] at hP hD
  refine W.eq (g2 := F0 m 4 ls []) rfl ?_
  refine lv_lload_n hx hb d_Hb_clear_4 rfl (lv_at hl 2 rfl) ?_
  refine hb_callS (rest := []) hX hts hb_gd Y_Hb_checkAmount (c_Hb_checkAmount_ok hE M am hm) ml_Hb_75 st_Hb_checkAmount hz hP hD hS hA rfl hl.1 rfl (Nat.le_of_ble_eq_true rfl) ⟨Nat.le_of_ble_eq_true rfl, Nat.le_of_ble_eq_true rfl⟩ ⟨Nat.le_of_ble_eq_true rfl, Nat.le_of_ble_eq_true rfl⟩ d_Hb_clear_5 (fun v8 M6 H locs hq7 hP hD hS _ hkp => ?_)
  obtain ⟨ev9, eM10⟩ := hq7
  subst ev9
  rw [eM10] at hP hD
  refine W.eq (g2 := F0 m 8 ls []) rfl ?_
  refine lv_aload_n hx hb d_Hb_clear_8 rfl (lv_at hl 0 rfl) ?_
  refine lv_iload_n hx hb d_Hb_clear_9 rfl (lv_at hl 1 rfl) ?_
  refine hb_callV (rest := []) hX hts hb_gd Y_Hb_find (c_Hb_find_at hE M x la lp nb ra rp ho pa tm Ac Py h hk i q r hi) ml_Hb_79 im_Hb_find se_Hb_find hK fx hC_Hb.1 hz hP hD hS hA rfl hl.1 rfl (Nat.le_of_ble_eq_true rfl) ⟨Nat.le_of_ble_eq_true rfl, Nat.le_of_ble_eq_true rfl⟩ ⟨Nat.le_of_ble_eq_true rfl, Nat.le_of_ble_eq_true rfl⟩ d_Hb_clear_10 (fun v13 M11 H locs hq12 hP hD hS _ hkp => ?_)
  obtain ⟨ev14, eM15⟩ := hq12
  subst ev14
  rw [eM15] at hP hD
  refine W.eq (g2 := F0 m 13 ls [.ref q]) rfl ?_
  refine lv_astore (lv' := [(5, .ref q), (0, .ref x), (1, .int r.1), (2, .long am), (4, .int mo)]) hx hb d_Hb_clear_13 hl (by decide) rfl (fun ls hl => ?_)
  refine lv_aload hx hb d_Hb_clear_15 (lv_at hl 0 rfl) ?_
  refine lv_ifnonnull (tgt := 24) hx hb d_Hb_clear_17 (by decide) ?_
  refine lv_aload hx hb d_Hb_clear_24 (lv_at hl 0 rfl) ?_
  refine hb_get hx hb hts hown hC_Pay hK hP fq 2 (by decide) rfl fl_Hb_122 rfl d_Hb_clear_26 ?_
  refine lv_iconst (v := 1) hx hb d_Hb_clear_29 (by decide) ?_
  refine lv_icmp_eq (tgt := 37) hx hb d_Hb_clear_30 (by decide) (fun c16 => ?_) (fun c16 => ?_)
  · skip
    refine lv_lload_n hx hb d_Hb_clear_37 rfl (lv_at hl 3 rfl) ?_
    refine lv_aload hx hb d_Hb_clear_38 (lv_at hl 0 rfl) ?_
    refine hb_get hx hb hts hown hC_Pay hK hP fq 3 (by decide) rfl fl_Hb_116 rfl d_Hb_clear_40 ?_
    refine hb_lc_le (tgt := 51) hx hb d_Hb_clear_43 d_Hb_clear_44 (by decide) (fun c17 => ?_) (fun c17 => ?_)
    · skip
      have c17n := hb_ngt c17
      refine lv_aload hx hb d_Hb_clear_51 (lv_at hl 0 rfl) ?_
      refine lv_lload_n hx hb d_Hb_clear_53 rfl (lv_at hl 3 rfl) ?_
      refine hb_callV (rest := []) hX hts hb_gd Y_Pay_take (c_Pay_take hE M q a an ak.1 ak.2.1 ak.2.2.1 ak.2.2.2.1 ak.2.2.2.2 r.1 r.2.2.1 r.2.2.2.2.2.1 r.2.2.2.2.2.2.1 r.2.2.2.2.2.2.2.1 r.2.2.2.2.2.2.2.2.2 r.2.2.2.1 r.2.2.2.2.1 r.2.2.2.2.2.2.2.2.1 fa fq am) ml_Hb_129 im_Pay_take se_Pay_take hK fq hC_Pay.1 hz hP hD hS hA rfl hl.1 rfl (Nat.le_of_ble_eq_true rfl) ⟨Nat.le_of_ble_eq_true rfl, Nat.le_of_ble_eq_true rfl⟩ ⟨Nat.le_of_ble_eq_true rfl, Nat.le_of_ble_eq_true rfl⟩ d_Hb_clear_54 (fun v20 M18 H locs hq19 hP hD hS _ hkp => ?_)
      obtain ⟨ev24, f21, f22, ho23⟩ := hq19
      subst ev24
      have f25 : M18 x = some (.inr (2, [.int ho, .int pa, .ref la, .ref lp, .ref nb, .int tm])) := ho23.at (hb_n2 (fun q9 => by rw [q9, fa] at fx; cases fx) (fun q9 => by rw [q9, fq] at fx; cases fx)) fx
      have f26 : M18 la = some (.inr (3, [.ref ra, .int (nI Ac.length), .int mda])) := ho23.at (hb_n2 (fun q9 => by rw [q9, fa] at fla; cases fla) (fun q9 => by rw [q9, fq] at fla; cases fla)) fla
      have f27 : M18 lp = some (.inr (3, [.ref rp, .int (nI Py.length), .int mdp])) := ho23.at (hb_n2 (fun q9 => by rw [q9, fa] at flp; cases flp) (fun q9 => by rw [q9, fq] at flp; cases flp)) flp
      refine W.eq (g2 := F0 m 57 ls []) rfl ?_
      refine lv_iload hx hb d_Hb_clear_57 (lv_at hl 4 rfl) ?_
      refine lv_if_eq (tgt := 72) hx hb d_Hb_clear_59 (by decide) (fun c28 => ?_) (fun c28 => ?_)
      · skip
        exact absurd c28 hmo
      · skip
        refine lv_aload hx hb d_Hb_clear_62 (lv_at hl 0 rfl) ?_
        refine hb_get hx hb hts hown hC_Pay hK hP f22 3 (by decide) rfl fl_Hb_116 rfl d_Hb_clear_64 ?_
        refine lv_lconst (v := 0) hx hb d_Hb_clear_67 (by decide) ?_
        refine hb_lc_ne (tgt := 81) hx hb d_Hb_clear_68 d_Hb_clear_69 (by decide) (fun c29 => ?_) (fun c29 => ?_)
        · skip
          refine lv_aload hx hb d_Hb_clear_81 (lv_at hl 0 rfl) ?_
          refine hb_get hx hb hts hown hC_Pay hK hP f22 3 (by decide) rfl fl_Hb_116 rfl d_Hb_clear_83 ?_
          exact hb_lret hAe hx hb hr hlocks hP hD hS (Nat.le_of_ble_eq_true rfl) (Nat.le_of_ble_eq_true rfl) (⟨rfl, f21, f22, (hb_off.rf.tr ho23 (by simp))⟩) d_Hb_clear_86
        · skip
          exact absurd c29 hle
    · skip
      have c17n := hb_gt c17
      exact absurd (hb_gt c17) hmu
  · skip
    exact absurd hs c16
set_option maxHeartbeats 4000000 in
set_option maxRecDepth 100000 in
theorem c_Hb_clear_end {l : Launch} {s0 : State} {D : va_G} {cI cJ cO : ClassId} {e0 mi : Nat} (hE : hb_E l s0 D cI cJ cO e0 mi) (M : hb_M) (x la lp nb ra rp : Nat) (ho pa tm : Int32) (Ac : List (Nat × hbA)) (Py : List (Nat × hbY)) (h : cR cO e0 M x la lp nb ra rp ho pa tm Ac Py) (hk : cOK Ac Py) (i q : Nat) (r : hbY) (hi : Py[i]? = some (q, r)) (a : Nat) (an : Int32) (ak : hbA) (hac : hb_acc nb Ac r.2.1 = a) (fa : M a = some (aE an ak)) (hkk : ¬ r.1 < 0 ∧ ¬ 1000000 < r.1) (am : Int64) (hm : ¬ am < 1 ∧ ¬ 1000000000000 < am) (mo : Int32) (hs : r.2.2.1 = 1) (hmu : ¬ r.2.2.2.1 < am) (hfi : mo = 0 ∨ r.2.2.2.1 - am = 0) : hb_Met l D hb_cl s0 y_Hb_clear b_Hb_clear 6 (some .long) { frames := 5, cells := 0, slots := 0, locals := 109 } [.ref x, .int r.1, .long am, .int mo] M (fun v M1 => v = some (.long 0) ∧ M1 a = some (.inr (0, [.int an, .long ak.1, .long ak.2.1, .long (ak.2.2.1 - am), .long ((ak.2.2.2.1 + ((r.2.2.2.1 - am) - r.2.2.2.1)) + (0 - (r.2.2.2.1 - am))), .long ak.2.2.2.2])) ∧ M1 q = some (.inr (1, [.int r.1, .ref a, .int (if 0 < (r.2.2.2.2.1 + am) then 3 else 2), .long 0, .long (r.2.2.2.2.1 + am), .int 0, .int (if 0 < (r.2.2.2.2.1 + am) then tm else r.2.2.2.2.2.2.1), .int r.2.2.2.2.2.2.2.1, .long r.2.2.2.2.2.2.2.2.1, .int r.2.2.2.2.2.2.2.2.2])) ∧ hb_off [a, q] M M1) := by
  refine hb_Met.of (by decide) (Nat.le_of_ble_eq_true rfl) ?_
  intro p e s m below meth c A hAe hX hz hP hD hA hS ls hl
  obtain ⟨hx, hb, hr, hml, hown, hlocks, hnm, hG, hnh⟩ := id hX
  have hown : s.vm.findClass "HoldBook" = some m.cls := hown
  have hts := hE.ts hG ([.ref x, .int r.1, .long am, .int mo] : List Value).toArray
  have hK := hE.kn hG
  have hl : lv_has ls 6 [(0, .ref x), (1, .int r.1), (2, .long am), (4, .int mo)] := hl
  have fx := h.1
  obtain ⟨mda, fla⟩ := h.fla
  obtain ⟨mdp, flp⟩ := h.flp
  have hlA := hk.1
  have hlP := hk.2.1
  have fq : M q = some (pE a r) := by have h9 := h.py hi; rw [hac] at h9; exact h9
  refine lv_iload_n hx hb d_Hb_clear_0 rfl (lv_at hl 1 rfl) ?_
  refine hb_callS (rest := []) hX hts hb_gd Y_Hb_checkKey (c_Hb_checkKey_ok hE M r.1 hkk) ml_Hb_68 st_Hb_checkKey hz hP hD hS hA rfl hl.1 rfl (Nat.le_of_ble_eq_true rfl) ⟨Nat.le_of_ble_eq_true rfl, Nat.le_of_ble_eq_true rfl⟩ ⟨Nat.le_of_ble_eq_true rfl, Nat.le_of_ble_eq_true rfl⟩ d_Hb_clear_1 (fun v3 M1 H locs hq2 hP hD hS _ hkp => ?_)
  obtain ⟨ev4, eM5⟩ := hq2
  subst ev4
  rw [eM5] at hP hD
  refine W.eq (g2 := F0 m 4 ls []) rfl ?_
  refine lv_lload_n hx hb d_Hb_clear_4 rfl (lv_at hl 2 rfl) ?_
  refine hb_callS (rest := []) hX hts hb_gd Y_Hb_checkAmount (c_Hb_checkAmount_ok hE M am hm) ml_Hb_75 st_Hb_checkAmount hz hP hD hS hA rfl hl.1 rfl (Nat.le_of_ble_eq_true rfl) ⟨Nat.le_of_ble_eq_true rfl, Nat.le_of_ble_eq_true rfl⟩ ⟨Nat.le_of_ble_eq_true rfl, Nat.le_of_ble_eq_true rfl⟩ d_Hb_clear_5 (fun v8 M6 H locs hq7 hP hD hS _ hkp => ?_)
  obtain ⟨ev9, eM10⟩ := hq7
  subst ev9
  rw [eM10] at hP hD
  refine W.eq (g2 := F0 m 8 ls []) rfl ?_
  refine lv_aload_n hx hb d_Hb_clear_8 rfl (lv_at hl 0 rfl) ?_
  refine lv_iload_n hx hb d_Hb_clear_9 rfl (lv_at hl 1 rfl) ?_
  refine hb_callV (rest := []) hX hts hb_gd Y_Hb_find (c_Hb_find_at hE M x la lp nb ra rp ho pa tm Ac Py h hk i q r hi) ml_Hb_79 im_Hb_find se_Hb_find hK fx hC_Hb.1 hz hP hD hS hA rfl hl.1 rfl (Nat.le_of_ble_eq_true rfl) ⟨Nat.le_of_ble_eq_true rfl, Nat.le_of_ble_eq_true rfl⟩ ⟨Nat.le_of_ble_eq_true rfl, Nat.le_of_ble_eq_true rfl⟩ d_Hb_clear_10 (fun v13 M11 H locs hq12 hP hD hS _ hkp => ?_)
  obtain ⟨ev14, eM15⟩ := hq12
  subst ev14
  rw [eM15] at hP hD
  refine W.eq (g2 := F0 m 13 ls [.ref q]) rfl ?_
  refine lv_astore (lv' := [(5, .ref q), (0, .ref x), (1, .int r.1), (2, .long am), (4, .int mo)]) hx hb d_Hb_clear_13 hl (by decide) rfl (fun ls hl => ?_)
  refine lv_aload hx hb d_Hb_clear_15 (lv_at hl 0 rfl) ?_
  refine lv_ifnonnull (tgt := 24) hx hb d_Hb_clear_17 (by decide) ?_
  refine lv_aload hx hb d_Hb_clear_24 (lv_at hl 0 rfl) ?_
  refine hb_get hx hb hts hown hC_Pay hK hP fq 2 (by decide) rfl fl_Hb_122 rfl d_Hb_clear_26 ?_
  refine lv_iconst (v := 1) hx hb d_Hb_clear_29 (by decide) ?_
  refine lv_icmp_eq (tgt := 37) hx hb d_Hb_clear_30 (by decide) (fun c16 => ?_) (fun c16 => ?_)
  · skip
    refine lv_lload_n hx hb d_Hb_clear_37 rfl (lv_at hl 3 rfl) ?_
    refine lv_aload hx hb d_Hb_clear_38 (lv_at hl 0 rfl) ?_
    refine hb_get hx hb hts hown hC_Pay hK hP fq 3 (by decide) rfl fl_Hb_116 rfl d_Hb_clear_40 ?_
    refine hb_lc_le (tgt := 51) hx hb d_Hb_clear_43 d_Hb_clear_44 (by decide) (fun c17 => ?_) (fun c17 => ?_)
    · skip
      have c17n := hb_ngt c17
      refine lv_aload hx hb d_Hb_clear_51 (lv_at hl 0 rfl) ?_
      refine lv_lload_n hx hb d_Hb_clear_53 rfl (lv_at hl 3 rfl) ?_
      refine hb_callV (rest := []) hX hts hb_gd Y_Pay_take (c_Pay_take hE M q a an ak.1 ak.2.1 ak.2.2.1 ak.2.2.2.1 ak.2.2.2.2 r.1 r.2.2.1 r.2.2.2.2.2.1 r.2.2.2.2.2.2.1 r.2.2.2.2.2.2.2.1 r.2.2.2.2.2.2.2.2.2 r.2.2.2.1 r.2.2.2.2.1 r.2.2.2.2.2.2.2.2.1 fa fq am) ml_Hb_129 im_Pay_take se_Pay_take hK fq hC_Pay.1 hz hP hD hS hA rfl hl.1 rfl (Nat.le_of_ble_eq_true rfl) ⟨Nat.le_of_ble_eq_true rfl, Nat.le_of_ble_eq_true rfl⟩ ⟨Nat.le_of_ble_eq_true rfl, Nat.le_of_ble_eq_true rfl⟩ d_Hb_clear_54 (fun v20 M18 H locs hq19 hP hD hS _ hkp => ?_)
      obtain ⟨ev24, f21, f22, ho23⟩ := hq19
      subst ev24
      have f25 : M18 x = some (.inr (2, [.int ho, .int pa, .ref la, .ref lp, .ref nb, .int tm])) := ho23.at (hb_n2 (fun q9 => by rw [q9, fa] at fx; cases fx) (fun q9 => by rw [q9, fq] at fx; cases fx)) fx
      have f26 : M18 la = some (.inr (3, [.ref ra, .int (nI Ac.length), .int mda])) := ho23.at (hb_n2 (fun q9 => by rw [q9, fa] at fla; cases fla) (fun q9 => by rw [q9, fq] at fla; cases fla)) fla
      have f27 : M18 lp = some (.inr (3, [.ref rp, .int (nI Py.length), .int mdp])) := ho23.at (hb_n2 (fun q9 => by rw [q9, fa] at flp; cases flp) (fun q9 => by rw [q9, fq] at flp; cases flp)) flp
      refine W.eq (g2 := F0 m 57 ls []) rfl ?_
      refine lv_iload hx hb d_Hb_clear_57 (lv_at hl 4 rfl) ?_
      refine lv_if_eq (tgt := 72) hx hb d_Hb_clear_59 (by decide) (fun c28 => ?_) (fun c28 => ?_)
      · skip
        refine lv_aload hx hb d_Hb_clear_72 (lv_at hl 0 rfl) ?_
        refine lv_aload_n hx hb d_Hb_clear_74 rfl (lv_at hl 1 rfl) ?_
        refine hb_get hx hb hts hown hC_Hb hK hP f25 5 (by decide) rfl fl_Hb_28 rfl d_Hb_clear_75 ?_
        refine hb_callV (rest := []) hX hts hb_gd Y_Pay_endHold (c_Pay_endHold hE M18 q a an ak.1 ak.2.1 (ak.2.2.1 - am) (ak.2.2.2.1 + ((r.2.2.2.1 - am) - r.2.2.2.1)) ak.2.2.2.2 r.1 r.2.2.1 r.2.2.2.2.2.1 r.2.2.2.2.2.2.1 r.2.2.2.2.2.2.2.1 r.2.2.2.2.2.2.2.2.2 (r.2.2.2.1 - am) (r.2.2.2.2.1 + am) r.2.2.2.2.2.2.2.2.1 f21 f22 tm) ml_Hb_132 im_Pay_endHold se_Pay_endHold hK f22 hC_Pay.1 hz hP hD hS hA rfl hl.1 rfl (Nat.le_of_ble_eq_true rfl) ⟨Nat.le_of_ble_eq_true rfl, Nat.le_of_ble_eq_true rfl⟩ ⟨Nat.le_of_ble_eq_true rfl, Nat.le_of_ble_eq_true rfl⟩ d_Hb_clear_78 (fun v31 M29 H locs hq30 hP hD hS _ hkp => ?_)
        obtain ⟨ev35, f32, f33, ho34⟩ := hq30
        subst ev35
        have f36 : M29 x = some (.inr (2, [.int ho, .int pa, .ref la, .ref lp, .ref nb, .int tm])) := ho34.at (hb_n2 (fun q9 => by rw [q9, f21] at f25; cases f25) (fun q9 => by rw [q9, f22] at f25; cases f25)) f25
        have f37 : M29 la = some (.inr (3, [.ref ra, .int (nI Ac.length), .int mda])) := ho34.at (hb_n2 (fun q9 => by rw [q9, f21] at f26; cases f26) (fun q9 => by rw [q9, f22] at f26; cases f26)) f26
        have f38 : M29 lp = some (.inr (3, [.ref rp, .int (nI Py.length), .int mdp])) := ho34.at (hb_n2 (fun q9 => by rw [q9, f21] at f27; cases f27) (fun q9 => by rw [q9, f22] at f27; cases f27)) f27
        refine W.eq (g2 := F0 m 81 ls []) rfl ?_
        refine lv_aload hx hb d_Hb_clear_81 (lv_at hl 0 rfl) ?_
        refine hb_get hx hb hts hown hC_Pay hK hP f33 3 (by decide) rfl fl_Hb_116 rfl d_Hb_clear_83 ?_
        exact hb_lret hAe hx hb hr hlocks hP hD hS (Nat.le_of_ble_eq_true rfl) (Nat.le_of_ble_eq_true rfl) (⟨rfl, f32, f33, ((hb_off.rf.tr ho23 (by simp)).tr ho34 (by simp))⟩) d_Hb_clear_86
      · skip
        refine lv_aload hx hb d_Hb_clear_62 (lv_at hl 0 rfl) ?_
        refine hb_get hx hb hts hown hC_Pay hK hP f22 3 (by decide) rfl fl_Hb_116 rfl d_Hb_clear_64 ?_
        refine lv_lconst (v := 0) hx hb d_Hb_clear_67 (by decide) ?_
        refine hb_lc_ne (tgt := 81) hx hb d_Hb_clear_68 d_Hb_clear_69 (by decide) (fun c39 => ?_) (fun c39 => ?_)
        · skip
          exact absurd hfi (by intro z; rcases z with z | z; exact absurd z (by assumption); exact absurd z c39)
        · skip
          refine lv_aload hx hb d_Hb_clear_72 (lv_at hl 0 rfl) ?_
          refine lv_aload_n hx hb d_Hb_clear_74 rfl (lv_at hl 1 rfl) ?_
          refine hb_get hx hb hts hown hC_Hb hK hP f25 5 (by decide) rfl fl_Hb_28 rfl d_Hb_clear_75 ?_
          refine hb_callV (rest := []) hX hts hb_gd Y_Pay_endHold (c_Pay_endHold hE M18 q a an ak.1 ak.2.1 (ak.2.2.1 - am) (ak.2.2.2.1 + ((r.2.2.2.1 - am) - r.2.2.2.1)) ak.2.2.2.2 r.1 r.2.2.1 r.2.2.2.2.2.1 r.2.2.2.2.2.2.1 r.2.2.2.2.2.2.2.1 r.2.2.2.2.2.2.2.2.2 (r.2.2.2.1 - am) (r.2.2.2.2.1 + am) r.2.2.2.2.2.2.2.2.1 f21 f22 tm) ml_Hb_132 im_Pay_endHold se_Pay_endHold hK f22 hC_Pay.1 hz hP hD hS hA rfl hl.1 rfl (Nat.le_of_ble_eq_true rfl) ⟨Nat.le_of_ble_eq_true rfl, Nat.le_of_ble_eq_true rfl⟩ ⟨Nat.le_of_ble_eq_true rfl, Nat.le_of_ble_eq_true rfl⟩ d_Hb_clear_78 (fun v42 M40 H locs hq41 hP hD hS _ hkp => ?_)
          obtain ⟨ev46, f43, f44, ho45⟩ := hq41
          subst ev46
          have f47 : M40 x = some (.inr (2, [.int ho, .int pa, .ref la, .ref lp, .ref nb, .int tm])) := ho45.at (hb_n2 (fun q9 => by rw [q9, f21] at f25; cases f25) (fun q9 => by rw [q9, f22] at f25; cases f25)) f25
          have f48 : M40 la = some (.inr (3, [.ref ra, .int (nI Ac.length), .int mda])) := ho45.at (hb_n2 (fun q9 => by rw [q9, f21] at f26; cases f26) (fun q9 => by rw [q9, f22] at f26; cases f26)) f26
          have f49 : M40 lp = some (.inr (3, [.ref rp, .int (nI Py.length), .int mdp])) := ho45.at (hb_n2 (fun q9 => by rw [q9, f21] at f27; cases f27) (fun q9 => by rw [q9, f22] at f27; cases f27)) f27
          refine W.eq (g2 := F0 m 81 ls []) rfl ?_
          refine lv_aload hx hb d_Hb_clear_81 (lv_at hl 0 rfl) ?_
          refine hb_get hx hb hts hown hC_Pay hK hP f44 3 (by decide) rfl fl_Hb_116 rfl d_Hb_clear_83 ?_
          exact hb_lret hAe hx hb hr hlocks hP hD hS (Nat.le_of_ble_eq_true rfl) (Nat.le_of_ble_eq_true rfl) (⟨rfl, f43, f44, ((hb_off.rf.tr ho23 (by simp)).tr ho45 (by simp))⟩) d_Hb_clear_86
    · skip
      have c17n := hb_gt c17
      exact absurd (hb_gt c17) hmu
  · skip
    exact absurd hs c16
