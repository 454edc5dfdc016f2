/-! HOLDBOOK: ask, account; calls out of bounds -/
set_option maxHeartbeats 4000000 in
set_option maxRecDepth 100000 in
theorem c_Hb_ask_dbl {l : Launch} {s0 : State} {D : va_G} {cI cJ cO : ClassId} {e0 mi : Nat} (hE : hb_E l s0 D cI cJ cO e0 mi) (M : hb_M) (x la lp nb ra rp : Nat) (ho pa tm : Int32) (Ac : List (Nat × hbA)) (Py : List (Nat × hbY)) (h : cR cO e0 M x la lp nb ra rp ho pa tm Ac Py) (hk : cOK Ac Py) (i q : Nat) (r : hbY) (hi : Py[i]? = some (q, r)) (hkk : ¬ r.1 < 0 ∧ ¬ 1000000 < r.1) (ka a : Nat) (rk : hbA) (hka0 : Ac[ka]? = some (a, rk)) (am : Int64) (hm : ¬ am < 1 ∧ ¬ 1000000000000 < am) (pt9 : Int32) : hb_Met l D hb_cl s0 y_Hb_ask b_Hb_ask 10 (some .long) { frames := 9, cells := 2, slots := 120, locals := 252 } [.ref x, .int r.1, .int (nI ka), .long am, .int pt9] M (fun v M1 => v = some (.long (-8)) ∧ M1 = M) := by
  refine hb_Met.of (by decide) (Nat.le_of_ble_eq_true rfl) ?_
  intro p e s m below meth c A hAe hX hz hP hD hA hS ls hl
  obtain ⟨hx, hb, hr, hml, hown, hlocks, hnm, hG, hnh⟩ := id hX
  have hown : s.vm.findClass "HoldBook" = some m.cls := hown
  have hts := hE.ts hG ([.ref x, .int r.1, .int (nI ka), .long am, .int pt9] : List Value).toArray
  have hK := hE.kn hG
  have hl : lv_has ls 10 [(0, .ref x), (1, .int r.1), (2, .int (nI ka)), (3, .long am), (5, .int pt9)] := hl
  have fx := h.1
  obtain ⟨mda, fla⟩ := h.fla
  obtain ⟨mdp, flp⟩ := h.flp
  have hlA := hk.1
  have hlP := hk.2.1
  have hka := (List.getElem?_eq_some_iff.mp hka0).1
  refine lv_iload_n hx hb d_Hb_ask_0 rfl (lv_at hl 1 rfl) ?_
  refine hb_callS (rest := []) hX hts hb_gd Y_Hb_checkKey (c_Hb_checkKey_ok hE M r.1 hkk) ml_Hb_68 st_Hb_checkKey hz hP hD hS hA rfl hl.1 rfl (Nat.le_of_ble_eq_true rfl) ⟨Nat.le_of_ble_eq_true rfl, Nat.le_of_ble_eq_true rfl⟩ ⟨Nat.le_of_ble_eq_true rfl, Nat.le_of_ble_eq_true rfl⟩ d_Hb_ask_1 (fun v3 M1 H locs hq2 hP hD hS _ hkp => ?_)
  obtain ⟨ev4, eM5⟩ := hq2
  subst ev4
  rw [eM5] at hP hD
  refine W.eq (g2 := F0 m 4 ls []) rfl ?_
  refine lv_aload_n hx hb d_Hb_ask_4 rfl (lv_at hl 0 rfl) ?_
  refine lv_iload_n hx hb d_Hb_ask_5 rfl (lv_at hl 2 rfl) ?_
  refine hb_callV (rest := []) hX hts hb_gd Y_Hb_checkAccount (c_Hb_checkAccount_ok hE M x la lp nb ra rp ho pa tm Ac Py h hk ka hka) ml_Hb_72 im_Hb_checkAccount se_Hb_checkAccount hK fx hC_Hb.1 hz hP hD hS hA rfl hl.1 rfl (Nat.le_of_ble_eq_true rfl) ⟨Nat.le_of_ble_eq_true rfl, Nat.le_of_ble_eq_true rfl⟩ ⟨Nat.le_of_ble_eq_true rfl, Nat.le_of_ble_eq_true rfl⟩ d_Hb_ask_6 (fun v8 M6 H locs hq7 hP hD hS _ hkp => ?_)
  obtain ⟨ev9, eM10⟩ := hq7
  subst ev9
  rw [eM10] at hP hD
  refine W.eq (g2 := F0 m 9 ls []) rfl ?_
  refine lv_lload_n hx hb d_Hb_ask_9 rfl (lv_at hl 3 rfl) ?_
  refine hb_callS (rest := []) hX hts hb_gd Y_Hb_checkAmount (c_Hb_checkAmount_ok hE M am hm) ml_Hb_75 st_Hb_checkAmount hz hP hD hS hA rfl hl.1 rfl (Nat.le_of_ble_eq_true rfl) ⟨Nat.le_of_ble_eq_true rfl, Nat.le_of_ble_eq_true rfl⟩ ⟨Nat.le_of_ble_eq_true rfl, Nat.le_of_ble_eq_true rfl⟩ d_Hb_ask_10 (fun v13 M11 H locs hq12 hP hD hS _ hkp => ?_)
  obtain ⟨ev14, eM15⟩ := hq12
  subst ev14
  rw [eM15] at hP hD
  refine W.eq (g2 := F0 m 13 ls []) rfl ?_
  refine lv_aload_n hx hb d_Hb_ask_13 rfl (lv_at hl 0 rfl) ?_
  refine lv_iload_n hx hb d_Hb_ask_14 rfl (lv_at hl 1 rfl) ?_
  refine hb_callV (rest := []) hX hts hb_gd Y_Hb_find (c_Hb_find_at hE M x la lp nb ra rp ho pa tm Ac Py h hk i q r hi) ml_Hb_79 im_Hb_find se_Hb_find hK fx hC_Hb.1 hz hP hD hS hA rfl hl.1 rfl (Nat.le_of_ble_eq_true rfl) ⟨Nat.le_of_ble_eq_true rfl, Nat.le_of_ble_eq_true rfl⟩ ⟨Nat.le_of_ble_eq_true rfl, Nat.le_of_ble_eq_true rfl⟩ d_Hb_ask_15 (fun v18 M16 H locs hq17 hP hD hS _ hkp => ?_)
  obtain ⟨ev19, eM20⟩ := hq17
  subst ev19
  rw [eM20] at hP hD
  refine W.eq (g2 := F0 m 18 ls [.ref q]) rfl ?_
  refine lv_ifnull hx hb d_Hb_ask_18 ?_
  refine lv_ldc2 (v := (-8)) hx hb hown (hts _ kc_Hb_83) d_Hb_ask_21 ?_
  exact hb_lret hAe hx hb hr hlocks hP hD hS (Nat.le_of_ble_eq_true rfl) (Nat.le_of_ble_eq_true rfl) (⟨rfl, rfl⟩) d_Hb_ask_24
set_option maxHeartbeats 4000000 in
set_option maxRecDepth 100000 in
theorem c_Hb_ask_full {l : Launch} {s0 : State} {D : va_G} {cI cJ cO : ClassId} {e0 mi : Nat} (hE : hb_E l s0 D cI cJ cO e0 mi) (M : hb_M) (x la lp nb ra rp : Nat) (ho pa tm : Int32) (Ac : List (Nat × hbA)) (Py : List (Nat × hbY)) (h : cR cO e0 M x la lp nb ra rp ho pa tm Ac Py) (hk : cOK Ac Py) (k : Int32) (hno : ∀ (i q : Nat) (r : hbY), Py[i]? = some (q, r) → r.1 ≠ k) (hkk : ¬ k < 0 ∧ ¬ 1000000 < k) (ka a : Nat) (rk : hbA) (hka0 : Ac[ka]? = some (a, rk)) (am : Int64) (hm : ¬ am < 1 ∧ ¬ 1000000000000 < am) (pt9 : Int32) (hfu : 60 ≤ Py.length) : hb_Met l D hb_cl s0 y_Hb_ask b_Hb_ask 10 (some .long) { frames := 9, cells := 2, slots := 120, locals := 252 } [.ref x, .int k, .int (nI ka), .long am, .int pt9] M (fun v M1 => v = some (.long (-2)) ∧ M1 = M) := by
  refine hb_Met.of (by decide) (Nat.le_of_ble_eq_true rfl) ?_
  intro p e s m below meth c A hAe hX hz hP hD hA hS ls hl
  obtain ⟨hx, hb, hr, hml, hown, hlocks, hnm, hG, hnh⟩ := id hX
  have hown : s.vm.findClass "HoldBook" = some m.cls := hown
  have hts := hE.ts hG ([.ref x, .int k, .int (nI ka), .long am, .int pt9] : List Value).toArray
  have hK := hE.kn hG
  have hl : lv_has ls 10 [(0, .ref x), (1, .int k), (2, .int (nI ka)), (3, .long am), (5, .int pt9)] := hl
  have fx := h.1
  obtain ⟨mda, fla⟩ := h.fla
  obtain ⟨mdp, flp⟩ := h.flp
  have hlA := hk.1
  have hlP := hk.2.1
  have hka := (List.getElem?_eq_some_iff.mp hka0).1
  refine lv_iload_n hx hb d_Hb_ask_0 rfl (lv_at hl 1 rfl) ?_
  refine hb_callS (rest := []) hX hts hb_gd Y_Hb_checkKey (c_Hb_checkKey_ok hE M k hkk) ml_Hb_68 st_Hb_checkKey hz hP hD hS hA rfl hl.1 rfl (Nat.le_of_ble_eq_true rfl) ⟨Nat.le_of_ble_eq_true rfl, Nat.le_of_ble_eq_true rfl⟩ ⟨Nat.le_of_ble_eq_true rfl, Nat.le_of_ble_eq_true rfl⟩ d_Hb_ask_1 (fun v3 M1 H locs hq2 hP hD hS _ hkp => ?_)
  obtain ⟨ev4, eM5⟩ := hq2
  subst ev4
  rw [eM5] at hP hD
  refine W.eq (g2 := F0 m 4 ls []) rfl ?_
  refine lv_aload_n hx hb d_Hb_ask_4 rfl (lv_at hl 0 rfl) ?_
  refine lv_iload_n hx hb d_Hb_ask_5 rfl (lv_at hl 2 rfl) ?_
  refine hb_callV (rest := []) hX hts hb_gd Y_Hb_checkAccount (c_Hb_checkAccount_ok hE M x la lp nb ra rp ho pa tm Ac Py h hk ka hka) ml_Hb_72 im_Hb_checkAccount se_Hb_checkAccount hK fx hC_Hb.1 hz hP hD hS hA rfl hl.1 rfl (Nat.le_of_ble_eq_true rfl) ⟨Nat.le_of_ble_eq_true rfl, Nat.le_of_ble_eq_true rfl⟩ ⟨Nat.le_of_ble_eq_true rfl, Nat.le_of_ble_eq_true rfl⟩ d_Hb_ask_6 (fun v8 M6 H locs hq7 hP hD hS _ hkp => ?_)
  obtain ⟨ev9, eM10⟩ := hq7
  subst ev9
  rw [eM10] at hP hD
  refine W.eq (g2 := F0 m 9 ls []) rfl ?_
  refine lv_lload_n hx hb d_Hb_ask_9 rfl (lv_at hl 3 rfl) ?_
  refine hb_callS (rest := []) hX hts hb_gd Y_Hb_checkAmount (c_Hb_checkAmount_ok hE M am hm) ml_Hb_75 st_Hb_checkAmount hz hP hD hS hA rfl hl.1 rfl (Nat.le_of_ble_eq_true rfl) ⟨Nat.le_of_ble_eq_true rfl, Nat.le_of_ble_eq_true rfl⟩ ⟨Nat.le_of_ble_eq_true rfl, Nat.le_of_ble_eq_true rfl⟩ d_Hb_ask_10 (fun v13 M11 H locs hq12 hP hD hS _ hkp => ?_)
  obtain ⟨ev14, eM15⟩ := hq12
  subst ev14
  rw [eM15] at hP hD
  refine W.eq (g2 := F0 m 13 ls []) rfl ?_
  refine lv_aload_n hx hb d_Hb_ask_13 rfl (lv_at hl 0 rfl) ?_
  refine lv_iload_n hx hb d_Hb_ask_14 rfl (lv_at hl 1 rfl) ?_
  refine hb_callV (rest := []) hX hts hb_gd Y_Hb_find (c_Hb_find_no hE M x la lp nb ra rp ho pa tm Ac Py h hk k hno) ml_Hb_79 im_Hb_find se_Hb_find hK fx hC_Hb.1 hz hP hD hS hA rfl hl.1 rfl (Nat.le_of_ble_eq_true rfl) ⟨Nat.le_of_ble_eq_true rfl, Nat.le_of_ble_eq_true rfl⟩ ⟨Nat.le_of_ble_eq_true rfl, Nat.le_of_ble_eq_true rfl⟩ d_Hb_ask_15 (fun v18 M16 H locs hq17 hP hD hS _ hkp => ?_)
  obtain ⟨ev19, eM20⟩ := hq17
  subst ev19
  rw [eM20] at hP hD
  refine W.eq (g2 := F0 m 18 ls [.null]) rfl ?_
  refine lv_ifnullN (tgt := 25) hx hb d_Hb_ask_18 (by decide) ?_
  refine lv_aload_n hx hb d_Hb_ask_25 rfl (lv_at hl 0 rfl) ?_
  refine hb_get hx hb hts hown hC_Hb hK hP fx 3 (by decide) rfl fl_Hb_16 rfl d_Hb_ask_26 ?_
  refine hb_callV (rest := []) hX hts hb_gd Y_Al_size (c_py_size hE h) ml_Hb_55 im_Al_size se_Al_size hK flp hC_Al.1 hz hP hD hS hA rfl hl.1 rfl (Nat.le_of_ble_eq_true rfl) ⟨Nat.le_of_ble_eq_true rfl, Nat.le_of_ble_eq_true rfl⟩ ⟨Nat.le_of_ble_eq_true rfl, Nat.le_of_ble_eq_true rfl⟩ d_Hb_ask_29 (fun v23 M21 H locs hq22 hP hD hS _ hkp => ?_)
  obtain ⟨ev24, eM25⟩ := hq22
  subst ev24
  rw [eM25] at hP hD
  refine W.eq (g2 := F0 m 32 ls [.int (nI Py.length)]) rfl ?_
  refine lv_bipush (v := 60) hx hb d_Hb_ask_32 (by decide) ?_
  refine lv_icmp_lt (tgt := 41) hx hb d_Hb_ask_34 (by decide) (fun c26 => ?_) (fun c26 => ?_)
  · skip
    exact absurd c26 (nI_nlt (b := 60) hfu (by omega))
  · skip
    refine lv_ldc2 (v := (-2)) hx hb hown (hts _ kc_Hb_85) d_Hb_ask_37 ?_
    exact hb_lret hAe hx hb hr hlocks hP hD hS (Nat.le_of_ble_eq_true rfl) (Nat.le_of_ble_eq_true rfl) (⟨rfl, rfl⟩) d_Hb_ask_40
set_option maxHeartbeats 4000000 in
set_option maxRecDepth 100000 in
theorem c_Hb_ask_poor {l : Launch} {s0 : State} {D : va_G} {cI cJ cO : ClassId} {e0 mi : Nat} (hE : hb_E l s0 D cI cJ cO e0 mi) (M : hb_M) (x la lp nb ra rp : Nat) (ho pa tm : Int32) (Ac : List (Nat × hbA)) (Py : List (Nat × hbY)) (h : cR cO e0 M x la lp nb ra rp ho pa tm Ac Py) (hk : cOK Ac Py) (k : Int32) (hno : ∀ (i q : Nat) (r : hbY), Py[i]? = some (q, r) → r.1 ≠ k) (hkk : ¬ k < 0 ∧ ¬ 1000000 < k) (ka a : Nat) (rk : hbA) (hka0 : Ac[ka]? = some (a, rk)) (am : Int64) (hm : ¬ am < 1 ∧ ¬ 1000000000000 < am) (pt9 : Int32) (hl9 : Py.length < 60) (hpo : ¬ am ≤ rk.2.2.1 - rk.1 - rk.2.2.2.1 - rk.2.2.2.2) (hpp : pt9 = 0 ∨ ¬ 0 < rk.2.2.1 - rk.1 - rk.2.2.2.1 - rk.2.2.2.2) : hb_Met l D hb_cl s0 y_Hb_ask b_Hb_ask 10 (some .long) { frames := 9, cells := 2, slots := 120, locals := 252 } [.ref x, .int k, .int (nI ka), .long am, .int pt9] M (fun v M1 => v = some (.long (-12)) ∧ M1 = M) := by
  refine hb_Met.of (by decide) (Nat.le_of_ble_eq_true rfl) ?_
  intro p e s m below meth c A hAe hX hz hP hD hA hS ls hl
  obtain ⟨hx, hb, hr, hml, hown, hlocks, hnm, hG, hnh⟩ := id hX
  have hown : s.vm.findClass "HoldBook" = some m.cls := hown
  have hts := hE.ts hG ([.ref x, .int k, .int (nI ka), .long am, .int pt9] : List Value).toArray
  have hK := hE.kn hG
  have hl : lv_has ls 10 [(0, .ref x), (1, .int k), (2, .int (nI ka)), (3, .long am), (5, .int pt9)] := hl
  have fx := h.1
  obtain ⟨mda, fla⟩ := h.fla
  obtain ⟨mdp, flp⟩ := h.flp
  have hlA := hk.1
  have hlP := hk.2.1
  have hka := (List.getElem?_eq_some_iff.mp hka0).1
  refine lv_iload_n hx hb d_Hb_ask_0 rfl (lv_at hl 1 rfl) ?_
  refine hb_callS (rest := []) hX hts hb_gd Y_Hb_checkKey (c_Hb_checkKey_ok hE M k hkk) ml_Hb_68 st_Hb_checkKey hz hP hD hS hA rfl hl.1 rfl (Nat.le_of_ble_eq_true rfl) ⟨Nat.le_of_ble_eq_true rfl, Nat.le_of_ble_eq_true rfl⟩ ⟨Nat.le_of_ble_eq_true rfl, Nat.le_of_ble_eq_true rfl⟩ d_Hb_ask_1 (fun v3 M1 H locs hq2 hP hD hS _ hkp => ?_)
  obtain ⟨ev4, eM5⟩ := hq2
  subst ev4
  rw [eM5] at hP hD
  refine W.eq (g2 := F0 m 4 ls []) rfl ?_
  refine lv_aload_n hx hb d_Hb_ask_4 rfl (lv_at hl 0 rfl) ?_
  refine lv_iload_n hx hb d_Hb_ask_5 rfl (lv_at hl 2 rfl) ?_
  refine hb_callV (rest := []) hX hts hb_gd Y_Hb_checkAccount (c_Hb_checkAccount_ok hE M x la lp nb ra rp ho pa tm Ac Py h hk ka hka) ml_Hb_72 im_Hb_checkAccount se_Hb_checkAccount hK fx hC_Hb.1 hz hP hD hS hA rfl hl.1 rfl (Nat.le_of_ble_eq_true rfl) ⟨Nat.le_of_ble_eq_true rfl, Nat.le_of_ble_eq_true rfl⟩ ⟨Nat.le_of_ble_eq_true rfl, Nat.le_of_ble_eq_true rfl⟩ d_Hb_ask_6 (fun v8 M6 H locs hq7 hP hD hS _ hkp => ?_)
  obtain ⟨ev9, eM10⟩ := hq7
  subst ev9
  rw [eM10] at hP hD
  refine W.eq (g2 := F0 m 9 ls []) rfl ?_
  refine lv_lload_n hx hb d_Hb_ask_9 rfl (lv_at hl 3 rfl) ?_
  refine hb_callS (rest := []) hX hts hb_gd Y_Hb_checkAmount (c_Hb_checkAmount_ok hE M am hm) ml_Hb_75 st_Hb_checkAmount hz hP hD hS hA rfl hl.1 rfl (Nat.le_of_ble_eq_true rfl) ⟨Nat.le_of_ble_eq_true rfl, Nat.le_of_ble_eq_true rfl⟩ ⟨Nat.le_of_ble_eq_true rfl, Nat.le_of_ble_eq_true rfl⟩ d_Hb_ask_10 (fun v13 M11 H locs hq12 hP hD hS _ hkp => ?_)
  obtain ⟨ev14, eM15⟩ := hq12
  subst ev14
  rw [eM15] at hP hD
  refine W.eq (g2 := F0 m 13 ls []) rfl ?_
  refine lv_aload_n hx hb d_Hb_ask_13 rfl (lv_at hl 0 rfl) ?_
  refine lv_iload_n hx hb d_Hb_ask_14 rfl (lv_at hl 1 rfl) ?_
  refine hb_callV (rest := []) hX hts hb_gd Y_Hb_find (c_Hb_find_no hE M x la lp nb ra rp ho pa tm Ac Py h hk k hno) ml_Hb_79 im_Hb_find se_Hb_find hK fx hC_Hb.1 hz hP hD hS hA rfl hl.1 rfl (Nat.le_of_ble_eq_true rfl) ⟨Nat.le_of_ble_eq_true rfl, Nat.le_of_ble_eq_true rfl⟩ ⟨Nat.le_of_ble_eq_true rfl, Nat.le_of_ble_eq_true rfl⟩ d_Hb_ask_15 (fun v18 M16 H locs hq17 hP hD hS _ hkp => ?_)
  obtain ⟨ev19, eM20⟩ := hq17
  subst ev19
  rw [eM20] at hP hD
  refine W.eq (g2 := F0 m 18 ls [.null]) rfl ?_
  refine lv_ifnullN (tgt := 25) hx hb d_Hb_ask_18 (by decide) ?_
  refine lv_aload_n hx hb d_Hb_ask_25 rfl (lv_at hl 0 rfl) ?_
  refine hb_get hx hb hts hown hC_Hb hK hP fx 3 (by decide) rfl fl_Hb_16 rfl d_Hb_ask_26 ?_
  refine hb_callV (rest := []) hX hts hb_gd Y_Al_size (c_py_size hE h) ml_Hb_55 im_Al_size se_Al_size hK flp hC_Al.1 hz hP hD hS hA rfl hl.1 rfl (Nat.le_of_ble_eq_true rfl) ⟨Nat.le_of_ble_eq_true rfl, Nat.le_of_ble_eq_true rfl⟩ ⟨Nat.le_of_ble_eq_true rfl, Nat.le_of_ble_eq_true rfl⟩ d_Hb_ask_29 (fun v23 M21 H locs hq22 hP hD hS _ hkp => ?_)
  obtain ⟨ev24, eM25⟩ := hq22
  subst ev24
  rw [eM25] at hP hD
  refine W.eq (g2 := F0 m 32 ls [.int (nI Py.length)]) rfl ?_
  refine lv_bipush (v := 60) hx hb d_Hb_ask_32 (by decide) ?_
  refine lv_icmp_lt (tgt := 41) hx hb d_Hb_ask_34 (by decide) (fun c26 => ?_) (fun c26 => ?_)
  · skip
    refine lv_aload_n hx hb d_Hb_ask_41 rfl (lv_at hl 0 rfl) ?_
    refine hb_get hx hb hts hown hC_Hb hK hP fx 2 (by decide) rfl fl_Hb_10 rfl d_Hb_ask_42 ?_
    refine lv_iload_n hx hb d_Hb_ask_45 rfl (lv_at hl 2 rfl) ?_
    refine hb_callV (rest := []) hX hts hb_gd Y_Al_get (c_ac_get hE h hka0) ml_Hb_87 im_Al_get se_Al_get hK fla hC_Al.1 hz hP hD hS hA rfl hl.1 rfl (Nat.le_of_ble_eq_true rfl) ⟨Nat.le_of_ble_eq_true rfl, Nat.le_of_ble_eq_true rfl⟩ ⟨Nat.le_of_ble_eq_true rfl, Nat.le_of_ble_eq_true rfl⟩ d_Hb_ask_46 (fun v29 M27 H locs hq28 hP hD hS _ hkp => ?_)
    obtain ⟨ev30, eM31⟩ := hq28
    subst ev30
    rw [eM31] at hP hD
    have fa := h.ac hka0
    refine W.eq (g2 := F0 m 49 ls [.ref a]) rfl ?_
    refine va_castS hx hb hown (hts _ kl_Hb_19) (hK.1 0 _ rfl).2 (va_recv hK (hP.one fa) (ci := 0) (q0 := 0) rfl rfl) d_Hb_ask_49 ?_
    refine lv_astore (lv' := [(6, .ref a), (0, .ref x), (1, .int k), (2, .int (nI ka)), (3, .long am), (5, .int pt9)]) hx hb d_Hb_ask_52 hl (by decide) rfl (fun ls hl => ?_)
    refine lv_aload hx hb d_Hb_ask_54 (lv_at hl 0 rfl) ?_
    refine hb_callV (rest := []) hX hts hb_gd Y_Acc_free (c_Acc_free hE M a (nI ka) rk.1 rk.2.1 rk.2.2.1 rk.2.2.2.1 rk.2.2.2.2 fa) ml_Hb_91 im_Acc_free se_Acc_free hK fa hC_Acc.1 hz hP hD hS hA rfl hl.1 rfl (Nat.le_of_ble_eq_true rfl) ⟨Nat.le_of_ble_eq_true rfl, Nat.le_of_ble_eq_true rfl⟩ ⟨Nat.le_of_ble_eq_true rfl, Nat.le_of_ble_eq_true rfl⟩ d_Hb_ask_56 (fun v34 M32 H locs hq33 hP hD hS _ hkp => ?_)
    obtain ⟨ev35, eM36⟩ := hq33
    subst ev35
    rw [eM36] at hP hD
    refine W.eq (g2 := F0 m 59 ls [.long (rk.2.2.1 - rk.1 - rk.2.2.2.1 - rk.2.2.2.2)]) rfl ?_
    refine lv_lstore (lv' := [(7, .long (rk.2.2.1 - rk.1 - rk.2.2.2.1 - rk.2.2.2.2)), (6, .ref a), (0, .ref x), (1, .int k), (2, .int (nI ka)), (3, .long am), (5, .int pt9)]) hx hb d_Hb_ask_59 hl (by decide) rfl (fun ls hl => ?_)
    refine lv_lload_n hx hb d_Hb_ask_61 rfl (lv_at hl 5 rfl) ?_
    refine lv_lload hx hb d_Hb_ask_62 (lv_at hl 0 rfl) ?_
    refine hb_lc_le (tgt := 84) hx hb d_Hb_ask_64 d_Hb_ask_65 (by decide) (fun c37 => ?_) (fun c37 => ?_)
    · skip
      have c37n := hb_ngt c37
      exact absurd c37 hpo
    · skip
      have c37n := hb_gt c37
      refine lv_iload hx hb d_Hb_ask_68 (lv_at hl 6 rfl) ?_
      refine lv_if_eq (tgt := 80) hx hb d_Hb_ask_70 (by decide) (fun c38 => ?_) (fun c38 => ?_)
      · skip
        refine lv_ldc2 (v := (-12)) hx hb hown (hts _ kc_Hb_95) d_Hb_ask_80 ?_
        exact hb_lret hAe hx hb hr hlocks hP hD hS (Nat.le_of_ble_eq_true rfl) (Nat.le_of_ble_eq_true rfl) (⟨rfl, rfl⟩) d_Hb_ask_83
      · skip
        refine lv_lload hx hb d_Hb_ask_73 (lv_at hl 0 rfl) ?_
        refine lv_lconst (v := 0) hx hb d_Hb_ask_75 (by decide) ?_
        refine hb_lc_gt (tgt := 84) hx hb d_Hb_ask_76 d_Hb_ask_77 (by decide) (fun c39 => ?_) (fun c39 => ?_)
        · skip
          exact absurd hpp (by intro z; rcases z with z | z; exact absurd z (by assumption); exact absurd c39 z)
        · skip
          refine lv_ldc2 (v := (-12)) hx hb hown (hts _ kc_Hb_95) d_Hb_ask_80 ?_
          exact hb_lret hAe hx hb hr hlocks hP hD hS (Nat.le_of_ble_eq_true rfl) (Nat.le_of_ble_eq_true rfl) (⟨rfl, rfl⟩) d_Hb_ask_83
  · skip
    exact absurd (nI_lt (b := 60) hl9 (by omega)) c26
set_option maxHeartbeats 4000000 in
set_option maxRecDepth 100000 in
theorem c_Hb_ask_ok {l : Launch} {s0 : State} {D : va_G} {cI cJ cO : ClassId} {e0 mi : Nat} (hE : hb_E l s0 D cI cJ cO e0 mi) (M : hb_M) (x la lp nb ra rp : Nat) (ho pa tm : Int32) (Ac : List (Nat × hbA)) (Py : List (Nat × hbY)) (h : cR cO e0 M x la lp nb ra rp ho pa tm Ac Py) (hk : cOK Ac Py) (k : Int32) (hno : ∀ (i q : Nat) (r : hbY), Py[i]? = some (q, r) → r.1 ≠ k) (hkk : ¬ k < 0 ∧ ¬ 1000000 < k) (ka a : Nat) (rk : hbA) (hka0 : Ac[ka]? = some (a, rk)) (am : Int64) (hm : ¬ am < 1 ∧ ¬ 1000000000000 < am) (pt9 : Int32) (hl9 : Py.length < 60) (hok : am ≤ rk.2.2.1 - rk.1 - rk.2.2.2.1 - rk.2.2.2.2 ∨ (pt9 ≠ 0 ∧ 0 < rk.2.2.1 - rk.1 - rk.2.2.2.1 - rk.2.2.2.2)) : hb_Met l D hb_cl s0 y_Hb_ask b_Hb_ask 10 (some .long) { frames := 9, cells := 2, slots := 120, locals := 252 } [.ref x, .int k, .int (nI ka), .long am, .int pt9] M (fun v M1 => v = some (.long (if rk.2.2.1 - rk.1 - rk.2.2.2.1 - rk.2.2.2.2 < am then rk.2.2.1 - rk.1 - rk.2.2.2.1 - rk.2.2.2.2 else am)) ∧ ∃ p0 rp1, cR cO e0 M1 x la lp nb ra rp1 ho pa tm (Ac.set ka (a, ((rk.1, rk.2.1, rk.2.2.1, rk.2.2.2.1 + ((if rk.2.2.1 - rk.1 - rk.2.2.2.1 - rk.2.2.2.2 < am then rk.2.2.1 - rk.1 - rk.2.2.2.1 - rk.2.2.2.2 else am) - 0), rk.2.2.2.2) : hbA))) (Py.insertIdx (hb_pos Py k) (p0, ((k, nI ka, 1, (if rk.2.2.1 - rk.1 - rk.2.2.2.1 - rk.2.2.2.2 < am then rk.2.2.1 - rk.1 - rk.2.2.2.1 - rk.2.2.2.2 else am), 0, tm + ho, -1, 0, 0, -1) : hbY)))) := by
  refine hb_Met.of (by decide) (Nat.le_of_ble_eq_true rfl) ?_
  intro p e s m below meth c A hAe hX hz hP hD hA hS ls hl
  obtain ⟨hx, hb, hr, hml, hown, hlocks, hnm, hG, hnh⟩ := id hX
  have hown : s.vm.findClass "HoldBook" = some m.cls := hown
  have hts := hE.ts hG ([.ref x, .int k, .int (nI ka), .long am, .int pt9] : List Value).toArray
  have hK := hE.kn hG
  have hl : lv_has ls 10 [(0, .ref x), (1, .int k), (2, .int (nI ka)), (3, .long am), (5, .int pt9)] := hl
  have fx := h.1
  obtain ⟨mda, fla⟩ := h.fla
  obtain ⟨mdp, flp⟩ := h.flp
  have hlA := hk.1
  have hlP := hk.2.1
  have hka := (List.getElem?_eq_some_iff.mp hka0).1
  refine lv_iload_n hx hb d_Hb_ask_0 rfl (lv_at hl 1 rfl) ?_
  refine hb_callS (rest := []) hX hts hb_gd Y_Hb_checkKey (c_Hb_checkKey_ok hE M k hkk) ml_Hb_68 st_Hb_checkKey hz hP hD hS hA rfl hl.1 rfl (Nat.le_of_ble_eq_true rfl) ⟨Nat.le_of_ble_eq_true rfl, Nat.le_of_ble_eq_true rfl⟩ ⟨Nat.le_of_ble_eq_true rfl, Nat.le_of_ble_eq_true rfl⟩ d_Hb_ask_1 (fun v3 M1 H locs hq2 hP hD hS _ hkp => ?_)
  obtain ⟨ev4, eM5⟩ := hq2
  subst ev4
  rw [eM5] at hP hD
  refine W.eq (g2 := F0 m 4 ls []) rfl ?_
  refine lv_aload_n hx hb d_Hb_ask_4 rfl (lv_at hl 0 rfl) ?_
  refine lv_iload_n hx hb d_Hb_ask_5 rfl (lv_at hl 2 rfl) ?_
  refine hb_callV (rest := []) hX hts hb_gd Y_Hb_checkAccount (c_Hb_checkAccount_ok hE M x la lp nb ra rp ho pa tm Ac Py h hk ka hka) ml_Hb_72 im_Hb_checkAccount se_Hb_checkAccount hK fx hC_Hb.1 hz hP hD hS hA rfl hl.1 rfl (Nat.le_of_ble_eq_true rfl) ⟨Nat.le_of_ble_eq_true rfl, Nat.le_of_ble_eq_true rfl⟩ ⟨Nat.le_of_ble_eq_true rfl, Nat.le_of_ble_eq_true rfl⟩ d_Hb_ask_6 (fun v8 M6 H locs hq7 hP hD hS _ hkp => ?_)
  obtain ⟨ev9, eM10⟩ := hq7
  subst ev9
  rw [eM10] at hP hD
  refine W.eq (g2 := F0 m 9 ls []) rfl ?_
  refine lv_lload_n hx hb d_Hb_ask_9 rfl (lv_at hl 3 rfl) ?_
  refine hb_callS (rest := []) hX hts hb_gd Y_Hb_checkAmount (c_Hb_checkAmount_ok hE M am hm) ml_Hb_75 st_Hb_checkAmount hz hP hD hS hA rfl hl.1 rfl (Nat.le_of_ble_eq_true rfl) ⟨Nat.le_of_ble_eq_true rfl, Nat.le_of_ble_eq_true rfl⟩ ⟨Nat.le_of_ble_eq_true rfl, Nat.le_of_ble_eq_true rfl⟩ d_Hb_ask_10 (fun v13 M11 H locs hq12 hP hD hS _ hkp => ?_)
  obtain ⟨ev14, eM15⟩ := hq12
  subst ev14
  rw [eM15] at hP hD
  refine W.eq (g2 := F0 m 13 ls []) rfl ?_
  refine lv_aload_n hx hb d_Hb_ask_13 rfl (lv_at hl 0 rfl) ?_
  refine lv_iload_n hx hb d_Hb_ask_14 rfl (lv_at hl 1 rfl) ?_
  refine hb_callV (rest := []) hX hts hb_gd Y_Hb_find (c_Hb_find_no hE M x la lp nb ra rp ho pa tm Ac Py h hk k hno) ml_Hb_79 im_Hb_find se_Hb_find hK fx hC_Hb.1 hz hP hD hS hA rfl hl.1 rfl (Nat.le_of_ble_eq_true rfl) ⟨Nat.le_of_ble_eq_true rfl, Nat.le_of_ble_eq_true rfl⟩ ⟨Nat.le_of_ble_eq_true rfl, Nat.le_of_ble_eq_true rfl⟩ d_Hb_ask_15 (fun v18 M16 H locs hq17 hP hD hS _ hkp => ?_)
  obtain ⟨ev19, eM20⟩ := hq17
  subst ev19
  rw [eM20] at hP hD
  refine W.eq (g2 := F0 m 18 ls [.null]) rfl ?_
  refine lv_ifnullN (tgt := 25) hx hb d_Hb_ask_18 (by decide) ?_
  refine lv_aload_n hx hb d_Hb_ask_25 rfl (lv_at hl 0 rfl) ?_
  refine hb_get hx hb hts hown hC_Hb hK hP fx 3 (by decide) rfl fl_Hb_16 rfl d_Hb_ask_26 ?_
  refine hb_callV (rest := []) hX hts hb_gd Y_Al_size (c_py_size hE h) ml_Hb_55 im_Al_size se_Al_size hK flp hC_Al.1 hz hP hD hS hA rfl hl.1 rfl (Nat.le_of_ble_eq_true rfl) ⟨Nat.le_of_ble_eq_true rfl, Nat.le_of_ble_eq_true rfl⟩ ⟨Nat.le_of_ble_eq_true rfl, Nat.le_of_ble_eq_true rfl⟩ d_Hb_ask_29 (fun v23 M21 H locs hq22 hP hD hS _ hkp => ?_)
  obtain ⟨ev24, eM25⟩ := hq22
  subst ev24
  rw [eM25] at hP hD
  refine W.eq (g2 := F0 m 32 ls [.int (nI Py.length)]) rfl ?_
  refine lv_bipush (v := 60) hx hb d_Hb_ask_32 (by decide) ?_
  refine lv_icmp_lt (tgt := 41) hx hb d_Hb_ask_34 (by decide) (fun c26 => ?_) (fun c26 => ?_)
  · skip
    refine lv_aload_n hx hb d_Hb_ask_41 rfl (lv_at hl 0 rfl) ?_
    refine hb_get hx hb hts hown hC_Hb hK hP fx 2 (by decide) rfl fl_Hb_10 rfl d_Hb_ask_42 ?_
    refine lv_iload_n hx hb d_Hb_ask_45 rfl (lv_at hl 2 rfl) ?_
    refine hb_callV (rest := []) hX hts hb_gd Y_Al_get (c_ac_get hE h hka0) ml_Hb_87 im_Al_get se_Al_get hK fla hC_Al.1 hz hP hD hS hA rfl hl.1 rfl (Nat.le_of_ble_eq_true rfl) ⟨Nat.le_of_ble_eq_true rfl, Nat.le_of_ble_eq_true rfl⟩ ⟨Nat.le_of_ble_eq_true rfl, Nat.le_of_ble_eq_true rfl⟩ d_Hb_ask_46 (fun v29 M27 H locs hq28 hP hD hS _ hkp => ?_)
    obtain ⟨ev30, eM31⟩ := hq28
    subst ev30
    rw [eM31] at hP hD
    have fa := h.ac hka0
    refine W.eq (g2 := F0 m 49 ls [.ref a]) rfl ?_
    refine va_castS hx hb hown (hts _ kl_Hb_19) (hK.1 0 _ rfl).2 (va_recv hK (hP.one fa) (ci := 0) (q0 := 0) rfl rfl) d_Hb_ask_49 ?_
    refine lv_astore (lv' := [(6, .ref a), (0, .ref x), (1, .int k), (2, .int (nI ka)), (3, .long am), (5, .int pt9)]) hx hb d_Hb_ask_52 hl (by decide) rfl (fun ls hl => ?_)
    refine lv_aload hx hb d_Hb_ask_54 (lv_at hl 0 rfl) ?_
    refine hb_callV (rest := []) hX hts hb_gd Y_Acc_free (c_Acc_free hE M a (nI ka) rk.1 rk.2.1 rk.2.2.1 rk.2.2.2.1 rk.2.2.2.2 fa) ml_Hb_91 im_Acc_free se_Acc_free hK fa hC_Acc.1 hz hP hD hS hA rfl hl.1 rfl (Nat.le_of_ble_eq_true rfl) ⟨Nat.le_of_ble_eq_true rfl, Nat.le_of_ble_eq_true rfl⟩ ⟨Nat.le_of_ble_eq_true rfl, Nat.le_of_ble_eq_true rfl⟩ d_Hb_ask_56 (fun v34 M32 H locs hq33 hP hD hS _ hkp => ?_)
    obtain ⟨ev35, eM36⟩ := hq33
    subst ev35
    rw [eM36] at hP hD
    refine W.eq (g2 := F0 m 59 ls [.long (rk.2.2.1 - rk.1 - rk.2.2.2.1 - rk.2.2.2.2)]) rfl ?_
    refine lv_lstore (lv' := [(7, .long (rk.2.2.1 - rk.1 - rk.2.2.2.1 - rk.2.2.2.2)), (6, .ref a), (0, .ref x), (1, .int k), (2, .int (nI ka)), (3, .long am), (5, .int pt9)]) hx hb d_Hb_ask_59 hl (by decide) rfl (fun ls hl => ?_)
    refine lv_lload_n hx hb d_Hb_ask_61 rfl (lv_at hl 5 rfl) ?_
    refine lv_lload hx hb d_Hb_ask_62 (lv_at hl 0 rfl) ?_
    refine hb_lc_le (tgt := 84) hx hb d_Hb_ask_64 d_Hb_ask_65 (by decide) (fun c37 => ?_) (fun c37 => ?_)
    · skip
      have c37n := hb_ngt c37
      refine hb_new (fs := [.int 0, .null, .int 0, .long 0, .long 0, .int 0, .int 0, .int 0, .long 0, .int 0]) hx hb hts hown hC_Pay kl_Hb_97 it_Pay in_Pay hK hP hD hS hA (fun j hj => by rcases (show j = 0 ∨ j = 1 ∨ j = 2 ∨ j = 3 ∨ j = 4 ∨ j = 5 ∨ j = 6 ∨ j = 7 ∨ j = 8 ∨ j = 9 by omega) with rfl | rfl | rfl | rfl | rfl | rfl | rfl | rfl | rfl | rfl <;> rfl) (Nat.le_of_ble_eq_true rfl) (Nat.le_of_ble_eq_true rfl) d_Hb_ask_84 (fun q38 M39 H hq41 ha42 eM40 hP hD hS => ?_)
      have f43 : M39 q38 = some (.inr (1, [.int 0, .null, .int 0, .long 0, .long 0, .int 0, .int 0, .int 0, .long 0, .int 0])) := by rw [eM40]; exact hb_up_self
      have f44 : M39 x = some (.inr (2, [.int ho, .int pa, .ref la, .ref lp, .ref nb, .int tm])) := by rw [eM40, hb_up_ne (fun q9 => by rw [q9, hq41] at fx; cases fx)]; exact fx
      have f45 : M39 la = some (.inr (3, [.ref ra, .int (nI Ac.length), .int mda])) := by rw [eM40, hb_up_ne (fun q9 => by rw [q9, hq41] at fla; cases fla)]; exact fla
      have f46 : M39 lp = some (.inr (3, [.ref rp, .int (nI Py.length), .int mdp])) := by rw [eM40, hb_up_ne (fun q9 => by rw [q9, hq41] at flp; cases flp)]; exact flp
      have f47 : M39 a = some (.inr (0, [.int (nI ka), .long rk.1, .long rk.2.1, .long rk.2.2.1, .long rk.2.2.2.1, .long rk.2.2.2.2])) := by rw [eM40, hb_up_ne (fun q9 => by rw [q9, hq41] at fa; cases fa)]; exact fa
      refine lv_dup hx hb d_Hb_ask_87 rfl ?_
      refine lv_iload_n hx hb d_Hb_ask_88 rfl (lv_at hl 3 rfl) ?_
      refine lv_aload hx hb d_Hb_ask_89 (lv_at hl 1 rfl) ?_
      refine hb_callI (rest := [.ref q38]) hX hts hb_gd Y_Pay_init (c_Pay_init hE M39 q38 a k f43) ml_Hb_99 im_Pay_init rfl hz hP hD hS hA rfl hl.1 rfl (Nat.le_of_ble_eq_true rfl) ⟨Nat.le_of_ble_eq_true rfl, Nat.le_of_ble_eq_true rfl⟩ ⟨Nat.le_of_ble_eq_true rfl, Nat.le_of_ble_eq_true rfl⟩ d_Hb_ask_91 (fun v50 M48 H locs hq49 hP hD hS _ hkp => ?_)
      obtain ⟨ev53, f51, ho52⟩ := hq49
      subst ev53
      have f54 : M48 x = some (.inr (2, [.int ho, .int pa, .ref la, .ref lp, .ref nb, .int tm])) := ho52.at (hb_n1 (fun q9 => by rw [q9, hq41] at fx; cases fx)) f44
      have f55 : M48 la = some (.inr (3, [.ref ra, .int (nI Ac.length), .int mda])) := ho52.at (hb_n1 (fun q9 => by rw [q9, hq41] at fla; cases fla)) f45
      have f56 : M48 lp = some (.inr (3, [.ref rp, .int (nI Py.length), .int mdp])) := ho52.at (hb_n1 (fun q9 => by rw [q9, hq41] at flp; cases flp)) f46
      have f57 : M48 a = some (.inr (0, [.int (nI ka), .long rk.1, .long rk.2.1, .long rk.2.2.1, .long rk.2.2.2.1, .long rk.2.2.2.2])) := ho52.at (hb_n1 (fun q9 => by rw [q9, hq41] at fa; cases fa)) f47
      refine W.eq (g2 := F0 m 94 ls [.ref q38]) rfl ?_
      refine lv_astore (lv' := [(9, .ref q38), (7, .long (rk.2.2.1 - rk.1 - rk.2.2.2.1 - rk.2.2.2.2)), (6, .ref a), (0, .ref x), (1, .int k), (2, .int (nI ka)), (3, .long am), (5, .int pt9)]) hx hb d_Hb_ask_94 hl (by decide) rfl (fun ls hl => ?_)
      refine lv_aload hx hb d_Hb_ask_96 (lv_at hl 0 rfl) ?_
      refine lv_lload_n hx hb d_Hb_ask_98 rfl (lv_at hl 6 rfl) ?_
      refine lv_lload hx hb d_Hb_ask_99 (lv_at hl 1 rfl) ?_
      refine va_mmin_long hx hb (by rw [hml]; exact hl.1.symm) hown (hts _ ml_Hb_102) (hts _ st_Mth_min2) (hts _ in_Mth) (hts _ cd_Mth_min2) (Nat.le_of_ble_eq_true rfl) (Nat.le_of_ble_eq_true rfl) (Nat.le_of_ble_eq_true rfl) (Nat.le_of_ble_eq_true rfl) d_Hb_ask_101 ?_
      refine lv_aload_n hx hb d_Hb_ask_104 rfl (lv_at hl 3 rfl) ?_
      refine hb_get hx hb hts hown hC_Hb hK hP f54 5 (by decide) rfl fl_Hb_28 rfl d_Hb_ask_105 ?_
      refine lv_aload_n hx hb d_Hb_ask_108 rfl (lv_at hl 3 rfl) ?_
      refine hb_get hx hb hts hown hC_Hb hK hP f54 0 (by decide) rfl fl_Hb_36 rfl d_Hb_ask_109 ?_
      refine lv_iadd hx hb d_Hb_ask_112 ?_
      refine hb_callV (rest := []) hX hts hb_gd Y_Pay_holdUntil (c_Pay_holdUntil hE M48 q38 a (nI ka) rk.1 rk.2.1 rk.2.2.1 rk.2.2.2.1 rk.2.2.2.2 k 2 0 (-1) 0 (-1) 0 0 0 f57 f51 (if rk.2.2.1 - rk.1 - rk.2.2.2.1 - rk.2.2.2.2 < am then rk.2.2.1 - rk.1 - rk.2.2.2.1 - rk.2.2.2.2 else am) (tm + ho)) ml_Hb_108 im_Pay_holdUntil se_Pay_holdUntil hK f51 hC_Pay.1 hz hP hD hS hA rfl hl.1 rfl (Nat.le_of_ble_eq_true rfl) ⟨Nat.le_of_ble_eq_true rfl, Nat.le_of_ble_eq_true rfl⟩ ⟨Nat.le_of_ble_eq_true rfl, Nat.le_of_ble_eq_true rfl⟩ d_Hb_ask_113 (fun v60 M58 H locs hq59 hP hD hS _ hkp => ?_)
      obtain ⟨ev64, f61, f62, ho63⟩ := hq59
      subst ev64
      have f65 : M58 x = some (.inr (2, [.int ho, .int pa, .ref la, .ref lp, .ref nb, .int tm])) := ho63.at (hb_n2 (fun q9 => by rw [q9, f57] at f54; cases f54) (fun q9 => by rw [q9, hq41] at fx; cases fx)) f54
      have f66 : M58 la = some (.inr (3, [.ref ra, .int (nI Ac.length), .int mda])) := ho63.at (hb_n2 (fun q9 => by rw [q9, f57] at f55; cases f55) (fun q9 => by rw [q9, hq41] at fla; cases fla)) f55
      have f67 : M58 lp = some (.inr (3, [.ref rp, .int (nI Py.length), .int mdp])) := ho63.at (hb_n2 (fun q9 => by rw [q9, f57] at f56; cases f56) (fun q9 => by rw [q9, hq41] at flp; cases flp)) f56
      refine W.eq (g2 := F0 m 116 ls []) rfl ?_
      refine lv_aload_n hx hb d_Hb_ask_116 rfl (lv_at hl 3 rfl) ?_
      refine lv_aload hx hb d_Hb_ask_117 (lv_at hl 0 rfl) ?_
      have m0 := hb_e0 hE hz hD
      have kp0 : hb_kp [a] M M58 := fun b e9 hb9 he => by rw [ho63 b (hb_n2 (fun z => hb9 (by rw [z]; simp)) (fun z => by rw [z, hq41] at he; cases he)), ho52 b (hb_n1 (fun z => by rw [z, hq41] at he; cases he)), eM40, hb_up_ne (fun z => by rw [z, hq41] at he; cases he)]; exact he
      have h2 := h.updA hk hka0 (s' := ((rk.1, rk.2.1, rk.2.2.1, rk.2.2.2.1 + ((if rk.2.2.1 - rk.1 - rk.2.2.2.1 - rk.2.2.2.2 < am then rk.2.2.1 - rk.1 - rk.2.2.2.1 - rk.2.2.2.2 else am) - 0), rk.2.2.2.2) : hbA)) f61 kp0 m0
      have hac9 : hb_acc nb (Ac.set ka (a, ((rk.1, rk.2.1, rk.2.2.1, rk.2.2.2.1 + ((if rk.2.2.1 - rk.1 - rk.2.2.2.1 - rk.2.2.2.2 < am then rk.2.2.1 - rk.1 - rk.2.2.2.1 - rk.2.2.2.2 else am) - 0), rk.2.2.2.2) : hbA))) (nI ka) = a := by rw [hb_acc_set hka0, hb_acc_nI (by omega) hka0]
      refine hb_callV (rest := []) hX hts hb_gd Y_Hb_enter (c_Hb_enter hE M58 x la lp nb ra rp ho pa tm (Ac.set ka (a, ((rk.1, rk.2.1, rk.2.2.1, rk.2.2.2.1 + ((if rk.2.2.1 - rk.1 - rk.2.2.2.1 - rk.2.2.2.2 < am then rk.2.2.1 - rk.1 - rk.2.2.2.1 - rk.2.2.2.2 else am) - 0), rk.2.2.2.2) : hbA))) Py h2 hk.setA q38 ((k, nI ka, 1, (if rk.2.2.1 - rk.1 - rk.2.2.2.1 - rk.2.2.2.2 < am then rk.2.2.1 - rk.1 - rk.2.2.2.1 - rk.2.2.2.2 else am), 0, tm + ho, -1, 0, 0, -1) : hbY) (by rw [hac9]; exact f62) hl9) ml_Hb_112 im_Hb_enter se_Hb_enter hK f65 hC_Hb.1 hz hP hD hS hA rfl hl.1 rfl (Nat.le_of_ble_eq_true rfl) ⟨Nat.le_of_ble_eq_true rfl, Nat.le_of_ble_eq_true rfl⟩ ⟨Nat.le_of_ble_eq_true rfl, Nat.le_of_ble_eq_true rfl⟩ d_Hb_ask_119 (fun v70 M68 H locs hq69 hP hD hS _ hkp => ?_)
      obtain ⟨ev9, rp9, b1⟩ := hq69
      subst ev9
      have fq9 := b1.py (hb_ins_self (hb_pos_le Py k))
      refine W.eq (g2 := F0 m 122 ls []) rfl ?_
      refine lv_aload hx hb d_Hb_ask_122 (lv_at hl 0 rfl) ?_
      refine hb_get hx hb hts hown hC_Pay hK hP fq9 3 (by decide) rfl fl_Hb_116 rfl d_Hb_ask_124 ?_
      exact hb_lret hAe hx hb hr hlocks hP hD hS (Nat.le_of_ble_eq_true rfl) (Nat.le_of_ble_eq_true rfl) (⟨rfl, q38, rp9, b1⟩) d_Hb_ask_127
    · skip
      have c37n := hb_gt c37
      refine lv_iload hx hb d_Hb_ask_68 (lv_at hl 6 rfl) ?_
      refine lv_if_eq (tgt := 80) hx hb d_Hb_ask_70 (by decide) (fun c71 => ?_) (fun c71 => ?_)
      · skip
        exact absurd hok (by intro z; rcases z with z | z; exact absurd z (by assumption); exact absurd c71 z.1)
      · skip
        refine lv_lload hx hb d_Hb_ask_73 (lv_at hl 0 rfl) ?_
        refine lv_lconst (v := 0) hx hb d_Hb_ask_75 (by decide) ?_
        refine hb_lc_gt (tgt := 84) hx hb d_Hb_ask_76 d_Hb_ask_77 (by decide) (fun c72 => ?_) (fun c72 => ?_)
        · skip
          refine hb_new (fs := [.int 0, .null, .int 0, .long 0, .long 0, .int 0, .int 0, .int 0, .long 0, .int 0]) hx hb hts hown hC_Pay kl_Hb_97 it_Pay in_Pay hK hP hD hS hA (fun j hj => by rcases (show j = 0 ∨ j = 1 ∨ j = 2 ∨ j = 3 ∨ j = 4 ∨ j = 5 ∨ j = 6 ∨ j = 7 ∨ j = 8 ∨ j = 9 by omega) with rfl | rfl | rfl | rfl | rfl | rfl | rfl | rfl | rfl | rfl <;> rfl) (Nat.le_of_ble_eq_true rfl) (Nat.le_of_ble_eq_true rfl) d_Hb_ask_84 (fun q73 M74 H hq76 ha77 eM75 hP hD hS => ?_)
          have f78 : M74 q73 = some (.inr (1, [.int 0, .null, .int 0, .long 0, .long 0, .int 0, .int 0, .int 0, .long 0, .int 0])) := by rw [eM75]; exact hb_up_self
          have f79 : M74 x = some (.inr (2, [.int ho, .int pa, .ref la, .ref lp, .ref nb, .int tm])) := by rw [eM75, hb_up_ne (fun q9 => by rw [q9, hq76] at fx; cases fx)]; exact fx
          have f80 : M74 la = some (.inr (3, [.ref ra, .int (nI Ac.length), .int mda])) := by rw [eM75, hb_up_ne (fun q9 => by rw [q9, hq76] at fla; cases fla)]; exact fla
          have f81 : M74 lp = some (.inr (3, [.ref rp, .int (nI Py.length), .int mdp])) := by rw [eM75, hb_up_ne (fun q9 => by rw [q9, hq76] at flp; cases flp)]; exact flp
          have f82 : M74 a = some (.inr (0, [.int (nI ka), .long rk.1, .long rk.2.1, .long rk.2.2.1, .long rk.2.2.2.1, .long rk.2.2.2.2])) := by rw [eM75, hb_up_ne (fun q9 => by rw [q9, hq76] at fa; cases fa)]; exact fa
          refine lv_dup hx hb d_Hb_ask_87 rfl ?_
          refine lv_iload_n hx hb d_Hb_ask_88 rfl (lv_at hl 3 rfl) ?_
          refine lv_aload hx hb d_Hb_ask_89 (lv_at hl 1 rfl) ?_
          refine hb_callI (rest := [.ref q73]) hX hts hb_gd Y_Pay_init (c_Pay_init hE M74 q73 a k f78) ml_Hb_99 im_Pay_init rfl hz hP hD hS hA rfl hl.1 rfl (Nat.le_of_ble_eq_true rfl) ⟨Nat.le_of_ble_eq_true rfl, Nat.le_of_ble_eq_true rfl⟩ ⟨Nat.le_of_ble_eq_true rfl, Nat.le_of_ble_eq_true rfl⟩ d_Hb_ask_91 (fun v85 M83 H locs hq84 hP hD hS _ hkp => ?_)
          obtain ⟨ev88, f86, ho87⟩ := hq84
          subst ev88
          have f89 : M83 x = some (.inr (2, [.int ho, .int pa, .ref la, .ref lp, .ref nb, .int tm])) := ho87.at (hb_n1 (fun q9 => by rw [q9, hq76] at fx; cases fx)) f79
          have f90 : M83 la = some (.inr (3, [.ref ra, .int (nI Ac.length), .int mda])) := ho87.at (hb_n1 (fun q9 => by rw [q9, hq76] at fla; cases fla)) f80
          have f91 : M83 lp = some (.inr (3, [.ref rp, .int (nI Py.length), .int mdp])) := ho87.at (hb_n1 (fun q9 => by rw [q9, hq76] at flp; cases flp)) f81
          have f92 : M83 a = some (.inr (0, [.int (nI ka), .long rk.1, .long rk.2.1, .long rk.2.2.1, .long rk.2.2.2.1, .long rk.2.2.2.2])) := ho87.at (hb_n1 (fun q9 => by rw [q9, hq76] at fa; cases fa)) f82
          refine W.eq (g2 := F0 m 94 ls [.ref q73]) rfl ?_
          refine lv_astore (lv' := [(9, .ref q73), (7, .long (rk.2.2.1 - rk.1 - rk.2.2.2.1 - rk.2.2.2.2)), (6, .ref a), (0, .ref x), (1, .int k), (2, .int (nI ka)), (3, .long am), (5, .int pt9)]) hx hb d_Hb_ask_94 hl (by decide) rfl (fun ls hl => ?_)
          refine lv_aload hx hb d_Hb_ask_96 (lv_at hl 0 rfl) ?_
          refine lv_lload_n hx hb d_Hb_ask_98 rfl (lv_at hl 6 rfl) ?_
          refine lv_lload hx hb d_Hb_ask_99 (lv_at hl 1 rfl) ?_
          refine va_mmin_long hx hb (by rw [hml]; exact hl.1.symm) hown (hts _ ml_Hb_102) (hts _ st_Mth_min2) (hts _ in_Mth) (hts _ cd_Mth_min2) (Nat.le_of_ble_eq_true rfl) (Nat.le_of_ble_eq_true rfl) (Nat.le_of_ble_eq_true rfl) (Nat.le_of_ble_eq_true rfl) d_Hb_ask_101 ?_
          refine lv_aload_n hx hb d_Hb_ask_104 rfl (lv_at hl 3 rfl) ?_
          refine hb_get hx hb hts hown hC_Hb hK hP f89 5 (by decide) rfl fl_Hb_28 rfl d_Hb_ask_105 ?_
          refine lv_aload_n hx hb d_Hb_ask_108 rfl (lv_at hl 3 rfl) ?_
          refine hb_get hx hb hts hown hC_Hb hK hP f89 0 (by decide) rfl fl_Hb_36 rfl d_Hb_ask_109 ?_
          refine lv_iadd hx hb d_Hb_ask_112 ?_
          refine hb_callV (rest := []) hX hts hb_gd Y_Pay_holdUntil (c_Pay_holdUntil hE M83 q73 a (nI ka) rk.1 rk.2.1 rk.2.2.1 rk.2.2.2.1 rk.2.2.2.2 k 2 0 (-1) 0 (-1) 0 0 0 f92 f86 (if rk.2.2.1 - rk.1 - rk.2.2.2.1 - rk.2.2.2.2 < am then rk.2.2.1 - rk.1 - rk.2.2.2.1 - rk.2.2.2.2 else am) (tm + ho)) ml_Hb_108 im_Pay_holdUntil se_Pay_holdUntil hK f86 hC_Pay.1 hz hP hD hS hA rfl hl.1 rfl (Nat.le_of_ble_eq_true rfl) ⟨Nat.le_of_ble_eq_true rfl, Nat.le_of_ble_eq_true rfl⟩ ⟨Nat.le_of_ble_eq_true rfl, Nat.le_of_ble_eq_true rfl⟩ d_Hb_ask_113 (fun v95 M93 H locs hq94 hP hD hS _ hkp => ?_)
          obtain ⟨ev99, f96, f97, ho98⟩ := hq94
          subst ev99
          have f100 : M93 x = some (.inr (2, [.int ho, .int pa, .ref la, .ref lp, .ref nb, .int tm])) := ho98.at (hb_n2 (fun q9 => by rw [q9, f92] at f89; cases f89) (fun q9 => by rw [q9, hq76] at fx; cases fx)) f89
          have f101 : M93 la = some (.inr (3, [.ref ra, .int (nI Ac.length), .int mda])) := ho98.at (hb_n2 (fun q9 => by rw [q9, f92] at f90; cases f90) (fun q9 => by rw [q9, hq76] at fla; cases fla)) f90
          have f102 : M93 lp = some (.inr (3, [.ref rp, .int (nI Py.length), .int mdp])) := ho98.at (hb_n2 (fun q9 => by rw [q9, f92] at f91; cases f91) (fun q9 => by rw [q9, hq76] at flp; cases flp)) f91
          refine W.eq (g2 := F0 m 116 ls []) rfl ?_
          refine lv_aload_n hx hb d_Hb_ask_116 rfl (lv_at hl 3 rfl) ?_
          refine lv_aload hx hb d_Hb_ask_117 (lv_at hl 0 rfl) ?_
          have m0 := hb_e0 hE hz hD
          have kp0 : hb_kp [a] M M93 := fun b e9 hb9 he => by rw [ho98 b (hb_n2 (fun z => hb9 (by rw [z]; simp)) (fun z => by rw [z, hq76] at he; cases he)), ho87 b (hb_n1 (fun z => by rw [z, hq76] at he; cases he)), eM75, hb_up_ne (fun z => by rw [z, hq76] at he; cases he)]; exact he
          have h2 := h.updA hk hka0 (s' := ((rk.1, rk.2.1, rk.2.2.1, rk.2.2.2.1 + ((if rk.2.2.1 - rk.1 - rk.2.2.2.1 - rk.2.2.2.2 < am then rk.2.2.1 - rk.1 - rk.2.2.2.1 - rk.2.2.2.2 else am) - 0), rk.2.2.2.2) : hbA)) f96 kp0 m0
          have hac9 : hb_acc nb (Ac.set ka (a, ((rk.1, rk.2.1, rk.2.2.1, rk.2.2.2.1 + ((if rk.2.2.1 - rk.1 - rk.2.2.2.1 - rk.2.2.2.2 < am then rk.2.2.1 - rk.1 - rk.2.2.2.1 - rk.2.2.2.2 else am) - 0), rk.2.2.2.2) : hbA))) (nI ka) = a := by rw [hb_acc_set hka0, hb_acc_nI (by omega) hka0]
          refine hb_callV (rest := []) hX hts hb_gd Y_Hb_enter (c_Hb_enter hE M93 x la lp nb ra rp ho pa tm (Ac.set ka (a, ((rk.1, rk.2.1, rk.2.2.1, rk.2.2.2.1 + ((if rk.2.2.1 - rk.1 - rk.2.2.2.1 - rk.2.2.2.2 < am then rk.2.2.1 - rk.1 - rk.2.2.2.1 - rk.2.2.2.2 else am) - 0), rk.2.2.2.2) : hbA))) Py h2 hk.setA q73 ((k, nI ka, 1, (if rk.2.2.1 - rk.1 - rk.2.2.2.1 - rk.2.2.2.2 < am then rk.2.2.1 - rk.1 - rk.2.2.2.1 - rk.2.2.2.2 else am), 0, tm + ho, -1, 0, 0, -1) : hbY) (by rw [hac9]; exact f97) hl9) ml_Hb_112 im_Hb_enter se_Hb_enter hK f100 hC_Hb.1 hz hP hD hS hA rfl hl.1 rfl (Nat.le_of_ble_eq_true rfl) ⟨Nat.le_of_ble_eq_true rfl, Nat.le_of_ble_eq_true rfl⟩ ⟨Nat.le_of_ble_eq_true rfl, Nat.le_of_ble_eq_true rfl⟩ d_Hb_ask_119 (fun v105 M103 H locs hq104 hP hD hS _ hkp => ?_)
          obtain ⟨ev9, rp9, b1⟩ := hq104
          subst ev9
          have fq9 := b1.py (hb_ins_self (hb_pos_le Py k))
          refine W.eq (g2 := F0 m 122 ls []) rfl ?_
          refine lv_aload hx hb d_Hb_ask_122 (lv_at hl 0 rfl) ?_
          refine hb_get hx hb hts hown hC_Pay hK hP fq9 3 (by decide) rfl fl_Hb_116 rfl d_Hb_ask_124 ?_
          exact hb_lret hAe hx hb hr hlocks hP hD hS (Nat.le_of_ble_eq_true rfl) (Nat.le_of_ble_eq_true rfl) (⟨rfl, q73, rp9, b1⟩) d_Hb_ask_127
        · skip
          exact absurd hok (by intro z; rcases z with z | z; exact absurd z (by assumption); exact absurd z.2 c72)
  · skip
    exact absurd (nI_lt (b := 60) hl9 (by omega)) c26
set_option maxHeartbeats 4000000 in
set_option maxRecDepth 100000 in
theorem c_Hb_account_ok {l : Launch} {s0 : State} {D : va_G} {cI cJ cO : ClassId} {e0 mi : Nat} (hE : hb_E l s0 D cI cJ cO e0 mi) (M : hb_M) (x la lp nb ra rp : Nat) (ho pa tm : Int32) (Ac : List (Nat × hbA)) (Py : List (Nat × hbY)) (h : cR cO e0 M x la lp nb ra rp ho pa tm Ac Py) (hk : cOK Ac Py) (b mn : Int64) (hb1 : ¬ b < -1000000000000 ∧ ¬ 1000000000000 < b) (hb2 : ¬ mn < -1000000000000 ∧ ¬ 0 < mn) (hl9 : Ac.length < 16) : hb_Met l D hb_cl s0 y_Hb_account b_Hb_account 6 (some .int) { frames := 8, cells := 2, slots := 120, locals := 191 } [.ref x, .long b, .long mn] M (fun v M1 => v = some (.int (nI Ac.length)) ∧ ∃ a0 ra1, cR cO e0 M1 x la lp nb ra1 rp ho pa tm (Ac ++ [(a0, ((mn, b - mn, b, 0, 0) : hbA))]) Py) := by
  refine hb_Met.of (by decide) (Nat.le_of_ble_eq_true rfl) ?_
  intro p e s m below meth c A hAe hX hz hP hD hA hS ls hl
  obtain ⟨hx, hb, hr, hml, hown, hlocks, hnm, hG, hnh⟩ := id hX
  have hown : s.vm.findClass "HoldBook" = some m.cls := hown
  have hts := hE.ts hG ([.ref x, .long b, .long mn] : List Value).toArray
  have hK := hE.kn hG
  have hl : lv_has ls 6 [(0, .ref x), (1, .long b), (3, .long mn)] := hl
  have fx := h.1
  obtain ⟨mda, fla⟩ := h.fla
  obtain ⟨mdp, flp⟩ := h.flp
  have hlA := hk.1
  have hlP := hk.2.1
  refine lv_lload_n hx hb d_Hb_account_0 rfl (lv_at hl 1 rfl) ?_
  refine lv_ldc2 (v := (-1000000000000)) hx hb hown (hts _ kc_Hb_42) d_Hb_account_1 ?_
  refine hb_lc_lt (tgt := 16) hx hb d_Hb_account_4 d_Hb_account_5 (by decide) (fun c1 => ?_) (fun c1 => ?_)
  · skip
    exact absurd c1 hb1.1
  · skip
    refine lv_lload_n hx hb d_Hb_account_8 rfl (lv_at hl 1 rfl) ?_
    refine lv_ldc2 (v := 1000000000000) hx hb hown (hts _ kc_Hb_44) d_Hb_account_9 ?_
    refine hb_lc_le (tgt := 26) hx hb d_Hb_account_12 d_Hb_account_13 (by decide) (fun c2 => ?_) (fun c2 => ?_)
    · skip
      have c2n := hb_ngt c2
      refine lv_lload_n hx hb d_Hb_account_26 rfl (lv_at hl 2 rfl) ?_
      refine lv_ldc2 (v := (-1000000000000)) hx hb hown (hts _ kc_Hb_42) d_Hb_account_27 ?_
      refine hb_lc_lt (tgt := 40) hx hb d_Hb_account_30 d_Hb_account_31 (by decide) (fun c3 => ?_) (fun c3 => ?_)
      · skip
        exact absurd c3 hb2.1
      · skip
        refine lv_lload_n hx hb d_Hb_account_34 rfl (lv_at hl 2 rfl) ?_
        refine lv_lconst (v := 0) hx hb d_Hb_account_35 (by decide) ?_
        refine hb_lc_le (tgt := 50) hx hb d_Hb_account_36 d_Hb_account_37 (by decide) (fun c4 => ?_) (fun c4 => ?_)
        · skip
          have c4n := hb_ngt c4
          refine lv_aload_n hx hb d_Hb_account_50 rfl (lv_at hl 0 rfl) ?_
          refine hb_get hx hb hts hown hC_Hb hK hP fx 2 (by decide) rfl fl_Hb_10 rfl d_Hb_account_51 ?_
          refine hb_callV (rest := []) hX hts hb_gd Y_Al_size (c_ac_size hE h) ml_Hb_55 im_Al_size se_Al_size hK fla hC_Al.1 hz hP hD hS hA rfl hl.1 rfl (Nat.le_of_ble_eq_true rfl) ⟨Nat.le_of_ble_eq_true rfl, Nat.le_of_ble_eq_true rfl⟩ ⟨Nat.le_of_ble_eq_true rfl, Nat.le_of_ble_eq_true rfl⟩ d_Hb_account_54 (fun v7 M5 H locs hq6 hP hD hS _ hkp => ?_)
          obtain ⟨ev8, eM9⟩ := hq6
          subst ev8
          rw [eM9] at hP hD
          refine W.eq (g2 := F0 m 57 ls [.int (nI Ac.length)]) rfl ?_
          refine lv_istore (lv' := [(5, .int (nI Ac.length)), (0, .ref x), (1, .long b), (3, .long mn)]) hx hb d_Hb_account_57 hl (by decide) rfl (fun ls hl => ?_)
          refine lv_iload hx hb d_Hb_account_59 (lv_at hl 0 rfl) ?_
          refine lv_bipush (v := 16) hx hb d_Hb_account_61 (by decide) ?_
          refine lv_icmp_lt (tgt := 76) hx hb d_Hb_account_63 (by decide) (fun c10 => ?_) (fun c10 => ?_)
          · skip
            refine lv_aload_n hx hb d_Hb_account_76 rfl (lv_at hl 1 rfl) ?_
            refine hb_get hx hb hts hown hC_Hb hK hP fx 2 (by decide) rfl fl_Hb_10 rfl d_Hb_account_77 ?_
            refine hb_new (fs := [.int 0, .long 0, .long 0, .long 0, .long 0, .long 0]) hx hb hts hown hC_Acc kl_Hb_19 it_Acc in_Acc hK hP hD hS hA (fun j hj => by rcases (show j = 0 ∨ j = 1 ∨ j = 2 ∨ j = 3 ∨ j = 4 ∨ j = 5 by omega) with rfl | rfl | rfl | rfl | rfl | rfl <;> rfl) (Nat.le_of_ble_eq_true rfl) (Nat.le_of_ble_eq_true rfl) d_Hb_account_80 (fun q11 M12 H hq14 ha15 eM13 hP hD hS => ?_)
            have f16 : M12 q11 = some (.inr (0, [.int 0, .long 0, .long 0, .long 0, .long 0, .long 0])) := by rw [eM13]; exact hb_up_self
            have f17 : M12 x = some (.inr (2, [.int ho, .int pa, .ref la, .ref lp, .ref nb, .int tm])) := by rw [eM13, hb_up_ne (fun q9 => by rw [q9, hq14] at fx; cases fx)]; exact fx
            have f18 : M12 la = some (.inr (3, [.ref ra, .int (nI Ac.length), .int mda])) := by rw [eM13, hb_up_ne (fun q9 => by rw [q9, hq14] at fla; cases fla)]; exact fla
            have f19 : M12 lp = some (.inr (3, [.ref rp, .int (nI Py.length), .int mdp])) := by rw [eM13, hb_up_ne (fun q9 => by rw [q9, hq14] at flp; cases flp)]; exact flp
            refine lv_dup hx hb d_Hb_account_83 rfl ?_
            refine lv_iload hx hb d_Hb_account_84 (lv_at hl 0 rfl) ?_
            refine lv_lload_n hx hb d_Hb_account_86 rfl (lv_at hl 2 rfl) ?_
            refine lv_lload_n hx hb d_Hb_account_87 rfl (lv_at hl 3 rfl) ?_
            refine hb_callI (rest := [.ref q11, .ref la]) hX hts hb_gd Y_Acc_init (c_Acc_init hE M12 q11 (nI Ac.length) b mn f16) ml_Hb_21 im_Acc_init rfl hz hP hD hS hA rfl hl.1 rfl (Nat.le_of_ble_eq_true rfl) ⟨Nat.le_of_ble_eq_true rfl, Nat.le_of_ble_eq_true rfl⟩ ⟨Nat.le_of_ble_eq_true rfl, Nat.le_of_ble_eq_true rfl⟩ d_Hb_account_88 (fun v22 M20 H locs hq21 hP hD hS _ hkp => ?_)
            obtain ⟨ev25, f23, ho24⟩ := hq21
            subst ev25
            have f26 : M20 x = some (.inr (2, [.int ho, .int pa, .ref la, .ref lp, .ref nb, .int tm])) := ho24.at (hb_n1 (fun q9 => by rw [q9, hq14] at fx; cases fx)) f17
            have f27 : M20 la = some (.inr (3, [.ref ra, .int (nI Ac.length), .int mda])) := ho24.at (hb_n1 (fun q9 => by rw [q9, hq14] at fla; cases fla)) f18
            have f28 : M20 lp = some (.inr (3, [.ref rp, .int (nI Py.length), .int mdp])) := ho24.at (hb_n1 (fun q9 => by rw [q9, hq14] at flp; cases flp)) f19
            refine W.eq (g2 := F0 m 91 ls [.ref q11, .ref la]) rfl ?_
            have m1 := hb_e0 hE hz hD
            have kp0 : hb_kp [] M M20 := fun b e9 _ he => by rw [ho24 b (hb_n1 (fun z => by rw [z, hq14] at he; cases he)), eM13, hb_up_ne (fun z => by rw [z, hq14] at he; cases he)]; exact he
            have h2 := h.more kp0 m1
            refine hb_callV (rest := []) hX hts hb_gd Y_Al_add1 (c_lst_add hE m1 h2.2.1 h2.obA (by rw [List.length_map]; omega) f23 (Or.inl rfl)) ml_Hb_64 im_Al_add1 se_Al_add1 hK f27 hC_Al.1 hz hP hD hS hA rfl hl.1 rfl (Nat.le_of_ble_eq_true rfl) ⟨Nat.le_of_ble_eq_true rfl, Nat.le_of_ble_eq_true rfl⟩ ⟨Nat.le_of_ble_eq_true rfl, Nat.le_of_ble_eq_true rfl⟩ d_Hb_account_91 (fun v31 M29 H locs hq30 hP hD hS _ hkp => ?_)
            obtain ⟨ev9, ra9, b1, b2, b3⟩ := hq30
            subst ev9
            have m0 := hb_e0 hE hz hD
            refine W.eq (g2 := F0 m 94 ls [.int 1]) rfl ?_
            refine lv_pop hx hb d_Hb_account_94 rfl ?_
            refine lv_iload hx hb d_Hb_account_95 (lv_at hl 0 rfl) ?_
            exact hb_iret hAe hx hb hr hlocks hP hD hS (Nat.le_of_ble_eq_true rfl) (Nat.le_of_ble_eq_true rfl) (⟨rfl, q11, ra9, h2.insA (r := ((mn, b - mn, b, 0, 0) : hbA)) hk f23 b1 b2 b3 m0⟩) d_Hb_account_97
          · skip
            exact absurd (nI_lt (b := 16) hl9 (by omega)) c10
        · skip
          have c4n := hb_gt c4
          exact absurd (hb_gt c4) hb2.2
    · skip
      have c2n := hb_gt c2
      exact absurd (hb_gt c2) hb1.2
set_option maxHeartbeats 4000000 in
set_option maxRecDepth 100000 in
theorem c_Hb_account_ise {l : Launch} {s0 : State} {D : va_G} {cI cJ cO : ClassId} {e0 mi : Nat} (hE : hb_E l s0 D cI cJ cO e0 mi) (M : hb_M) (x la lp nb ra rp : Nat) (ho pa tm : Int32) (Ac : List (Nat × hbA)) (Py : List (Nat × hbY)) (h : cR cO e0 M x la lp nb ra rp ho pa tm Ac Py) (hk : cOK Ac Py) (b mn : Int64) (hb1 : ¬ b < -1000000000000 ∧ ¬ 1000000000000 < b) (hb2 : ¬ mn < -1000000000000 ∧ ¬ 0 < mn) (hl9 : 16 ≤ Ac.length) : hb_Thr l D hb_cl s0 y_Hb_account b_Hb_account 6 (some .int) { frames := 6, cells := 1, slots := 6, locals := 90 } [.ref x, .long b, .long mn] M "java/lang/IllegalStateException" := by
  refine hb_Thr.of (by decide) (Nat.le_of_ble_eq_true rfl) ?_
  intro p e s m below meth c A hAe hX hz hP hD hA hS ls hl
  obtain ⟨hx, hb, hr, hml, hown, hlocks, hnm, hG, hnh⟩ := id hX
  have hown : s.vm.findClass "HoldBook" = some m.cls := hown
  have hts := hE.ts hG ([.ref x, .long b, .long mn] : List Value).toArray
  have hK := hE.kn hG
  have hl : lv_has ls 6 [(0, .ref x), (1, .long b), (3, .long mn)] := hl
  have fx := h.1
  obtain ⟨mda, fla⟩ := h.fla
  obtain ⟨mdp, flp⟩ := h.flp
  have hlA := hk.1
  have hlP := hk.2.1
  refine lv_lload_n hx hb d_Hb_account_0 rfl (lv_at hl 1 rfl) ?_
  refine lv_ldc2 (v := (-1000000000000)) hx hb hown (hts _ kc_Hb_42) d_Hb_account_1 ?_
  refine hb_lc_lt (tgt := 16) hx hb d_Hb_account_4 d_Hb_account_5 (by decide) (fun c1 => ?_) (fun c1 => ?_)
  · skip
    exact absurd c1 hb1.1
  · skip
    refine lv_lload_n hx hb d_Hb_account_8 rfl (lv_at hl 1 rfl) ?_
    refine lv_ldc2 (v := 1000000000000) hx hb hown (hts _ kc_Hb_44) d_Hb_account_9 ?_
    refine hb_lc_le (tgt := 26) hx hb d_Hb_account_12 d_Hb_account_13 (by decide) (fun c2 => ?_) (fun c2 => ?_)
    · skip
      have c2n := hb_ngt c2
      refine lv_lload_n hx hb d_Hb_account_26 rfl (lv_at hl 2 rfl) ?_
      refine lv_ldc2 (v := (-1000000000000)) hx hb hown (hts _ kc_Hb_42) d_Hb_account_27 ?_
      refine hb_lc_lt (tgt := 40) hx hb d_Hb_account_30 d_Hb_account_31 (by decide) (fun c3 => ?_) (fun c3 => ?_)
      · skip
        exact absurd c3 hb2.1
      · skip
        refine lv_lload_n hx hb d_Hb_account_34 rfl (lv_at hl 2 rfl) ?_
        refine lv_lconst (v := 0) hx hb d_Hb_account_35 (by decide) ?_
        refine hb_lc_le (tgt := 50) hx hb d_Hb_account_36 d_Hb_account_37 (by decide) (fun c4 => ?_) (fun c4 => ?_)
        · skip
          have c4n := hb_ngt c4
          refine lv_aload_n hx hb d_Hb_account_50 rfl (lv_at hl 0 rfl) ?_
          refine hb_get hx hb hts hown hC_Hb hK hP fx 2 (by decide) rfl fl_Hb_10 rfl d_Hb_account_51 ?_
          refine hb_callV (rest := []) hX hts hb_gd Y_Al_size (c_ac_size hE h) ml_Hb_55 im_Al_size se_Al_size hK fla hC_Al.1 hz hP hD hS hA rfl hl.1 rfl (Nat.le_of_ble_eq_true rfl) ⟨Nat.le_of_ble_eq_true rfl, Nat.le_of_ble_eq_true rfl⟩ ⟨Nat.le_of_ble_eq_true rfl, Nat.le_of_ble_eq_true rfl⟩ d_Hb_account_54 (fun v7 M5 H locs hq6 hP hD hS _ hkp => ?_)
          obtain ⟨ev8, eM9⟩ := hq6
          subst ev8
          rw [eM9] at hP hD
          refine W.eq (g2 := F0 m 57 ls [.int (nI Ac.length)]) rfl ?_
          refine lv_istore (lv' := [(5, .int (nI Ac.length)), (0, .ref x), (1, .long b), (3, .long mn)]) hx hb d_Hb_account_57 hl (by decide) rfl (fun ls hl => ?_)
          refine lv_iload hx hb d_Hb_account_59 (lv_at hl 0 rfl) ?_
          refine lv_bipush (v := 16) hx hb d_Hb_account_61 (by decide) ?_
          refine lv_icmp_lt (tgt := 76) hx hb d_Hb_account_63 (by decide) (fun c10 => ?_) (fun c10 => ?_)
          · skip
            exact absurd c10 (nI_nlt (b := 16) hl9 (by omega))
          · skip
            exact hb_ise hE hAe hX hown hz hP hS hl.1 (List.mem_of_getElem? (i := 296) (by decide +kernel) : Cond.stringRef "HoldBook" 61 "there are 16 accounts" ∈ lw_tbl) d_Hb_account_66 d_Hb_account_69 d_Hb_account_70 d_Hb_account_72 d_Hb_account_75 (Nat.le_of_ble_eq_true rfl) (Nat.le_of_ble_eq_true rfl) (Nat.le_of_ble_eq_true rfl) (Nat.le_of_ble_eq_true rfl) (Nat.le_of_ble_eq_true rfl) (Nat.le_of_ble_eq_true rfl)
        · skip
          have c4n := hb_gt c4
          exact absurd (hb_gt c4) hb2.2
    · skip
      have c2n := hb_gt c2
      exact absurd (hb_gt c2) hb1.2
set_option maxHeartbeats 4000000 in
set_option maxRecDepth 100000 in
theorem c_Hb_account_iae {l : Launch} {s0 : State} {D : va_G} {cI cJ cO : ClassId} {e0 mi : Nat} (hE : hb_E l s0 D cI cJ cO e0 mi) (M : hb_M) (x la lp nb ra rp : Nat) (ho pa tm : Int32) (Ac : List (Nat × hbA)) (Py : List (Nat × hbY)) (h : cR cO e0 M x la lp nb ra rp ho pa tm Ac Py) (hk : cOK Ac Py) (b mn : Int64) (hbad : ¬ ((¬ b < -1000000000000 ∧ ¬ 1000000000000 < b) ∧ (¬ mn < -1000000000000 ∧ ¬ 0 < mn))) : hb_Thr l D hb_cl s0 y_Hb_account b_Hb_account 6 (some .int) { frames := 6, cells := 1, slots := 6, locals := 90 } [.ref x, .long b, .long mn] M "java/lang/IllegalArgumentException" := by
  refine hb_Thr.of (by decide) (Nat.le_of_ble_eq_true rfl) ?_
  intro p e s m below meth c A hAe hX hz hP hD hA hS ls hl
  obtain ⟨hx, hb, hr, hml, hown, hlocks, hnm, hG, hnh⟩ := id hX
  have hown : s.vm.findClass "HoldBook" = some m.cls := hown
  have hts := hE.ts hG ([.ref x, .long b, .long mn] : List Value).toArray
  have hK := hE.kn hG
  have hl : lv_has ls 6 [(0, .ref x), (1, .long b), (3, .long mn)] := hl
  have fx := h.1
  obtain ⟨mda, fla⟩ := h.fla
  obtain ⟨mdp, flp⟩ := h.flp
  have hlA := hk.1
  have hlP := hk.2.1
  refine lv_lload_n hx hb d_Hb_account_0 rfl (lv_at hl 1 rfl) ?_
  refine lv_ldc2 (v := (-1000000000000)) hx hb hown (hts _ kc_Hb_42) d_Hb_account_1 ?_
  refine hb_lc_lt (tgt := 16) hx hb d_Hb_account_4 d_Hb_account_5 (by decide) (fun c1 => ?_) (fun c1 => ?_)
  · skip
    exact hb_iae hE hAe hX hown hz hP hS hl.1 (List.mem_of_getElem? (i := 259) (by decide +kernel) : Cond.stringRef "HoldBook" 48 "the balance is out of its bounds" ∈ lw_tbl) d_Hb_account_16 d_Hb_account_19 d_Hb_account_20 d_Hb_account_22 d_Hb_account_25 (Nat.le_of_ble_eq_true rfl) (Nat.le_of_ble_eq_true rfl) (Nat.le_of_ble_eq_true rfl) (Nat.le_of_ble_eq_true rfl) (Nat.le_of_ble_eq_true rfl) (Nat.le_of_ble_eq_true rfl)
  · skip
    refine lv_lload_n hx hb d_Hb_account_8 rfl (lv_at hl 1 rfl) ?_
    refine lv_ldc2 (v := 1000000000000) hx hb hown (hts _ kc_Hb_44) d_Hb_account_9 ?_
    refine hb_lc_le (tgt := 26) hx hb d_Hb_account_12 d_Hb_account_13 (by decide) (fun c2 => ?_) (fun c2 => ?_)
    · skip
      have c2n := hb_ngt c2
      refine lv_lload_n hx hb d_Hb_account_26 rfl (lv_at hl 2 rfl) ?_
      refine lv_ldc2 (v := (-1000000000000)) hx hb hown (hts _ kc_Hb_42) d_Hb_account_27 ?_
      refine hb_lc_lt (tgt := 40) hx hb d_Hb_account_30 d_Hb_account_31 (by decide) (fun c3 => ?_) (fun c3 => ?_)
      · skip
        exact hb_iae hE hAe hX hown hz hP hS hl.1 (List.mem_of_getElem? (i := 286) (by decide +kernel) : Cond.stringRef "HoldBook" 53 "the minimum is out of its bounds" ∈ lw_tbl) d_Hb_account_40 d_Hb_account_43 d_Hb_account_44 d_Hb_account_46 d_Hb_account_49 (Nat.le_of_ble_eq_true rfl) (Nat.le_of_ble_eq_true rfl) (Nat.le_of_ble_eq_true rfl) (Nat.le_of_ble_eq_true rfl) (Nat.le_of_ble_eq_true rfl) (Nat.le_of_ble_eq_true rfl)
      · skip
        refine lv_lload_n hx hb d_Hb_account_34 rfl (lv_at hl 2 rfl) ?_
        refine lv_lconst (v := 0) hx hb d_Hb_account_35 (by decide) ?_
        refine hb_lc_le (tgt := 50) hx hb d_Hb_account_36 d_Hb_account_37 (by decide) (fun c4 => ?_) (fun c4 => ?_)
        · skip
          have c4n := hb_ngt c4
          exact absurd ⟨⟨by assumption, by assumption⟩, by assumption, by assumption⟩ hbad
        · skip
          have c4n := hb_gt c4
          exact hb_iae hE hAe hX hown hz hP hS hl.1 (List.mem_of_getElem? (i := 286) (by decide +kernel) : Cond.stringRef "HoldBook" 53 "the minimum is out of its bounds" ∈ lw_tbl) d_Hb_account_40 d_Hb_account_43 d_Hb_account_44 d_Hb_account_46 d_Hb_account_49 (Nat.le_of_ble_eq_true rfl) (Nat.le_of_ble_eq_true rfl) (Nat.le_of_ble_eq_true rfl) (Nat.le_of_ble_eq_true rfl) (Nat.le_of_ble_eq_true rfl) (Nat.le_of_ble_eq_true rfl)
    · skip
      have c2n := hb_gt c2
      exact hb_iae hE hAe hX hown hz hP hS hl.1 (List.mem_of_getElem? (i := 259) (by decide +kernel) : Cond.stringRef "HoldBook" 48 "the balance is out of its bounds" ∈ lw_tbl) d_Hb_account_16 d_Hb_account_19 d_Hb_account_20 d_Hb_account_22 d_Hb_account_25 (Nat.le_of_ble_eq_true rfl) (Nat.le_of_ble_eq_true rfl) (Nat.le_of_ble_eq_true rfl) (Nat.le_of_ble_eq_true rfl) (Nat.le_of_ble_eq_true rfl) (Nat.le_of_ble_eq_true rfl)
set_option maxHeartbeats 4000000 in
set_option maxRecDepth 100000 in
/-- Hb_ask, out of bounds -/
theorem c_Hb_ask_bad {l : Launch} {s0 : State} {D : va_G} {cI cJ cO : ClassId} {e0 mi : Nat} (hE : hb_E l s0 D cI cJ cO e0 mi) (M : hb_M) (x la lp nb ra rp : Nat) (ho pa tm : Int32) (Ac : List (Nat × hbA)) (Py : List (Nat × hbY)) (h : cR cO e0 M x la lp nb ra rp ho pa tm Ac Py) (hk : cOK Ac Py) (k ac : Int32) (am : Int64) (pt9 : Int32) (hbad : (k < 0 ∨ 1000000 < k) ∨ (ac < 0 ∨ nI Ac.length ≤ ac) ∨ (am < 1 ∨ 1000000000000 < am)) : hb_Thr l D hb_cl s0 y_Hb_ask b_Hb_ask 10 (some .long) { frames := 7, cells := 1, slots := 6, locals := 111 } [.ref x, .int k, .int ac, .long am, .int pt9] M "java/lang/IllegalArgumentException" := by
  refine hb_Thr.of (by decide) (Nat.le_of_ble_eq_true rfl) ?_
  intro p e s m below meth c A hAe hX hz hP hD hA hS ls hl
  obtain ⟨hx, hb, hr, hml, hown, hlocks, hnm, hG, hnh⟩ := id hX
  have hown : s.vm.findClass "HoldBook" = some m.cls := hown
  have hts := hE.ts hG ([.ref x, .int k, .int ac, .long am, .int pt9] : List Value).toArray
  have hK := hE.kn hG
  have hl : lv_has ls 10 [(0, .ref x), (1, .int k), (2, .int ac), (3, .long am), (5, .int pt9)] := hl
  have fx := h.1
  obtain ⟨mda, fla⟩ := h.fla
  obtain ⟨mdp, flp⟩ := h.flp
  have hlA := hk.1
  have hlP := hk.2.1
  refine lv_iload_n hx hb d_Hb_ask_0 rfl (lv_at hl 1 rfl) ?_
  by_cases z1 : (k < 0 ∨ 1000000 < k)
  · skip
    exact hb_thrS (rest := []) hAe hX hts hb_gd Y_Hb_checkKey (c_Hb_checkKey_bad hE M k z1) ml_Hb_68 st_Hb_checkKey hz hP hD hS hA rfl hl.1 rfl (Nat.le_of_ble_eq_true rfl) ⟨Nat.le_of_ble_eq_true rfl, Nat.le_of_ble_eq_true rfl⟩ ⟨Nat.le_of_ble_eq_true rfl, Nat.le_of_ble_eq_true rfl⟩ d_Hb_ask_1 (Nat.le_of_ble_eq_true rfl) (Nat.le_of_ble_eq_true rfl)
  refine hb_callS (rest := []) hX hts hb_gd Y_Hb_checkKey (c_Hb_checkKey_ok hE M k (not_or.mp z1)) ml_Hb_68 st_Hb_checkKey hz hP hD hS hA rfl hl.1 rfl (Nat.le_of_ble_eq_true rfl) ⟨Nat.le_of_ble_eq_true rfl, Nat.le_of_ble_eq_true rfl⟩ ⟨Nat.le_of_ble_eq_true rfl, Nat.le_of_ble_eq_true rfl⟩ d_Hb_ask_1 (fun v4 M2 H locs hq3 hP hD hS _ hkp => ?_)
  obtain ⟨ev5, eM6⟩ := hq3
  subst ev5
  rw [eM6] at hP hD
  refine W.eq (g2 := F0 m 4 ls []) rfl ?_
  refine lv_aload_n hx hb d_Hb_ask_4 rfl (lv_at hl 0 rfl) ?_
  refine lv_iload_n hx hb d_Hb_ask_5 rfl (lv_at hl 2 rfl) ?_
  rcases pk_ix ac (n := Ac.length) (by omega) with z | z | ⟨ka, hka, ez⟩
  · skip
    exact hb_thrV (rest := []) hAe hX hts hb_gd Y_Hb_checkAccount (c_Hb_checkAccount_bad hE M x la lp nb ra rp ho pa tm Ac Py h hk ac (Or.inl z)) ml_Hb_72 im_Hb_checkAccount se_Hb_checkAccount hK fx hC_Hb.1 hz hP hD hS hA rfl hl.1 rfl (Nat.le_of_ble_eq_true rfl) ⟨Nat.le_of_ble_eq_true rfl, Nat.le_of_ble_eq_true rfl⟩ ⟨Nat.le_of_ble_eq_true rfl, Nat.le_of_ble_eq_true rfl⟩ d_Hb_ask_6 (Nat.le_of_ble_eq_true rfl) (Nat.le_of_ble_eq_true rfl)
  · skip
    exact hb_thrV (rest := []) hAe hX hts hb_gd Y_Hb_checkAccount (c_Hb_checkAccount_bad hE M x la lp nb ra rp ho pa tm Ac Py h hk ac (Or.inr z)) ml_Hb_72 im_Hb_checkAccount se_Hb_checkAccount hK fx hC_Hb.1 hz hP hD hS hA rfl hl.1 rfl (Nat.le_of_ble_eq_true rfl) ⟨Nat.le_of_ble_eq_true rfl, Nat.le_of_ble_eq_true rfl⟩ ⟨Nat.le_of_ble_eq_true rfl, Nat.le_of_ble_eq_true rfl⟩ d_Hb_ask_6 (Nat.le_of_ble_eq_true rfl) (Nat.le_of_ble_eq_true rfl)
  have zk : ¬ (ac < 0 ∨ nI Ac.length ≤ ac) := by rw [ez]; intro y; rcases y with y | y; exact nI_pos (by omega) y; exact nI_ge hka (by omega) y
  refine W.eq (g2 := F0 m 6 ls [.int (nI ka), .ref x]) (by rw [ez]) ?_
  refine hb_callV (rest := []) hX hts hb_gd Y_Hb_checkAccount (c_Hb_checkAccount_ok hE M x la lp nb ra rp ho pa tm Ac Py h hk ka hka) ml_Hb_72 im_Hb_checkAccount se_Hb_checkAccount hK fx hC_Hb.1 hz hP hD hS hA rfl hl.1 rfl (Nat.le_of_ble_eq_true rfl) ⟨Nat.le_of_ble_eq_true rfl, Nat.le_of_ble_eq_true rfl⟩ ⟨Nat.le_of_ble_eq_true rfl, Nat.le_of_ble_eq_true rfl⟩ d_Hb_ask_6 (fun v9 M7 H locs hq8 hP hD hS _ hkp => ?_)
  obtain ⟨ev10, eM11⟩ := hq8
  subst ev10
  rw [eM11] at hP hD
  refine W.eq (g2 := F0 m 9 ls []) rfl ?_
  refine lv_lload_n hx hb d_Hb_ask_9 rfl (lv_at hl 3 rfl) ?_
  by_cases z12 : (am < 1 ∨ 1000000000000 < am)
  · skip
    exact hb_thrS (rest := []) hAe hX hts hb_gd Y_Hb_checkAmount (c_Hb_checkAmount_bad hE M am z12) ml_Hb_75 st_Hb_checkAmount hz hP hD hS hA rfl hl.1 rfl (Nat.le_of_ble_eq_true rfl) ⟨Nat.le_of_ble_eq_true rfl, Nat.le_of_ble_eq_true rfl⟩ ⟨Nat.le_of_ble_eq_true rfl, Nat.le_of_ble_eq_true rfl⟩ d_Hb_ask_10 (Nat.le_of_ble_eq_true rfl) (Nat.le_of_ble_eq_true rfl)
  refine hb_callS (rest := []) hX hts hb_gd Y_Hb_checkAmount (c_Hb_checkAmount_ok hE M am (not_or.mp z12)) ml_Hb_75 st_Hb_checkAmount hz hP hD hS hA rfl hl.1 rfl (Nat.le_of_ble_eq_true rfl) ⟨Nat.le_of_ble_eq_true rfl, Nat.le_of_ble_eq_true rfl⟩ ⟨Nat.le_of_ble_eq_true rfl, Nat.le_of_ble_eq_true rfl⟩ d_Hb_ask_10 (fun v15 M13 H locs hq14 hP hD hS _ hkp => ?_)
  obtain ⟨ev16, eM17⟩ := hq14
  subst ev16
  rw [eM17] at hP hD
  refine W.eq (g2 := F0 m 13 ls []) rfl ?_
  rcases hbad with y | y | y
  · exact absurd y z1
  · exact absurd y zk
  · exact absurd y z12
set_option maxHeartbeats 4000000 in
set_option maxRecDepth 100000 in
/-- Hb_clear, out of bounds -/
theorem c_Hb_clear_bad {l : Launch} {s0 : State} {D : va_G} {cI cJ cO : ClassId} {e0 mi : Nat} (hE : hb_E l s0 D cI cJ cO e0 mi) (M : hb_M) (x la lp nb ra rp : Nat) (ho pa tm : Int32) (Ac : List (Nat × hbA)) (Py : List (Nat × hbY)) (h : cR cO e0 M x la lp nb ra rp ho pa tm Ac Py) (hk : cOK Ac Py) (k : Int32) (am : Int64) (mo : Int32) (hbad : (k < 0 ∨ 1000000 < k) ∨ (am < 1 ∨ 1000000000000 < am)) : hb_Thr l D hb_cl s0 y_Hb_clear b_Hb_clear 6 (some .long) { frames := 7, cells := 1, slots := 6, locals := 111 } [.ref x, .int k, .long am, .int mo] M "java/lang/IllegalArgumentException" := by
  refine hb_Thr.of (by decide) (Nat.le_of_ble_eq_true rfl) ?_
  intro p e s m below meth c A hAe hX hz hP hD hA hS ls hl
  obtain ⟨hx, hb, hr, hml, hown, hlocks, hnm, hG, hnh⟩ := id hX
  have hown : s.vm.findClass "HoldBook" = some m.cls := hown
  have hts := hE.ts hG ([.ref x, .int k, .long am, .int mo] : List Value).toArray
  have hK := hE.kn hG
  have hl : lv_has ls 6 [(0, .ref x), (1, .int k), (2, .long am), (4, .int mo)] := hl
  have fx := h.1
  obtain ⟨mda, fla⟩ := h.fla
  obtain ⟨mdp, flp⟩ := h.flp
  have hlA := hk.1
  have hlP := hk.2.1
  refine lv_iload_n hx hb d_Hb_clear_0 rfl (lv_at hl 1 rfl) ?_
  by_cases z1 : (k < 0 ∨ 1000000 < k)
  · skip
    exact hb_thrS (rest := []) hAe hX hts hb_gd Y_Hb_checkKey (c_Hb_checkKey_bad hE M k z1) ml_Hb_68 st_Hb_checkKey hz hP hD hS hA rfl hl.1 rfl (Nat.le_of_ble_eq_true rfl) ⟨Nat.le_of_ble_eq_true rfl, Nat.le_of_ble_eq_true rfl⟩ ⟨Nat.le_of_ble_eq_true rfl, Nat.le_of_ble_eq_true rfl⟩ d_Hb_clear_1 (Nat.le_of_ble_eq_true rfl) (Nat.le_of_ble_eq_true rfl)
  refine hb_callS (rest := []) hX hts hb_gd Y_Hb_checkKey (c_Hb_checkKey_ok hE M k (not_or.mp z1)) ml_Hb_68 st_Hb_checkKey hz hP hD hS hA rfl hl.1 rfl (Nat.le_of_ble_eq_true rfl) ⟨Nat.le_of_ble_eq_true rfl, Nat.le_of_ble_eq_true rfl⟩ ⟨Nat.le_of_ble_eq_true rfl, Nat.le_of_ble_eq_true rfl⟩ d_Hb_clear_1 (fun v4 M2 H locs hq3 hP hD hS _ hkp => ?_)
  obtain ⟨ev5, eM6⟩ := hq3
  subst ev5
  rw [eM6] at hP hD
  refine W.eq (g2 := F0 m 4 ls []) rfl ?_
  refine lv_lload_n hx hb d_Hb_clear_4 rfl (lv_at hl 2 rfl) ?_
  by_cases z7 : (am < 1 ∨ 1000000000000 < am)
  · skip
    exact hb_thrS (rest := []) hAe hX hts hb_gd Y_Hb_checkAmount (c_Hb_checkAmount_bad hE M am z7) ml_Hb_75 st_Hb_checkAmount hz hP hD hS hA rfl hl.1 rfl (Nat.le_of_ble_eq_true rfl) ⟨Nat.le_of_ble_eq_true rfl, Nat.le_of_ble_eq_true rfl⟩ ⟨Nat.le_of_ble_eq_true rfl, Nat.le_of_ble_eq_true rfl⟩ d_Hb_clear_5 (Nat.le_of_ble_eq_true rfl) (Nat.le_of_ble_eq_true rfl)
  refine hb_callS (rest := []) hX hts hb_gd Y_Hb_checkAmount (c_Hb_checkAmount_ok hE M am (not_or.mp z7)) ml_Hb_75 st_Hb_checkAmount hz hP hD hS hA rfl hl.1 rfl (Nat.le_of_ble_eq_true rfl) ⟨Nat.le_of_ble_eq_true rfl, Nat.le_of_ble_eq_true rfl⟩ ⟨Nat.le_of_ble_eq_true rfl, Nat.le_of_ble_eq_true rfl⟩ d_Hb_clear_5 (fun v10 M8 H locs hq9 hP hD hS _ hkp => ?_)
  obtain ⟨ev11, eM12⟩ := hq9
  subst ev11
  rw [eM12] at hP hD
  refine W.eq (g2 := F0 m 8 ls []) rfl ?_
  rcases hbad with y | y
  · exact absurd y z1
  · exact absurd y z7
set_option maxHeartbeats 4000000 in
set_option maxRecDepth 100000 in
/-- Hb_undo, out of bounds -/
theorem c_Hb_undo_bad {l : Launch} {s0 : State} {D : va_G} {cI cJ cO : ClassId} {e0 mi : Nat} (hE : hb_E l s0 D cI cJ cO e0 mi) (M : hb_M) (x la lp nb ra rp : Nat) (ho pa tm : Int32) (Ac : List (Nat × hbA)) (Py : List (Nat × hbY)) (h : cR cO e0 M x la lp nb ra rp ho pa tm Ac Py) (hk : cOK Ac Py) (k : Int32) (le : Int64) (to : Int32) (hbad : (k < 0 ∨ 1000000 < k) ∨ le < 0) : hb_Thr l D hb_cl s0 y_Hb_undo b_Hb_undo 6 (some .long) { frames := 7, cells := 1, slots := 6, locals := 111 } [.ref x, .int k, .long le, .int to] M "java/lang/IllegalArgumentException" := by
  refine hb_Thr.of (by decide) (Nat.le_of_ble_eq_true rfl) ?_
  intro p e s m below meth c A hAe hX hz hP hD hA hS ls hl
  obtain ⟨hx, hb, hr, hml, hown, hlocks, hnm, hG, hnh⟩ := id hX
  have hown : s.vm.findClass "HoldBook" = some m.cls := hown
  have hts := hE.ts hG ([.ref x, .int k, .long le, .int to] : List Value).toArray
  have hK := hE.kn hG
  have hl : lv_has ls 6 [(0, .ref x), (1, .int k), (2, .long le), (4, .int to)] := hl
  have fx := h.1
  obtain ⟨mda, fla⟩ := h.fla
  obtain ⟨mdp, flp⟩ := h.flp
  have hlA := hk.1
  have hlP := hk.2.1
  refine lv_iload_n hx hb d_Hb_undo_0 rfl (lv_at hl 1 rfl) ?_
  by_cases z1 : (k < 0 ∨ 1000000 < k)
  · skip
    exact hb_thrS (rest := []) hAe hX hts hb_gd Y_Hb_checkKey (c_Hb_checkKey_bad hE M k z1) ml_Hb_68 st_Hb_checkKey hz hP hD hS hA rfl hl.1 rfl (Nat.le_of_ble_eq_true rfl) ⟨Nat.le_of_ble_eq_true rfl, Nat.le_of_ble_eq_true rfl⟩ ⟨Nat.le_of_ble_eq_true rfl, Nat.le_of_ble_eq_true rfl⟩ d_Hb_undo_1 (Nat.le_of_ble_eq_true rfl) (Nat.le_of_ble_eq_true rfl)
  refine hb_callS (rest := []) hX hts hb_gd Y_Hb_checkKey (c_Hb_checkKey_ok hE M k (not_or.mp z1)) ml_Hb_68 st_Hb_checkKey hz hP hD hS hA rfl hl.1 rfl (Nat.le_of_ble_eq_true rfl) ⟨Nat.le_of_ble_eq_true rfl, Nat.le_of_ble_eq_true rfl⟩ ⟨Nat.le_of_ble_eq_true rfl, Nat.le_of_ble_eq_true rfl⟩ d_Hb_undo_1 (fun v4 M2 H locs hq3 hP hD hS _ hkp => ?_)
  obtain ⟨ev5, eM6⟩ := hq3
  subst ev5
  rw [eM6] at hP hD
  refine W.eq (g2 := F0 m 4 ls []) rfl ?_
  refine lv_lload_n hx hb d_Hb_undo_4 rfl (lv_at hl 2 rfl) ?_
  refine lv_lconst (v := 0) hx hb d_Hb_undo_5 (by decide) ?_
  refine hb_lc_ge (tgt := 20) hx hb d_Hb_undo_6 d_Hb_undo_7 (by decide) (fun c7 => ?_) (fun c7 => ?_)
  · skip
    have c7n := hb_ngt c7
    have zx := c7n
    rcases hbad with y | y
    · exact absurd y z1
    · exact absurd y zx
  · skip
    have c7n := hb_gt c7
    exact hb_iae hE hAe hX hown hz hP hS hl.1 (List.mem_of_getElem? (i := 475) (by decide +kernel) : Cond.stringRef "HoldBook" 135 "what is left is below 0" ∈ lw_tbl) d_Hb_undo_10 d_Hb_undo_13 d_Hb_undo_14 d_Hb_undo_16 d_Hb_undo_19 (Nat.le_of_ble_eq_true rfl) (Nat.le_of_ble_eq_true rfl) (Nat.le_of_ble_eq_true rfl) (Nat.le_of_ble_eq_true rfl) (Nat.le_of_ble_eq_true rfl) (Nat.le_of_ble_eq_true rfl)
set_option maxHeartbeats 4000000 in
set_option maxRecDepth 100000 in
/-- Hb_charge, out of bounds -/
theorem c_Hb_charge_bad {l : Launch} {s0 : State} {D : va_G} {cI cJ cO : ClassId} {e0 mi : Nat} (hE : hb_E l s0 D cI cJ cO e0 mi) (M : hb_M) (x la lp nb ra rp : Nat) (ho pa tm : Int32) (Ac : List (Nat × hbA)) (Py : List (Nat × hbY)) (h : cR cO e0 M x la lp nb ra rp ho pa tm Ac Py) (hk : cOK Ac Py) (k : Int32) (am : Int64) (hbad : (k < 0 ∨ 1000000 < k) ∨ am < 1) : hb_Thr l D hb_cl s0 y_Hb_charge b_Hb_charge 5 (some .int) { frames := 7, cells := 1, slots := 6, locals := 111 } [.ref x, .int k, .long am] M "java/lang/IllegalArgumentException" := by
  refine hb_Thr.of (by decide) (Nat.le_of_ble_eq_true rfl) ?_
  intro p e s m below meth c A hAe hX hz hP hD hA hS ls hl
  obtain ⟨hx, hb, hr, hml, hown, hlocks, hnm, hG, hnh⟩ := id hX
  have hown : s.vm.findClass "HoldBook" = some m.cls := hown
  have hts := hE.ts hG ([.ref x, .int k, .long am] : List Value).toArray
  have hK := hE.kn hG
  have hl : lv_has ls 5 [(0, .ref x), (1, .int k), (2, .long am)] := hl
  have fx := h.1
  obtain ⟨mda, fla⟩ := h.fla
  obtain ⟨mdp, flp⟩ := h.flp
  have hlA := hk.1
  have hlP := hk.2.1
  refine lv_iload_n hx hb d_Hb_charge_0 rfl (lv_at hl 1 rfl) ?_
  by_cases z1 : (k < 0 ∨ 1000000 < k)
  · skip
    exact hb_thrS (rest := []) hAe hX hts hb_gd Y_Hb_checkKey (c_Hb_checkKey_bad hE M k z1) ml_Hb_68 st_Hb_checkKey hz hP hD hS hA rfl hl.1 rfl (Nat.le_of_ble_eq_true rfl) ⟨Nat.le_of_ble_eq_true rfl, Nat.le_of_ble_eq_true rfl⟩ ⟨Nat.le_of_ble_eq_true rfl, Nat.le_of_ble_eq_true rfl⟩ d_Hb_charge_1 (Nat.le_of_ble_eq_true rfl) (Nat.le_of_ble_eq_true rfl)
  refine hb_callS (rest := []) hX hts hb_gd Y_Hb_checkKey (c_Hb_checkKey_ok hE M k (not_or.mp z1)) ml_Hb_68 st_Hb_checkKey hz hP hD hS hA rfl hl.1 rfl (Nat.le_of_ble_eq_true rfl) ⟨Nat.le_of_ble_eq_true rfl, Nat.le_of_ble_eq_true rfl⟩ ⟨Nat.le_of_ble_eq_true rfl, Nat.le_of_ble_eq_true rfl⟩ d_Hb_charge_1 (fun v4 M2 H locs hq3 hP hD hS _ hkp => ?_)
  obtain ⟨ev5, eM6⟩ := hq3
  subst ev5
  rw [eM6] at hP hD
  refine W.eq (g2 := F0 m 4 ls []) rfl ?_
  refine lv_lload_n hx hb d_Hb_charge_4 rfl (lv_at hl 2 rfl) ?_
  refine lv_lconst (v := 1) hx hb d_Hb_charge_5 (by decide) ?_
  refine hb_lc_ge (tgt := 20) hx hb d_Hb_charge_6 d_Hb_charge_7 (by decide) (fun c7 => ?_) (fun c7 => ?_)
  · skip
    have c7n := hb_ngt c7
    have zx := c7n
    rcases hbad with y | y
    · exact absurd y z1
    · exact absurd y zx
  · skip
    have c7n := hb_gt c7
    exact hb_iae hE hAe hX hown hz hP hS hl.1 (List.mem_of_getElem? (i := 502) (by decide +kernel) : Cond.stringRef "HoldBook" 151 "the amount is below 1" ∈ lw_tbl) d_Hb_charge_10 d_Hb_charge_13 d_Hb_charge_14 d_Hb_charge_16 d_Hb_charge_19 (Nat.le_of_ble_eq_true rfl) (Nat.le_of_ble_eq_true rfl) (Nat.le_of_ble_eq_true rfl) (Nat.le_of_ble_eq_true rfl) (Nat.le_of_ble_eq_true rfl) (Nat.le_of_ble_eq_true rfl)
set_option maxHeartbeats 4000000 in
set_option maxRecDepth 100000 in
/-- Hb_represent, out of bounds -/
theorem c_Hb_represent_bad {l : Launch} {s0 : State} {D : va_G} {cI cJ cO : ClassId} {e0 mi : Nat} (hE : hb_E l s0 D cI cJ cO e0 mi) (M : hb_M) (x la lp nb ra rp : Nat) (ho pa tm : Int32) (Ac : List (Nat × hbA)) (Py : List (Nat × hbY)) (h : cR cO e0 M x la lp nb ra rp ho pa tm Ac Py) (hk : cOK Ac Py) (k : Int32) (hbad : k < 0 ∨ 1000000 < k) : hb_Thr l D hb_cl s0 y_Hb_represent b_Hb_represent 3 (some .int) { frames := 7, cells := 1, slots := 6, locals := 111 } [.ref x, .int k] M "java/lang/IllegalArgumentException" := by
  refine hb_Thr.of (by decide) (Nat.le_of_ble_eq_true rfl) ?_
  intro p e s m below meth c A hAe hX hz hP hD hA hS ls hl
  obtain ⟨hx, hb, hr, hml, hown, hlocks, hnm, hG, hnh⟩ := id hX
  have hown : s.vm.findClass "HoldBook" = some m.cls := hown
  have hts := hE.ts hG ([.ref x, .int k] : List Value).toArray
  have hK := hE.kn hG
  have hl : lv_has ls 3 [(0, .ref x), (1, .int k)] := hl
  have fx := h.1
  obtain ⟨mda, fla⟩ := h.fla
  obtain ⟨mdp, flp⟩ := h.flp
  have hlA := hk.1
  have hlP := hk.2.1
  refine lv_iload_n hx hb d_Hb_represent_0 rfl (lv_at hl 1 rfl) ?_
  by_cases z1 : (k < 0 ∨ 1000000 < k)
  · skip
    exact hb_thrS (rest := []) hAe hX hts hb_gd Y_Hb_checkKey (c_Hb_checkKey_bad hE M k z1) ml_Hb_68 st_Hb_checkKey hz hP hD hS hA rfl hl.1 rfl (Nat.le_of_ble_eq_true rfl) ⟨Nat.le_of_ble_eq_true rfl, Nat.le_of_ble_eq_true rfl⟩ ⟨Nat.le_of_ble_eq_true rfl, Nat.le_of_ble_eq_true rfl⟩ d_Hb_represent_1 (Nat.le_of_ble_eq_true rfl) (Nat.le_of_ble_eq_true rfl)
  refine hb_callS (rest := []) hX hts hb_gd Y_Hb_checkKey (c_Hb_checkKey_ok hE M k (not_or.mp z1)) ml_Hb_68 st_Hb_checkKey hz hP hD hS hA rfl hl.1 rfl (Nat.le_of_ble_eq_true rfl) ⟨Nat.le_of_ble_eq_true rfl, Nat.le_of_ble_eq_true rfl⟩ ⟨Nat.le_of_ble_eq_true rfl, Nat.le_of_ble_eq_true rfl⟩ d_Hb_represent_1 (fun v4 M2 H locs hq3 hP hD hS _ hkp => ?_)
  obtain ⟨ev5, eM6⟩ := hq3
  subst ev5
  rw [eM6] at hP hD
  refine W.eq (g2 := F0 m 4 ls []) rfl ?_
  exact absurd hbad z1
set_option maxHeartbeats 4000000 in
set_option maxRecDepth 100000 in
/-- Hb_decide, out of bounds -/
theorem c_Hb_decide_bad {l : Launch} {s0 : State} {D : va_G} {cI cJ cO : ClassId} {e0 mi : Nat} (hE : hb_E l s0 D cI cJ cO e0 mi) (M : hb_M) (x la lp nb ra rp : Nat) (ho pa tm : Int32) (Ac : List (Nat × hbA)) (Py : List (Nat × hbY)) (h : cR cO e0 M x la lp nb ra rp ho pa tm Ac Py) (hk : cOK Ac Py) (k w : Int32) (hbad : k < 0 ∨ 1000000 < k) : hb_Thr l D hb_cl s0 y_Hb_decide b_Hb_decide 4 (some .int) { frames := 7, cells := 1, slots := 6, locals := 111 } [.ref x, .int k, .int w] M "java/lang/IllegalArgumentException" := by
  refine hb_Thr.of (by decide) (Nat.le_of_ble_eq_true rfl) ?_
  intro p e s m below meth c A hAe hX hz hP hD hA hS ls hl
  obtain ⟨hx, hb, hr, hml, hown, hlocks, hnm, hG, hnh⟩ := id hX
  have hown : s.vm.findClass "HoldBook" = some m.cls := hown
  have hts := hE.ts hG ([.ref x, .int k, .int w] : List Value).toArray
  have hK := hE.kn hG
  have hl : lv_has ls 4 [(0, .ref x), (1, .int k), (2, .int w)] := hl
  have fx := h.1
  obtain ⟨mda, fla⟩ := h.fla
  obtain ⟨mdp, flp⟩ := h.flp
  have hlA := hk.1
  have hlP := hk.2.1
  refine lv_iload_n hx hb d_Hb_decide_0 rfl (lv_at hl 1 rfl) ?_
  by_cases z1 : (k < 0 ∨ 1000000 < k)
  · skip
    exact hb_thrS (rest := []) hAe hX hts hb_gd Y_Hb_checkKey (c_Hb_checkKey_bad hE M k z1) ml_Hb_68 st_Hb_checkKey hz hP hD hS hA rfl hl.1 rfl (Nat.le_of_ble_eq_true rfl) ⟨Nat.le_of_ble_eq_true rfl, Nat.le_of_ble_eq_true rfl⟩ ⟨Nat.le_of_ble_eq_true rfl, Nat.le_of_ble_eq_true rfl⟩ d_Hb_decide_1 (Nat.le_of_ble_eq_true rfl) (Nat.le_of_ble_eq_true rfl)
  refine hb_callS (rest := []) hX hts hb_gd Y_Hb_checkKey (c_Hb_checkKey_ok hE M k (not_or.mp z1)) ml_Hb_68 st_Hb_checkKey hz hP hD hS hA rfl hl.1 rfl (Nat.le_of_ble_eq_true rfl) ⟨Nat.le_of_ble_eq_true rfl, Nat.le_of_ble_eq_true rfl⟩ ⟨Nat.le_of_ble_eq_true rfl, Nat.le_of_ble_eq_true rfl⟩ d_Hb_decide_1 (fun v4 M2 H locs hq3 hP hD hS _ hkp => ?_)
  obtain ⟨ev5, eM6⟩ := hq3
  subst ev5
  rw [eM6] at hP hD
  refine W.eq (g2 := F0 m 4 ls []) rfl ?_
  exact absurd hbad z1
set_option maxHeartbeats 4000000 in
set_option maxRecDepth 100000 in
/-- Hb_funds, out of bounds -/
theorem c_Hb_funds_bad {l : Launch} {s0 : State} {D : va_G} {cI cJ cO : ClassId} {e0 mi : Nat} (hE : hb_E l s0 D cI cJ cO e0 mi) (M : hb_M) (x la lp nb ra rp : Nat) (ho pa tm : Int32) (Ac : List (Nat × hbA)) (Py : List (Nat × hbY)) (h : cR cO e0 M x la lp nb ra rp ho pa tm Ac Py) (hk : cOK Ac Py) (ac wh : Int32) (hbad : (ac < 0 ∨ nI Ac.length ≤ ac) ∨ (wh < 0 ∨ 3 < wh)) : hb_Thr l D hb_cl s0 y_Hb_funds b_Hb_funds 3 (some .long) { frames := 7, cells := 1, slots := 6, locals := 111 } [.ref x, .int ac, .int wh] M "java/lang/IllegalArgumentException" := by
  refine hb_Thr.of (by decide) (Nat.le_of_ble_eq_true rfl) ?_
  intro p e s m below meth c A hAe hX hz hP hD hA hS ls hl
  obtain ⟨hx, hb, hr, hml, hown, hlocks, hnm, hG, hnh⟩ := id hX
  have hown : s.vm.findClass "HoldBook" = some m.cls := hown
  have hts := hE.ts hG ([.ref x, .int ac, .int wh] : List Value).toArray
  have hK := hE.kn hG
  have hl : lv_has ls 3 [(0, .ref x), (1, .int ac), (2, .int wh)] := hl
  have fx := h.1
  obtain ⟨mda, fla⟩ := h.fla
  obtain ⟨mdp, flp⟩ := h.flp
  have hlA := hk.1
  have hlP := hk.2.1
  refine lv_aload_n hx hb d_Hb_funds_0 rfl (lv_at hl 0 rfl) ?_
  refine lv_iload_n hx hb d_Hb_funds_1 rfl (lv_at hl 1 rfl) ?_
  rcases pk_ix ac (n := Ac.length) (by omega) with z | z | ⟨ka, hka, ez⟩
  · skip
    exact hb_thrV (rest := []) hAe hX hts hb_gd Y_Hb_checkAccount (c_Hb_checkAccount_bad hE M x la lp nb ra rp ho pa tm Ac Py h hk ac (Or.inl z)) ml_Hb_72 im_Hb_checkAccount se_Hb_checkAccount hK fx hC_Hb.1 hz hP hD hS hA rfl hl.1 rfl (Nat.le_of_ble_eq_true rfl) ⟨Nat.le_of_ble_eq_true rfl, Nat.le_of_ble_eq_true rfl⟩ ⟨Nat.le_of_ble_eq_true rfl, Nat.le_of_ble_eq_true rfl⟩ d_Hb_funds_2 (Nat.le_of_ble_eq_true rfl) (Nat.le_of_ble_eq_true rfl)
  · skip
    exact hb_thrV (rest := []) hAe hX hts hb_gd Y_Hb_checkAccount (c_Hb_checkAccount_bad hE M x la lp nb ra rp ho pa tm Ac Py h hk ac (Or.inr z)) ml_Hb_72 im_Hb_checkAccount se_Hb_checkAccount hK fx hC_Hb.1 hz hP hD hS hA rfl hl.1 rfl (Nat.le_of_ble_eq_true rfl) ⟨Nat.le_of_ble_eq_true rfl, Nat.le_of_ble_eq_true rfl⟩ ⟨Nat.le_of_ble_eq_true rfl, Nat.le_of_ble_eq_true rfl⟩ d_Hb_funds_2 (Nat.le_of_ble_eq_true rfl) (Nat.le_of_ble_eq_true rfl)
  have zk : ¬ (ac < 0 ∨ nI Ac.length ≤ ac) := by rw [ez]; intro y; rcases y with y | y; exact nI_pos (by omega) y; exact nI_ge hka (by omega) y
  refine W.eq (g2 := F0 m 2 ls [.int (nI ka), .ref x]) (by rw [ez]) ?_
  refine hb_callV (rest := []) hX hts hb_gd Y_Hb_checkAccount (c_Hb_checkAccount_ok hE M x la lp nb ra rp ho pa tm Ac Py h hk ka hka) ml_Hb_72 im_Hb_checkAccount se_Hb_checkAccount hK fx hC_Hb.1 hz hP hD hS hA rfl hl.1 rfl (Nat.le_of_ble_eq_true rfl) ⟨Nat.le_of_ble_eq_true rfl, Nat.le_of_ble_eq_true rfl⟩ ⟨Nat.le_of_ble_eq_true rfl, Nat.le_of_ble_eq_true rfl⟩ d_Hb_funds_2 (fun v3 M1 H locs hq2 hP hD hS _ hkp => ?_)
  obtain ⟨ev4, eM5⟩ := hq2
  subst ev4
  rw [eM5] at hP hD
  refine W.eq (g2 := F0 m 5 ls []) rfl ?_
  refine lv_iload_n hx hb d_Hb_funds_5 rfl (lv_at hl 2 rfl) ?_
  refine lv_iconst (v := 3) hx hb d_Hb_funds_6 (by decide) ?_
  by_cases z6 : (wh < 0 ∨ 3 < wh)
  · skip
    exact hb_thrS (rest := []) hAe hX hts hb_gd Y_Hb_checkWhat (c_Hb_checkWhat_bad hE M wh 3 z6) ml_Hb_176 st_Hb_checkWhat hz hP hD hS hA rfl hl.1 rfl (Nat.le_of_ble_eq_true rfl) ⟨Nat.le_of_ble_eq_true rfl, Nat.le_of_ble_eq_true rfl⟩ ⟨Nat.le_of_ble_eq_true rfl, Nat.le_of_ble_eq_true rfl⟩ d_Hb_funds_7 (Nat.le_of_ble_eq_true rfl) (Nat.le_of_ble_eq_true rfl)
  refine hb_callS (rest := []) hX hts hb_gd Y_Hb_checkWhat (c_Hb_checkWhat_ok hE M wh 3 (not_or.mp z6)) ml_Hb_176 st_Hb_checkWhat hz hP hD hS hA rfl hl.1 rfl (Nat.le_of_ble_eq_true rfl) ⟨Nat.le_of_ble_eq_true rfl, Nat.le_of_ble_eq_true rfl⟩ ⟨Nat.le_of_ble_eq_true rfl, Nat.le_of_ble_eq_true rfl⟩ d_Hb_funds_7 (fun v9 M7 H locs hq8 hP hD hS _ hkp => ?_)
  obtain ⟨ev10, eM11⟩ := hq8
  subst ev10
  rw [eM11] at hP hD
  refine W.eq (g2 := F0 m 10 ls []) rfl ?_
  rcases hbad with y | y
  · exact absurd y zk
  · exact absurd y z6
set_option maxHeartbeats 4000000 in
set_option maxRecDepth 100000 in
/-- Hb_payment, out of bounds -/
theorem c_Hb_payment_bad {l : Launch} {s0 : State} {D : va_G} {cI cJ cO : ClassId} {e0 mi : Nat} (hE : hb_E l s0 D cI cJ cO e0 mi) (M : hb_M) (x la lp nb ra rp : Nat) (ho pa tm : Int32) (Ac : List (Nat × hbA)) (Py : List (Nat × hbY)) (h : cR cO e0 M x la lp nb ra rp ho pa tm Ac Py) (hk : cOK Ac Py) (k wh : Int32) (hbad : (k < 0 ∨ 1000000 < k) ∨ (wh < 0 ∨ 8 < wh)) : hb_Thr l D hb_cl s0 y_Hb_payment b_Hb_payment 4 (some .long) { frames := 7, cells := 1, slots := 6, locals := 111 } [.ref x, .int k, .int wh] M "java/lang/IllegalArgumentException" := by
  refine hb_Thr.of (by decide) (Nat.le_of_ble_eq_true rfl) ?_
  intro p e s m below meth c A hAe hX hz hP hD hA hS ls hl
  obtain ⟨hx, hb, hr, hml, hown, hlocks, hnm, hG, hnh⟩ := id hX
  have hown : s.vm.findClass "HoldBook" = some m.cls := hown
  have hts := hE.ts hG ([.ref x, .int k, .int wh] : List Value).toArray
  have hK := hE.kn hG
  have hl : lv_has ls 4 [(0, .ref x), (1, .int k), (2, .int wh)] := hl
  have fx := h.1
  obtain ⟨mda, fla⟩ := h.fla
  obtain ⟨mdp, flp⟩ := h.flp
  have hlA := hk.1
  have hlP := hk.2.1
  refine lv_iload_n hx hb d_Hb_payment_0 rfl (lv_at hl 1 rfl) ?_
  by_cases z1 : (k < 0 ∨ 1000000 < k)
  · skip
    exact hb_thrS (rest := []) hAe hX hts hb_gd Y_Hb_checkKey (c_Hb_checkKey_bad hE M k z1) ml_Hb_68 st_Hb_checkKey hz hP hD hS hA rfl hl.1 rfl (Nat.le_of_ble_eq_true rfl) ⟨Nat.le_of_ble_eq_true rfl, Nat.le_of_ble_eq_true rfl⟩ ⟨Nat.le_of_ble_eq_true rfl, Nat.le_of_ble_eq_true rfl⟩ d_Hb_payment_1 (Nat.le_of_ble_eq_true rfl) (Nat.le_of_ble_eq_true rfl)
  refine hb_callS (rest := []) hX hts hb_gd Y_Hb_checkKey (c_Hb_checkKey_ok hE M k (not_or.mp z1)) ml_Hb_68 st_Hb_checkKey hz hP hD hS hA rfl hl.1 rfl (Nat.le_of_ble_eq_true rfl) ⟨Nat.le_of_ble_eq_true rfl, Nat.le_of_ble_eq_true rfl⟩ ⟨Nat.le_of_ble_eq_true rfl, Nat.le_of_ble_eq_true rfl⟩ d_Hb_payment_1 (fun v4 M2 H locs hq3 hP hD hS _ hkp => ?_)
  obtain ⟨ev5, eM6⟩ := hq3
  subst ev5
  rw [eM6] at hP hD
  refine W.eq (g2 := F0 m 4 ls []) rfl ?_
  refine lv_iload_n hx hb d_Hb_payment_4 rfl (lv_at hl 2 rfl) ?_
  refine lv_bipush (v := 8) hx hb d_Hb_payment_5 (by decide) ?_
  by_cases z7 : (wh < 0 ∨ 8 < wh)
  · skip
    exact hb_thrS (rest := []) hAe hX hts hb_gd Y_Hb_checkWhat (c_Hb_checkWhat_bad hE M wh 8 z7) ml_Hb_176 st_Hb_checkWhat hz hP hD hS hA rfl hl.1 rfl (Nat.le_of_ble_eq_true rfl) ⟨Nat.le_of_ble_eq_true rfl, Nat.le_of_ble_eq_true rfl⟩ ⟨Nat.le_of_ble_eq_true rfl, Nat.le_of_ble_eq_true rfl⟩ d_Hb_payment_7 (Nat.le_of_ble_eq_true rfl) (Nat.le_of_ble_eq_true rfl)
  refine hb_callS (rest := []) hX hts hb_gd Y_Hb_checkWhat (c_Hb_checkWhat_ok hE M wh 8 (not_or.mp z7)) ml_Hb_176 st_Hb_checkWhat hz hP hD hS hA rfl hl.1 rfl (Nat.le_of_ble_eq_true rfl) ⟨Nat.le_of_ble_eq_true rfl, Nat.le_of_ble_eq_true rfl⟩ ⟨Nat.le_of_ble_eq_true rfl, Nat.le_of_ble_eq_true rfl⟩ d_Hb_payment_7 (fun v10 M8 H locs hq9 hP hD hS _ hkp => ?_)
  obtain ⟨ev11, eM12⟩ := hq9
  subst ev11
  rw [eM12] at hP hD
  refine W.eq (g2 := F0 m 10 ls []) rfl ?_
  rcases hbad with y | y
  · exact absurd y z1
  · exact absurd y z7
