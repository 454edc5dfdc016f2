/-! HOLDBOOK: methods that only read -/
section CR2
variable {Ac : List (Nat × hbA)} {Py : List (Nat × hbY)}
theorem hb_pw {Py : List (Nat × hbY)} (h : Py.Pairwise (fun p q => p.2.1 < q.2.1)) {i j q q' : Nat} {r r' : hbY} (hij : i < j) (hi : Py[i]? = some (q, r)) (hj : Py[j]? = some (q', r')) : r.1 < r'.1 := by
  obtain ⟨h1, e1⟩ := List.getElem?_eq_some_iff.mp hi
  obtain ⟨h2, e2⟩ := List.getElem?_eq_some_iff.mp hj
  have := List.pairwise_iff_getElem.mp h i j h1 h2 hij
  rw [e1, e2] at this
  exact this
theorem hb_lti {x y : Int32} (h : x < y) : ¬ y < x := by
  rw [Int32.lt_iff_toInt_lt] at h ⊢
  omega
theorem hb_irr (x : Int32) : ¬ x < x := by
  rw [Int32.lt_iff_toInt_lt]
  omega
theorem hb_pos_at (hk : cOK Ac Py) {i q : Nat} {r : hbY} (hi : Py[i]? = some (q, r)) : hb_pos Py r.1 = i :=
  hb_pos_eq (fun j q' r' hj hq => hb_pw hk.2.2.1 hj hq hi) (Nat.le_of_lt (List.getElem?_eq_some_iff.mp hi).1) (fun q' r' hq => by rw [hi] at hq; cases hq; exact hb_irr _)
end CR2
set_option maxHeartbeats 4000000 in
set_option maxRecDepth 100000 in
/-- find(k), there -/
theorem c_Hb_find_at {l : Launch} {s0 : State} {D : va_G} {cI cJ cO : ClassId} {e0 mi : Nat} (hE : hb_E l s0 D cI cJ cO e0 mi) (M : hb_M) (x la lp nb ra rp : Nat) (ho pa tm : Int32) (Ac : List (Nat × hbA)) (Py : List (Nat × hbY)) (h : cR cO e0 M x la lp nb ra rp ho pa tm Ac Py) (hk : cOK Ac Py) (i q : Nat) (r : hbY) (hi : Py[i]? = some (q, r)) : hb_Met l D hb_cl s0 y_Hb_find b_Hb_find 4 (some (.object "HoldBook$Payment")) { frames := 4, cells := 0, slots := 0, locals := 86 } [.ref x, .int r.1] M (fun v M1 => v = some (.ref q) ∧ M1 = M) := by
  refine hb_Met.of (by decide) (Nat.le_of_ble_eq_true rfl) ?_
  intro p e s m below meth c A hAe hX hz hP hD hA hS ls hl
  obtain ⟨hx, hb, hr, hml, hown, hlocks, hnm, hG, hnh⟩ := id hX
  have hown : s.vm.findClass "HoldBook" = some m.cls := hown
  have hts := hE.ts hG ([.ref x, .int r.1] : List Value).toArray
  have hK := hE.kn hG
  have hl : lv_has ls 4 [(0, .ref x), (1, .int r.1)] := hl
  have fx := h.1
  obtain ⟨mda, fla⟩ := h.fla
  obtain ⟨mdp, flp⟩ := h.flp
  have hlA := hk.1
  have hlP := hk.2.1
  refine lv_aload_n hx hb d_Hb_find_0 rfl (lv_at hl 0 rfl) ?_
  refine lv_iload_n hx hb d_Hb_find_1 rfl (lv_at hl 1 rfl) ?_
  refine hb_callV (rest := []) hX hts hb_gd Y_Hb_placeOf (c_Hb_placeOf hE M x la lp nb ra rp ho pa tm Ac Py h hk r.1) ml_Hb_214 im_Hb_placeOf se_Hb_placeOf hK fx hC_Hb.1 hz hP hD hS hA rfl hl.1 rfl (Nat.le_of_ble_eq_true rfl) ⟨Nat.le_of_ble_eq_true rfl, Nat.le_of_ble_eq_true rfl⟩ ⟨Nat.le_of_ble_eq_true rfl, Nat.le_of_ble_eq_true rfl⟩ d_Hb_find_2 (fun v3 M1 H locs hq2 hP hD hS _ hkp => ?_)
  obtain ⟨ev4, eM5⟩ := hq2
  subst ev4
  rw [eM5] at hP hD
  refine W.eq (g2 := F0 m 5 ls [.int (nI (hb_pos Py r.1))]) rfl ?_
  have hil := (List.getElem?_eq_some_iff.mp hi).1
  refine W.eq (g2 := F0 m 5 ls [.int (nI i)]) (by rw [hb_pos_at hk hi]) ?_
  refine lv_istore_n (lv' := [(2, .int (nI i)), (0, .ref x), (1, .int r.1)]) hx hb d_Hb_find_5 rfl hl (by decide) rfl (fun ls hl => ?_)
  refine lv_iload_n hx hb d_Hb_find_6 rfl (lv_at hl 0 rfl) ?_
  refine lv_aload_n hx hb d_Hb_find_7 rfl (lv_at hl 1 rfl) ?_
  refine hb_get hx hb hts hown hC_Hb hK hP fx 3 (by decide) rfl fl_Hb_16 rfl d_Hb_find_8 ?_
  refine hb_callV (rest := [.int (nI i)]) hX hts hb_gd Y_Al_size (c_py_size hE h) ml_Hb_55 im_Al_size se_Al_size hK flp hC_Al.1 hz hP hD hS hA rfl hl.1 rfl (Nat.le_of_ble_eq_true rfl) ⟨Nat.le_of_ble_eq_true rfl, Nat.le_of_ble_eq_true rfl⟩ ⟨Nat.le_of_ble_eq_true rfl, Nat.le_of_ble_eq_true rfl⟩ d_Hb_find_11 (fun v8 M6 H locs hq7 hP hD hS _ hkp => ?_)
  obtain ⟨ev9, eM10⟩ := hq7
  subst ev9
  rw [eM10] at hP hD
  refine W.eq (g2 := F0 m 14 ls [.int (nI Py.length), .int (nI i)]) rfl ?_
  refine lv_icmp_lt (tgt := 19) hx hb d_Hb_find_14 (by decide) (fun c11 => ?_) (fun c11 => ?_)
  · skip
    refine lv_aload_n hx hb d_Hb_find_19 rfl (lv_at hl 1 rfl) ?_
    refine hb_get hx hb hts hown hC_Hb hK hP fx 3 (by decide) rfl fl_Hb_16 rfl d_Hb_find_20 ?_
    refine lv_iload_n hx hb d_Hb_find_23 rfl (lv_at hl 0 rfl) ?_
    refine hb_callV (rest := []) hX hts hb_gd Y_Al_get (c_py_get hE h hi) ml_Hb_87 im_Al_get se_Al_get hK flp hC_Al.1 hz hP hD hS hA rfl hl.1 rfl (Nat.le_of_ble_eq_true rfl) ⟨Nat.le_of_ble_eq_true rfl, Nat.le_of_ble_eq_true rfl⟩ ⟨Nat.le_of_ble_eq_true rfl, Nat.le_of_ble_eq_true rfl⟩ d_Hb_find_24 (fun v14 M12 H locs hq13 hP hD hS _ hkp => ?_)
    obtain ⟨ev15, eM16⟩ := hq13
    subst ev15
    rw [eM16] at hP hD
    have fq := h.py hi
    refine W.eq (g2 := F0 m 27 ls [.ref q]) rfl ?_
    refine va_castS hx hb hown (hts _ kl_Hb_97) (hK.1 1 _ rfl).2 (va_recv hK (hP.one fq) (ci := 1) (q0 := 0) rfl rfl) d_Hb_find_27 ?_
    refine lv_astore_n (lv' := [(3, .ref q), (2, .int (nI i)), (0, .ref x), (1, .int r.1)]) hx hb d_Hb_find_30 rfl hl (by decide) rfl (fun ls hl => ?_)
    refine lv_aload_n hx hb d_Hb_find_31 rfl (lv_at hl 0 rfl) ?_
    refine hb_get hx hb hts hown hC_Pay hK hP fq 0 (by decide) rfl fl_Hb_189 rfl d_Hb_find_32 ?_
    refine lv_iload_n hx hb d_Hb_find_35 rfl (lv_at hl 3 rfl) ?_
    refine lv_icmp_ne (tgt := 43) hx hb d_Hb_find_36 (by decide) (fun c17 => ?_) (fun c17 => ?_)
    · skip
      exact absurd rfl c17
    · skip
      refine lv_aload_n hx hb d_Hb_find_39 rfl (lv_at hl 0 rfl) ?_
      refine lv_goto (tgt := 44) hx hb d_Hb_find_40 (by decide) ?_
      exact hb_aret hAe hx hb hr (Or.inl ⟨_, rfl⟩) (Or.inr ⟨_, rfl⟩) hlocks hP hD hS (Nat.le_of_ble_eq_true rfl) (Nat.le_of_ble_eq_true rfl) (⟨rfl, rfl⟩) d_Hb_find_44
  · skip
    exact absurd (nI_lt hil (by omega)) c11
set_option maxHeartbeats 4000000 in
set_option maxRecDepth 100000 in
/-- find(k), not there -/
theorem c_Hb_find_no {l : Launch} {s0 : State} {D : va_G} {cI cJ cO : ClassId} {e0 mi : Nat} (hE : hb_E l s0 D cI cJ cO e0 mi) (M : hb_M) (x la lp nb ra rp : Nat) (ho pa tm : Int32) (Ac : List (Nat × hbA)) (Py : List (Nat × hbY)) (h : cR cO e0 M x la lp nb ra rp ho pa tm Ac Py) (hk : cOK Ac Py) (k : Int32) (hno : ∀ (i q : Nat) (r : hbY), Py[i]? = some (q, r) → r.1 ≠ k) : hb_Met l D hb_cl s0 y_Hb_find b_Hb_find 4 (some (.object "HoldBook$Payment")) { frames := 4, cells := 0, slots := 0, locals := 86 } [.ref x, .int k] M (fun v M1 => v = some .null ∧ M1 = M) := by
  refine hb_Met.of (by decide) (Nat.le_of_ble_eq_true rfl) ?_
  intro p e s m below meth c A hAe hX hz hP hD hA hS ls hl
  obtain ⟨hx, hb, hr, hml, hown, hlocks, hnm, hG, hnh⟩ := id hX
  have hown : s.vm.findClass "HoldBook" = some m.cls := hown
  have hts := hE.ts hG ([.ref x, .int k] : List Value).toArray
  have hK := hE.kn hG
  have hl : lv_has ls 4 [(0, .ref x), (1, .int k)] := hl
  have fx := h.1
  obtain ⟨mda, fla⟩ := h.fla
  obtain ⟨mdp, flp⟩ := h.flp
  have hlA := hk.1
  have hlP := hk.2.1
  refine lv_aload_n hx hb d_Hb_find_0 rfl (lv_at hl 0 rfl) ?_
  refine lv_iload_n hx hb d_Hb_find_1 rfl (lv_at hl 1 rfl) ?_
  refine hb_callV (rest := []) hX hts hb_gd Y_Hb_placeOf (c_Hb_placeOf hE M x la lp nb ra rp ho pa tm Ac Py h hk k) ml_Hb_214 im_Hb_placeOf se_Hb_placeOf hK fx hC_Hb.1 hz hP hD hS hA rfl hl.1 rfl (Nat.le_of_ble_eq_true rfl) ⟨Nat.le_of_ble_eq_true rfl, Nat.le_of_ble_eq_true rfl⟩ ⟨Nat.le_of_ble_eq_true rfl, Nat.le_of_ble_eq_true rfl⟩ d_Hb_find_2 (fun v3 M1 H locs hq2 hP hD hS _ hkp => ?_)
  obtain ⟨ev4, eM5⟩ := hq2
  subst ev4
  rw [eM5] at hP hD
  refine W.eq (g2 := F0 m 5 ls [.int (nI (hb_pos Py k))]) rfl ?_
  refine lv_istore_n (lv' := [(2, .int (nI (hb_pos Py k))), (0, .ref x), (1, .int k)]) hx hb d_Hb_find_5 rfl hl (by decide) rfl (fun ls hl => ?_)
  refine lv_iload_n hx hb d_Hb_find_6 rfl (lv_at hl 0 rfl) ?_
  refine lv_aload_n hx hb d_Hb_find_7 rfl (lv_at hl 1 rfl) ?_
  refine hb_get hx hb hts hown hC_Hb hK hP fx 3 (by decide) rfl fl_Hb_16 rfl d_Hb_find_8 ?_
  refine hb_callV (rest := [.int (nI (hb_pos Py k))]) hX hts hb_gd Y_Al_size (c_py_size hE h) ml_Hb_55 im_Al_size se_Al_size hK flp hC_Al.1 hz hP hD hS hA rfl hl.1 rfl (Nat.le_of_ble_eq_true rfl) ⟨Nat.le_of_ble_eq_true rfl, Nat.le_of_ble_eq_true rfl⟩ ⟨Nat.le_of_ble_eq_true rfl, Nat.le_of_ble_eq_true rfl⟩ d_Hb_find_11 (fun v8 M6 H locs hq7 hP hD hS _ hkp => ?_)
  obtain ⟨ev9, eM10⟩ := hq7
  subst ev9
  rw [eM10] at hP hD
  refine W.eq (g2 := F0 m 14 ls [.int (nI Py.length), .int (nI (hb_pos Py k))]) rfl ?_
  refine lv_icmp_lt (tgt := 19) hx hb d_Hb_find_14 (by decide) (fun c11 => ?_) (fun c11 => ?_)
  · skip
    refine lv_aload_n hx hb d_Hb_find_19 rfl (lv_at hl 1 rfl) ?_
    refine hb_get hx hb hts hown hC_Hb hK hP fx 3 (by decide) rfl fl_Hb_16 rfl d_Hb_find_20 ?_
    refine lv_iload_n hx hb d_Hb_find_23 rfl (lv_at hl 0 rfl) ?_
    obtain ⟨q0, r0, hj0⟩ := hb_get2 (L := Py) (j := hb_pos Py k) (Nat.lt_of_not_le (fun z => nI_nlt z (by have := hb_pos_le Py k; omega) c11))
    refine hb_callV (rest := []) hX hts hb_gd Y_Al_get (c_py_get hE h hj0) ml_Hb_87 im_Al_get se_Al_get hK flp hC_Al.1 hz hP hD hS hA rfl hl.1 rfl (Nat.le_of_ble_eq_true rfl) ⟨Nat.le_of_ble_eq_true rfl, Nat.le_of_ble_eq_true rfl⟩ ⟨Nat.le_of_ble_eq_true rfl, Nat.le_of_ble_eq_true rfl⟩ d_Hb_find_24 (fun v14 M12 H locs hq13 hP hD hS _ hkp => ?_)
    obtain ⟨ev15, eM16⟩ := hq13
    subst ev15
    rw [eM16] at hP hD
    have fq0 := h.py hj0
    refine W.eq (g2 := F0 m 27 ls [.ref q0]) rfl ?_
    refine va_castS hx hb hown (hts _ kl_Hb_97) (hK.1 1 _ rfl).2 (va_recv hK (hP.one fq0) (ci := 1) (q0 := 0) rfl rfl) d_Hb_find_27 ?_
    refine lv_astore_n (lv' := [(3, .ref q0), (2, .int (nI (hb_pos Py k))), (0, .ref x), (1, .int k)]) hx hb d_Hb_find_30 rfl hl (by decide) rfl (fun ls hl => ?_)
    refine lv_aload_n hx hb d_Hb_find_31 rfl (lv_at hl 0 rfl) ?_
    refine hb_get hx hb hts hown hC_Pay hK hP fq0 0 (by decide) rfl fl_Hb_189 rfl d_Hb_find_32 ?_
    refine lv_iload_n hx hb d_Hb_find_35 rfl (lv_at hl 3 rfl) ?_
    refine lv_icmp_ne (tgt := 43) hx hb d_Hb_find_36 (by decide) (fun c17 => ?_) (fun c17 => ?_)
    · skip
      refine lv_null hx hb d_Hb_find_43 ?_
      exact hb_aret hAe hx hb hr (Or.inl ⟨_, rfl⟩) (Or.inl rfl) hlocks hP hD hS (Nat.le_of_ble_eq_true rfl) (Nat.le_of_ble_eq_true rfl) (⟨rfl, rfl⟩) d_Hb_find_44
    · skip
      exact absurd c17 (hno _ _ _ hj0)
  · skip
    refine lv_null hx hb d_Hb_find_17 ?_
    exact hb_aret hAe hx hb hr (Or.inl ⟨_, rfl⟩) (Or.inl rfl) hlocks hP hD hS (Nat.le_of_ble_eq_true rfl) (Nat.le_of_ble_eq_true rfl) (⟨rfl, rfl⟩) d_Hb_find_18
set_option maxHeartbeats 4000000 in
set_option maxRecDepth 100000 in
/-- isLongDone -/
theorem c_Hb_isLongDone {l : Launch} {s0 : State} {D : va_G} {cI cJ cO : ClassId} {e0 mi : Nat} (hE : hb_E l s0 D cI cJ cO e0 mi) (M : hb_M) (x la lp nb : Nat) (ho pa tm : Int32) (fx : M x = some (xE ho pa la lp nb tm)) (q a : Nat) (r : hbY) (fq : M q = some (pE a r)) : hb_Met l D hb_cl s0 y_Hb_isLongDone b_Hb_isLongDone 2 (some .boolean) { frames := 0, cells := 0, slots := 0, locals := 0 } [.ref x, .ref q] M (fun v M1 => v = some (.int (if (r.2.2.1 = 3 ∧ pa < tm - r.2.2.2.2.2.2.1) then 1 else 0)) ∧ M1 = M) := by
  refine hb_Met.of (by decide) (Nat.le_of_ble_eq_true rfl) ?_
  intro p e s m below meth c A hAe hX hz hP hD hA hS ls hl
  obtain ⟨hx, hb, hr, hml, hown, hlocks, hnm, hG, hnh⟩ := id hX
  have hown : s.vm.findClass "HoldBook" = some m.cls := hown
  have hts := hE.ts hG ([.ref x, .ref q] : List Value).toArray
  have hK := hE.kn hG
  have hl : lv_has ls 2 [(0, .ref x), (1, .ref q)] := hl
  refine lv_aload_n hx hb d_Hb_isLongDone_0 rfl (lv_at hl 1 rfl) ?_
  refine hb_get hx hb hts hown hC_Pay hK hP fq 2 (by decide) rfl fl_Hb_122 rfl d_Hb_isLongDone_1 ?_
  refine lv_iconst (v := 3) hx hb d_Hb_isLongDone_4 (by decide) ?_
  refine lv_icmp_ne (tgt := 28) hx hb d_Hb_isLongDone_5 (by decide) (fun c1 => ?_) (fun c1 => ?_)
  · skip
    refine lv_iconst (v := 0) hx hb d_Hb_isLongDone_28 (by decide) ?_
    exact hb_zret hAe hx hb hr (by decide) hlocks hP hD hS (Nat.le_of_ble_eq_true rfl) (Nat.le_of_ble_eq_true rfl) (⟨by first | (rw [if_pos ⟨by assumption, by assumption⟩]) | (rw [if_neg (fun h => absurd h.1 (by assumption))]) | (rw [if_neg (fun h => absurd h.2 (by assumption))]), rfl⟩) d_Hb_isLongDone_29
  · skip
    refine lv_aload_n hx hb d_Hb_isLongDone_8 rfl (lv_at hl 0 rfl) ?_
    refine hb_get hx hb hts hown hC_Hb hK hP fx 5 (by decide) rfl fl_Hb_28 rfl d_Hb_isLongDone_9 ?_
    refine lv_aload_n hx hb d_Hb_isLongDone_12 rfl (lv_at hl 1 rfl) ?_
    refine hb_get hx hb hts hown hC_Pay hK hP fq 6 (by decide) rfl fl_Hb_220 rfl d_Hb_isLongDone_13 ?_
    refine lv_isub hx hb d_Hb_isLongDone_16 ?_
    refine lv_aload_n hx hb d_Hb_isLongDone_17 rfl (lv_at hl 0 rfl) ?_
    refine hb_get hx hb hts hown hC_Hb hK hP fx 1 (by decide) rfl fl_Hb_39 rfl d_Hb_isLongDone_18 ?_
    refine lv_icmp_le (tgt := 28) hx hb d_Hb_isLongDone_21 (by decide) (fun c2 => ?_) (fun c2 => ?_)
    · skip
      have c2n := hb_ngti c2
      refine lv_iconst (v := 0) hx hb d_Hb_isLongDone_28 (by decide) ?_
      exact hb_zret hAe hx hb hr (by decide) hlocks hP hD hS (Nat.le_of_ble_eq_true rfl) (Nat.le_of_ble_eq_true rfl) (⟨by first | (rw [if_pos ⟨by assumption, by assumption⟩]) | (rw [if_neg (fun h => absurd h.1 (by assumption))]) | (rw [if_neg (fun h => absurd h.2 (by assumption))]), rfl⟩) d_Hb_isLongDone_29
    · skip
      have c2n := hb_gti c2
      refine lv_iconst (v := 1) hx hb d_Hb_isLongDone_24 (by decide) ?_
      refine lv_goto (tgt := 29) hx hb d_Hb_isLongDone_25 (by decide) ?_
      exact hb_zret hAe hx hb hr (by decide) hlocks hP hD hS (Nat.le_of_ble_eq_true rfl) (Nat.le_of_ble_eq_true rfl) (⟨by first | (rw [if_pos ⟨by assumption, by assumption⟩]) | (rw [if_neg (fun h => absurd h.1 (by assumption))]) | (rw [if_neg (fun h => absurd h.2 (by assumption))]), rfl⟩) d_Hb_isLongDone_29
set_option maxHeartbeats 4000000 in
set_option maxRecDepth 100000 in
/-- isOver -/
theorem c_Hb_isOver {l : Launch} {s0 : State} {D : va_G} {cI cJ cO : ClassId} {e0 mi : Nat} (hE : hb_E l s0 D cI cJ cO e0 mi) (M : hb_M) (x la lp nb : Nat) (ho pa tm : Int32) (fx : M x = some (xE ho pa la lp nb tm)) (q a : Nat) (r : hbY) (fq : M q = some (pE a r)) : hb_Met l D hb_cl s0 y_Hb_isOver b_Hb_isOver 2 (some .boolean) { frames := 1, cells := 0, slots := 0, locals := 21 } [.ref x, .ref q] M (fun v M1 => v = some (.int (if (if r.2.2.2.2.2.2.2.1 = 0 then (r.2.2.1 = 2 ∨ (r.2.2.1 = 3 ∧ pa < tm - r.2.2.2.2.2.2.1)) else (r.2.2.2.2.2.2.2.1 = 3 ∨ r.2.2.2.2.2.2.2.1 = 4)) then 1 else 0)) ∧ M1 = M) := by
  refine hb_Met.of (by decide) (Nat.le_of_ble_eq_true rfl) ?_
  intro p e s m below meth c A hAe hX hz hP hD hA hS ls hl
  obtain ⟨hx, hb, hr, hml, hown, hlocks, hnm, hG, hnh⟩ := id hX
  have hown : s.vm.findClass "HoldBook" = some m.cls := hown
  have hts := hE.ts hG ([.ref x, .ref q] : List Value).toArray
  have hK := hE.kn hG
  have hl : lv_has ls 2 [(0, .ref x), (1, .ref q)] := hl
  refine lv_aload_n hx hb d_Hb_isOver_0 rfl (lv_at hl 1 rfl) ?_
  refine hb_get hx hb hts hown hC_Pay hK hP fq 7 (by decide) rfl fl_Hb_153 rfl d_Hb_isOver_1 ?_
  refine lv_if_ne (tgt := 29) hx hb d_Hb_isOver_4 (by decide) (fun c1 => ?_) (fun c1 => ?_)
  · skip
    refine lv_aload_n hx hb d_Hb_isOver_29 rfl (lv_at hl 1 rfl) ?_
    refine hb_get hx hb hts hown hC_Pay hK hP fq 7 (by decide) rfl fl_Hb_153 rfl d_Hb_isOver_30 ?_
    refine lv_iconst (v := 3) hx hb d_Hb_isOver_33 (by decide) ?_
    refine lv_icmp_eq (tgt := 45) hx hb d_Hb_isOver_34 (by decide) (fun c2 => ?_) (fun c2 => ?_)
    · skip
      refine lv_iconst (v := 1) hx hb d_Hb_isOver_45 (by decide) ?_
      refine lv_goto (tgt := 50) hx hb d_Hb_isOver_46 (by decide) ?_
      exact hb_zret hAe hx hb hr (by decide) hlocks hP hD hS (Nat.le_of_ble_eq_true rfl) (Nat.le_of_ble_eq_true rfl) (⟨by simp_all, rfl⟩) d_Hb_isOver_50
    · skip
      refine lv_aload_n hx hb d_Hb_isOver_37 rfl (lv_at hl 1 rfl) ?_
      refine hb_get hx hb hts hown hC_Pay hK hP fq 7 (by decide) rfl fl_Hb_153 rfl d_Hb_isOver_38 ?_
      refine lv_iconst (v := 4) hx hb d_Hb_isOver_41 (by decide) ?_
      refine lv_icmp_ne (tgt := 49) hx hb d_Hb_isOver_42 (by decide) (fun c3 => ?_) (fun c3 => ?_)
      · skip
        refine lv_iconst (v := 0) hx hb d_Hb_isOver_49 (by decide) ?_
        exact hb_zret hAe hx hb hr (by decide) hlocks hP hD hS (Nat.le_of_ble_eq_true rfl) (Nat.le_of_ble_eq_true rfl) (⟨by simp_all, rfl⟩) d_Hb_isOver_50
      · skip
        refine lv_iconst (v := 1) hx hb d_Hb_isOver_45 (by decide) ?_
        refine lv_goto (tgt := 50) hx hb d_Hb_isOver_46 (by decide) ?_
        exact hb_zret hAe hx hb hr (by decide) hlocks hP hD hS (Nat.le_of_ble_eq_true rfl) (Nat.le_of_ble_eq_true rfl) (⟨by simp_all, rfl⟩) d_Hb_isOver_50
  · skip
    refine lv_aload_n hx hb d_Hb_isOver_7 rfl (lv_at hl 1 rfl) ?_
    refine hb_get hx hb hts hown hC_Pay hK hP fq 2 (by decide) rfl fl_Hb_122 rfl d_Hb_isOver_8 ?_
    refine lv_iconst (v := 2) hx hb d_Hb_isOver_11 (by decide) ?_
    refine lv_icmp_eq (tgt := 23) hx hb d_Hb_isOver_12 (by decide) (fun c4 => ?_) (fun c4 => ?_)
    · skip
      refine lv_iconst (v := 1) hx hb d_Hb_isOver_23 (by decide) ?_
      refine lv_goto (tgt := 28) hx hb d_Hb_isOver_24 (by decide) ?_
      exact hb_zret hAe hx hb hr (by decide) hlocks hP hD hS (Nat.le_of_ble_eq_true rfl) (Nat.le_of_ble_eq_true rfl) (⟨by simp_all, rfl⟩) d_Hb_isOver_28
    · skip
      refine lv_aload_n hx hb d_Hb_isOver_15 rfl (lv_at hl 0 rfl) ?_
      refine lv_aload_n hx hb d_Hb_isOver_16 rfl (lv_at hl 1 rfl) ?_
      refine hb_callV (rest := []) hX hts hb_gd Y_Hb_isLongDone (c_Hb_isLongDone hE M x la lp nb ho pa tm fx q a r fq) ml_Hb_156 im_Hb_isLongDone se_Hb_isLongDone hK fx hC_Hb.1 hz hP hD hS hA rfl hl.1 rfl (Nat.le_of_ble_eq_true rfl) ⟨Nat.le_of_ble_eq_true rfl, Nat.le_of_ble_eq_true rfl⟩ ⟨Nat.le_of_ble_eq_true rfl, Nat.le_of_ble_eq_true rfl⟩ d_Hb_isOver_17 (fun v7 M5 H locs hq6 hP hD hS _ hkp => ?_)
      obtain ⟨ev8, eM9⟩ := hq6
      subst ev8
      rw [eM9] at hP hD
      refine W.eq (g2 := F0 m 20 ls [.int (if (r.2.2.1 = 3 ∧ pa < tm - r.2.2.2.2.2.2.1) then 1 else 0)]) rfl ?_
      refine lv_if_eq (tgt := 27) hx hb d_Hb_isOver_20 (by decide) (fun c10 => ?_) (fun c10 => ?_)
      · skip
        have c_l : ¬ (r.2.2.1 = 3 ∧ pa < tm - r.2.2.2.2.2.2.1) := fun z => by rw [if_pos z] at c10; exact absurd c10 (by decide)
        refine lv_iconst (v := 0) hx hb d_Hb_isOver_27 (by decide) ?_
        exact hb_zret hAe hx hb hr (by decide) hlocks hP hD hS (Nat.le_of_ble_eq_true rfl) (Nat.le_of_ble_eq_true rfl) (⟨by simp_all, rfl⟩) d_Hb_isOver_28
      · skip
        have c_l : (r.2.2.1 = 3 ∧ pa < tm - r.2.2.2.2.2.2.1) := Classical.byContradiction (fun z => by rw [if_neg z] at c10; exact c10 rfl)
        refine lv_iconst (v := 1) hx hb d_Hb_isOver_23 (by decide) ?_
        refine lv_goto (tgt := 28) hx hb d_Hb_isOver_24 (by decide) ?_
        exact hb_zret hAe hx hb hr (by decide) hlocks hP hD hS (Nat.le_of_ble_eq_true rfl) (Nat.le_of_ble_eq_true rfl) (⟨by simp_all, rfl⟩) d_Hb_isOver_28
set_option maxHeartbeats 4000000 in
set_option maxRecDepth 100000 in
/-- spanOf -/
theorem c_Hb_spanOf {l : Launch} {s0 : State} {D : va_G} {cI cJ cO : ClassId} {e0 mi : Nat} (hE : hb_E l s0 D cI cJ cO e0 mi) (M : hb_M) (k : Int32) : hb_Met l D hb_cl s0 y_Hb_spanOf b_Hb_spanOf 1 (some .int) { frames := 1, cells := 0, slots := 0, locals := 20 } [.int k] M (fun v M1 => v = some (.int (if 1 < (if k < 5000 then k else 5000) then (if k < 5000 then k else 5000) else 1)) ∧ M1 = M) := by
  refine hb_Met.of (by decide) (Nat.le_of_ble_eq_true rfl) ?_
  intro p e s m below meth c A hAe hX hz hP hD hA hS ls hl
  obtain ⟨hx, hb, hr, hml, hown, hlocks, hnm, hG, hnh⟩ := id hX
  have hown : s.vm.findClass "HoldBook" = some m.cls := hown
  have hts := hE.ts hG ([.int k] : List Value).toArray
  have hK := hE.kn hG
  have hl : lv_has ls 1 [(0, .int k)] := hl
  refine lv_iconst (v := 1) hx hb d_Hb_spanOf_0 (by decide) ?_
  refine lv_sipush (v := 5000) hx hb d_Hb_spanOf_1 (by decide) ?_
  refine lv_iload_n hx hb d_Hb_spanOf_4 rfl (lv_at hl 0 rfl) ?_
  refine va_mmin hx hb (by rw [hml]; exact hl.1.symm) hown (hts _ ml_Hb_200) (hts _ st_Mth_min1) (hts _ in_Mth) (hts _ cd_Mth_min1) (Nat.le_of_ble_eq_true rfl) (Nat.le_of_ble_eq_true rfl) (Nat.le_of_ble_eq_true rfl) (Nat.le_of_ble_eq_true rfl) d_Hb_spanOf_5 ?_
  refine va_mmax hx hb (by rw [hml]; exact hl.1.symm) hown (hts _ ml_Hb_203) (hts _ st_Mth_max) (hts _ in_Mth) (hts _ cd_Mth_max) (Nat.le_of_ble_eq_true rfl) (Nat.le_of_ble_eq_true rfl) (Nat.le_of_ble_eq_true rfl) (Nat.le_of_ble_eq_true rfl) d_Hb_spanOf_8 ?_
  exact hb_iret hAe hx hb hr hlocks hP hD hS (Nat.le_of_ble_eq_true rfl) (Nat.le_of_ble_eq_true rfl) (⟨rfl, rfl⟩) d_Hb_spanOf_11
set_option maxHeartbeats 4000000 in
set_option maxRecDepth 100000 in
/-- payments() -/
theorem c_Hb_payments {l : Launch} {s0 : State} {D : va_G} {cI cJ cO : ClassId} {e0 mi : Nat} (hE : hb_E l s0 D cI cJ cO e0 mi) (M : hb_M) (x la lp nb ra rp : Nat) (ho pa tm : Int32) (Ac : List (Nat × hbA)) (Py : List (Nat × hbY)) (h : cR cO e0 M x la lp nb ra rp ho pa tm Ac Py) (hk : cOK Ac Py) : hb_Met l D hb_cl s0 y_Hb_payments b_Hb_payments 1 (some .int) { frames := 1, cells := 0, slots := 0, locals := 20 } [.ref x] M (fun v M1 => v = some (.int (nI Py.length)) ∧ M1 = M) := by
  refine hb_Met.of (by decide) (Nat.le_of_ble_eq_true rfl) ?_
  intro p e s m below meth c A hAe hX hz hP hD hA hS ls hl
  obtain ⟨hx, hb, hr, hml, hown, hlocks, hnm, hG, hnh⟩ := id hX
  have hown : s.vm.findClass "HoldBook" = some m.cls := hown
  have hts := hE.ts hG ([.ref x] : List Value).toArray
  have hK := hE.kn hG
  have hl : lv_has ls 1 [(0, .ref x)] := hl
  have fx := h.1
  obtain ⟨mda, fla⟩ := h.fla
  obtain ⟨mdp, flp⟩ := h.flp
  have hlA := hk.1
  have hlP := hk.2.1
  refine lv_aload_n hx hb d_Hb_payments_0 rfl (lv_at hl 0 rfl) ?_
  refine hb_get hx hb hts hown hC_Hb hK hP fx 3 (by decide) rfl fl_Hb_16 rfl d_Hb_payments_1 ?_
  refine hb_callV (rest := []) hX hts hb_gd Y_Al_size (c_py_size hE h) ml_Hb_55 im_Al_size se_Al_size hK flp hC_Al.1 hz hP hD hS hA rfl hl.1 rfl (Nat.le_of_ble_eq_true rfl) ⟨Nat.le_of_ble_eq_true rfl, Nat.le_of_ble_eq_true rfl⟩ ⟨Nat.le_of_ble_eq_true rfl, Nat.le_of_ble_eq_true rfl⟩ d_Hb_payments_4 (fun v3 M1 H locs hq2 hP hD hS _ hkp => ?_)
  obtain ⟨ev4, eM5⟩ := hq2
  subst ev4
  rw [eM5] at hP hD
  refine W.eq (g2 := F0 m 7 ls [.int (nI Py.length)]) rfl ?_
  exact hb_iret hAe hx hb hr hlocks hP hD hS (Nat.le_of_ble_eq_true rfl) (Nat.le_of_ble_eq_true rfl) (⟨rfl, rfl⟩) d_Hb_payments_7
set_option maxHeartbeats 4000000 in
set_option maxRecDepth 100000 in
/-- key(i), there -/
theorem c_Hb_key_at {l : Launch} {s0 : State} {D : va_G} {cI cJ cO : ClassId} {e0 mi : Nat} (hE : hb_E l s0 D cI cJ cO e0 mi) (M : hb_M) (x la lp nb ra rp : Nat) (ho pa tm : Int32) (Ac : List (Nat × hbA)) (Py : List (Nat × hbY)) (h : cR cO e0 M x la lp nb ra rp ho pa tm Ac Py) (hk : cOK Ac Py) (i q : Nat) (r : hbY) (hi : Py[i]? = some (q, r)) : hb_Met l D hb_cl s0 y_Hb_key b_Hb_key 2 (some .int) { frames := 3, cells := 0, slots := 0, locals := 64 } [.ref x, .int (nI i)] M (fun v M1 => v = some (.int r.1) ∧ M1 = M) := by
  refine hb_Met.of (by decide) (Nat.le_of_ble_eq_true rfl) ?_
  intro p e s m below meth c A hAe hX hz hP hD hA hS ls hl
  obtain ⟨hx, hb, hr, hml, hown, hlocks, hnm, hG, hnh⟩ := id hX
  have hown : s.vm.findClass "HoldBook" = some m.cls := hown
  have hts := hE.ts hG ([.ref x, .int (nI i)] : List Value).toArray
  have hK := hE.kn hG
  have hl : lv_has ls 2 [(0, .ref x), (1, .int (nI i))] := hl
  have fx := h.1
  obtain ⟨mda, fla⟩ := h.fla
  obtain ⟨mdp, flp⟩ := h.flp
  have hlA := hk.1
  have hlP := hk.2.1
  have hil := (List.getElem?_eq_some_iff.mp hi).1
  refine lv_iload_n hx hb d_Hb_key_0 rfl (lv_at hl 1 rfl) ?_
  refine lv_if_ge (tgt := 14) hx hb d_Hb_key_1 (by decide) (fun c1 => ?_) (fun c1 => ?_)
  · skip
    have c1n := hb_ngti c1
    refine lv_iload_n hx hb d_Hb_key_14 rfl (lv_at hl 1 rfl) ?_
    refine lv_aload_n hx hb d_Hb_key_15 rfl (lv_at hl 0 rfl) ?_
    refine hb_get hx hb hts hown hC_Hb hK hP fx 3 (by decide) rfl fl_Hb_16 rfl d_Hb_key_16 ?_
    refine hb_callV (rest := [.int (nI i)]) hX hts hb_gd Y_Al_size (c_py_size hE h) ml_Hb_55 im_Al_size se_Al_size hK flp hC_Al.1 hz hP hD hS hA rfl hl.1 rfl (Nat.le_of_ble_eq_true rfl) ⟨Nat.le_of_ble_eq_true rfl, Nat.le_of_ble_eq_true rfl⟩ ⟨Nat.le_of_ble_eq_true rfl, Nat.le_of_ble_eq_true rfl⟩ d_Hb_key_19 (fun v4 M2 H locs hq3 hP hD hS _ hkp => ?_)
    obtain ⟨ev5, eM6⟩ := hq3
    subst ev5
    rw [eM6] at hP hD
    refine W.eq (g2 := F0 m 22 ls [.int (nI Py.length), .int (nI i)]) rfl ?_
    refine lv_icmp_ge (tgt := 42) hx hb d_Hb_key_22 (by decide) (fun c7 => ?_) (fun c7 => ?_)
    · skip
      have c7n := hb_ngti c7
      exact absurd c7 (by intro z; have := (nI_leI (by omega) (by omega)).mp z; omega)
    · skip
      have c7n := hb_gti c7
      refine lv_aload_n hx hb d_Hb_key_25 rfl (lv_at hl 0 rfl) ?_
      refine hb_get hx hb hts hown hC_Hb hK hP fx 3 (by decide) rfl fl_Hb_16 rfl d_Hb_key_26 ?_
      refine lv_iload_n hx hb d_Hb_key_29 rfl (lv_at hl 1 rfl) ?_
      refine hb_callV (rest := []) hX hts hb_gd Y_Al_get (c_py_get hE h hi) ml_Hb_87 im_Al_get se_Al_get hK flp hC_Al.1 hz hP hD hS hA rfl hl.1 rfl (Nat.le_of_ble_eq_true rfl) ⟨Nat.le_of_ble_eq_true rfl, Nat.le_of_ble_eq_true rfl⟩ ⟨Nat.le_of_ble_eq_true rfl, Nat.le_of_ble_eq_true rfl⟩ d_Hb_key_30 (fun v10 M8 H locs hq9 hP hD hS _ hkp => ?_)
      obtain ⟨ev11, eM12⟩ := hq9
      subst ev11
      rw [eM12] at hP hD
      have fq := h.py hi
      refine W.eq (g2 := F0 m 33 ls [.ref q]) rfl ?_
      refine va_castS hx hb hown (hts _ kl_Hb_97) (hK.1 1 _ rfl).2 (va_recv hK (hP.one fq) (ci := 1) (q0 := 0) rfl rfl) d_Hb_key_33 ?_
      refine hb_get hx hb hts hown hC_Pay hK hP fq 0 (by decide) rfl fl_Hb_189 rfl d_Hb_key_36 ?_
      refine lv_goto (tgt := 43) hx hb d_Hb_key_39 (by decide) ?_
      exact hb_iret hAe hx hb hr hlocks hP hD hS (Nat.le_of_ble_eq_true rfl) (Nat.le_of_ble_eq_true rfl) (⟨rfl, rfl⟩) d_Hb_key_43
  · skip
    have c1n := hb_gti c1
    exact absurd (nI_pos' (by omega)) c1
set_option maxHeartbeats 4000000 in
set_option maxRecDepth 100000 in
/-- key(k), beyond -/
theorem c_Hb_key_no {l : Launch} {s0 : State} {D : va_G} {cI cJ cO : ClassId} {e0 mi : Nat} (hE : hb_E l s0 D cI cJ cO e0 mi) (M : hb_M) (x la lp nb ra rp : Nat) (ho pa tm : Int32) (Ac : List (Nat × hbA)) (Py : List (Nat × hbY)) (h : cR cO e0 M x la lp nb ra rp ho pa tm Ac Py) (hk : cOK Ac Py) (k : Int32) (h0 : ¬ k < 0) (h1 : nI Py.length ≤ k) : hb_Met l D hb_cl s0 y_Hb_key b_Hb_key 2 (some .int) { frames := 3, cells := 0, slots := 0, locals := 64 } [.ref x, .int k] M (fun v M1 => v = some (.int (-1)) ∧ M1 = M) := by
  refine hb_Met.of (by decide) (Nat.le_of_ble_eq_true rfl) ?_
  intro p e s m below meth c A hAe hX hz hP hD hA hS ls hl
  obtain ⟨hx, hb, hr, hml, hown, hlocks, hnm, hG, hnh⟩ := id hX
  have hown : s.vm.findClass "HoldBook" = some m.cls := hown
  have hts := hE.ts hG ([.ref x, .int k] : List Value).toArray
  have hK := hE.kn hG
  have hl : lv_has ls 2 [(0, .ref x), (1, .int k)] := hl
  have fx := h.1
  obtain ⟨mda, fla⟩ := h.fla
  obtain ⟨mdp, flp⟩ := h.flp
  have hlA := hk.1
  have hlP := hk.2.1
  refine lv_iload_n hx hb d_Hb_key_0 rfl (lv_at hl 1 rfl) ?_
  refine lv_if_ge (tgt := 14) hx hb d_Hb_key_1 (by decide) (fun c1 => ?_) (fun c1 => ?_)
  · skip
    have c1n := hb_ngti c1
    refine lv_iload_n hx hb d_Hb_key_14 rfl (lv_at hl 1 rfl) ?_
    refine lv_aload_n hx hb d_Hb_key_15 rfl (lv_at hl 0 rfl) ?_
    refine hb_get hx hb hts hown hC_Hb hK hP fx 3 (by decide) rfl fl_Hb_16 rfl d_Hb_key_16 ?_
    refine hb_callV (rest := [.int k]) hX hts hb_gd Y_Al_size (c_py_size hE h) ml_Hb_55 im_Al_size se_Al_size hK flp hC_Al.1 hz hP hD hS hA rfl hl.1 rfl (Nat.le_of_ble_eq_true rfl) ⟨Nat.le_of_ble_eq_true rfl, Nat.le_of_ble_eq_true rfl⟩ ⟨Nat.le_of_ble_eq_true rfl, Nat.le_of_ble_eq_true rfl⟩ d_Hb_key_19 (fun v4 M2 H locs hq3 hP hD hS _ hkp => ?_)
    obtain ⟨ev5, eM6⟩ := hq3
    subst ev5
    rw [eM6] at hP hD
    refine W.eq (g2 := F0 m 22 ls [.int (nI Py.length), .int k]) rfl ?_
    refine lv_icmp_ge (tgt := 42) hx hb d_Hb_key_22 (by decide) (fun c7 => ?_) (fun c7 => ?_)
    · skip
      have c7n := hb_ngti c7
      refine lv_iconst (v := (-1)) hx hb d_Hb_key_42 (by decide) ?_
      exact hb_iret hAe hx hb hr hlocks hP hD hS (Nat.le_of_ble_eq_true rfl) (Nat.le_of_ble_eq_true rfl) (⟨rfl, rfl⟩) d_Hb_key_43
    · skip
      have c7n := hb_gti c7
      exact absurd h1 c7
  · skip
    have c1n := hb_gti c1
    exact absurd (hb_le h0) c1
set_option maxHeartbeats 4000000 in
set_option maxRecDepth 100000 in
/-- key(k), k < 0 -/
theorem c_Hb_key_bad {l : Launch} {s0 : State} {D : va_G} {cI cJ cO : ClassId} {e0 mi : Nat} (hE : hb_E l s0 D cI cJ cO e0 mi) (M : hb_M) (x la lp nb ra rp : Nat) (ho pa tm : Int32) (Ac : List (Nat × hbA)) (Py : List (Nat × hbY)) (h : cR cO e0 M x la lp nb ra rp ho pa tm Ac Py) (hk : cOK Ac Py) (k : Int32) (h0 : k < 0) : hb_Thr l D hb_cl s0 y_Hb_key b_Hb_key 2 (some .int) { frames := 6, cells := 1, slots := 6, locals := 90 } [.ref x, .int k] M "java/lang/IllegalArgumentException" := by
  refine hb_Thr.of (by decide) (Nat.le_of_ble_eq_true rfl) ?_
  intro p e s m below meth c A hAe hX hz hP hD hA hS ls hl
  obtain ⟨hx, hb, hr, hml, hown, hlocks, hnm, hG, hnh⟩ := id hX
  have hown : s.vm.findClass "HoldBook" = some m.cls := hown
  have hts := hE.ts hG ([.ref x, .int k] : List Value).toArray
  have hK := hE.kn hG
  have hl : lv_has ls 2 [(0, .ref x), (1, .int k)] := hl
  have fx := h.1
  obtain ⟨mda, fla⟩ := h.fla
  obtain ⟨mdp, flp⟩ := h.flp
  have hlA := hk.1
  have hlP := hk.2.1
  refine lv_iload_n hx hb d_Hb_key_0 rfl (lv_at hl 1 rfl) ?_
  refine lv_if_ge (tgt := 14) hx hb d_Hb_key_1 (by decide) (fun c1 => ?_) (fun c1 => ?_)
  · skip
    have c1n := hb_ngti c1
    exact absurd h0 (hb_ngti c1)
  · skip
    have c1n := hb_gti c1
    exact hb_iae hE hAe hX hown hz hP hS hl.1 (List.mem_of_getElem? (i := 560) (by decide +kernel) : Cond.stringRef "HoldBook" 187 "the place is below 0" ∈ lw_tbl) d_Hb_key_4 d_Hb_key_7 d_Hb_key_8 d_Hb_key_10 d_Hb_key_13 (Nat.le_of_ble_eq_true rfl) (Nat.le_of_ble_eq_true rfl) (Nat.le_of_ble_eq_true rfl) (Nat.le_of_ble_eq_true rfl) (Nat.le_of_ble_eq_true rfl) (Nat.le_of_ble_eq_true rfl)
set_option maxHeartbeats 4000000 in
set_option maxRecDepth 100000 in
/-- funds(ka, wh) -/
theorem c_Hb_funds_ok {l : Launch} {s0 : State} {D : va_G} {cI cJ cO : ClassId} {e0 mi : Nat} (hE : hb_E l s0 D cI cJ cO e0 mi) (M : hb_M) (x la lp nb ra rp : Nat) (ho pa tm : Int32) (Ac : List (Nat × hbA)) (Py : List (Nat × hbY)) (h : cR cO e0 M x la lp nb ra rp ho pa tm Ac Py) (hk : cOK Ac Py) (ka a : Nat) (rk : hbA) (hka0 : Ac[ka]? = some (a, rk)) (wh : Int32) (hw : ¬ wh < 0 ∧ ¬ 3 < wh) : hb_Met l D hb_cl s0 y_Hb_funds b_Hb_funds 3 (some .long) { frames := 3, cells := 0, slots := 0, locals := 64 } [.ref x, .int (nI ka), .int wh] M (fun v M1 => v = some (.long (if wh = 0 then rk.2.2.1 else if wh = 1 then rk.2.2.2.1 else if wh = 2 then rk.2.2.2.2 else rk.2.2.1 - rk.1 - rk.2.2.2.1 - rk.2.2.2.2)) ∧ M1 = M) := by
  refine hb_Met.of (by decide) (Nat.le_of_ble_eq_true rfl) ?_
  intro p e s m below meth c A hAe hX hz hP hD hA hS ls hl
  obtain ⟨hx, hb, hr, hml, hown, hlocks, hnm, hG, hnh⟩ := id hX
  have hown : s.vm.findClass "HoldBook" = some m.cls := hown
  have hts := hE.ts hG ([.ref x, .int (nI ka), .int wh] : List Value).toArray
  have hK := hE.kn hG
  have hl : lv_has ls 3 [(0, .ref x), (1, .int (nI ka)), (2, .int wh)] := hl
  have fx := h.1
  obtain ⟨mda, fla⟩ := h.fla
  obtain ⟨mdp, flp⟩ := h.flp
  have hlA := hk.1
  have hlP := hk.2.1
  have hka := (List.getElem?_eq_some_iff.mp hka0).1
  refine lv_aload_n hx hb d_Hb_funds_0 rfl (lv_at hl 0 rfl) ?_
  refine lv_iload_n hx hb d_Hb_funds_1 rfl (lv_at hl 1 rfl) ?_
  refine hb_callV (rest := []) hX hts hb_gd Y_Hb_checkAccount (c_Hb_checkAccount_ok hE M x la lp nb ra rp ho pa tm Ac Py h hk ka hka) ml_Hb_72 im_Hb_checkAccount se_Hb_checkAccount hK fx hC_Hb.1 hz hP hD hS hA rfl hl.1 rfl (Nat.le_of_ble_eq_true rfl) ⟨Nat.le_of_ble_eq_true rfl, Nat.le_of_ble_eq_true rfl⟩ ⟨Nat.le_of_ble_eq_true rfl, Nat.le_of_ble_eq_true rfl⟩ d_Hb_funds_2 (fun v3 M1 H locs hq2 hP hD hS _ hkp => ?_)
  obtain ⟨ev4, eM5⟩ := hq2
  subst ev4
  rw [eM5] at hP hD
  refine W.eq (g2 := F0 m 5 ls []) rfl ?_
  refine lv_iload_n hx hb d_Hb_funds_5 rfl (lv_at hl 2 rfl) ?_
  refine lv_iconst (v := 3) hx hb d_Hb_funds_6 (by decide) ?_
  refine hb_callS (rest := []) hX hts hb_gd Y_Hb_checkWhat (c_Hb_checkWhat_ok hE M wh 3 hw) ml_Hb_176 st_Hb_checkWhat hz hP hD hS hA rfl hl.1 rfl (Nat.le_of_ble_eq_true rfl) ⟨Nat.le_of_ble_eq_true rfl, Nat.le_of_ble_eq_true rfl⟩ ⟨Nat.le_of_ble_eq_true rfl, Nat.le_of_ble_eq_true rfl⟩ d_Hb_funds_7 (fun v8 M6 H locs hq7 hP hD hS _ hkp => ?_)
  obtain ⟨ev9, eM10⟩ := hq7
  subst ev9
  rw [eM10] at hP hD
  refine W.eq (g2 := F0 m 10 ls []) rfl ?_
  refine lv_aload_n hx hb d_Hb_funds_10 rfl (lv_at hl 0 rfl) ?_
  refine hb_get hx hb hts hown hC_Hb hK hP fx 2 (by decide) rfl fl_Hb_10 rfl d_Hb_funds_11 ?_
  refine lv_iload_n hx hb d_Hb_funds_14 rfl (lv_at hl 1 rfl) ?_
  refine hb_callV (rest := []) hX hts hb_gd Y_Al_get (c_ac_get hE h hka0) ml_Hb_87 im_Al_get se_Al_get hK fla hC_Al.1 hz hP hD hS hA rfl hl.1 rfl (Nat.le_of_ble_eq_true rfl) ⟨Nat.le_of_ble_eq_true rfl, Nat.le_of_ble_eq_true rfl⟩ ⟨Nat.le_of_ble_eq_true rfl, Nat.le_of_ble_eq_true rfl⟩ d_Hb_funds_15 (fun v13 M11 H locs hq12 hP hD hS _ hkp => ?_)
  obtain ⟨ev14, eM15⟩ := hq12
  subst ev14
  rw [eM15] at hP hD
  have fa := h.ac hka0
  refine W.eq (g2 := F0 m 18 ls [.ref a]) rfl ?_
  refine va_castS hx hb hown (hts _ kl_Hb_19) (hK.1 0 _ rfl).2 (va_recv hK (hP.one fa) (ci := 0) (q0 := 0) rfl rfl) d_Hb_funds_18 ?_
  refine lv_iload_n hx hb d_Hb_funds_21 rfl (lv_at hl 2 rfl) ?_
  refine hb_callV (rest := []) hX hts hb_gd Y_Acc_tell (c_Acc_tell hE M a (nI ka) rk.1 rk.2.1 rk.2.2.1 rk.2.2.2.1 rk.2.2.2.2 fa wh) ml_Hb_180 im_Acc_tell se_Acc_tell hK fa hC_Acc.1 hz hP hD hS hA rfl hl.1 rfl (Nat.le_of_ble_eq_true rfl) ⟨Nat.le_of_ble_eq_true rfl, Nat.le_of_ble_eq_true rfl⟩ ⟨Nat.le_of_ble_eq_true rfl, Nat.le_of_ble_eq_true rfl⟩ d_Hb_funds_22 (fun v18 M16 H locs hq17 hP hD hS _ hkp => ?_)
  obtain ⟨ev19, eM20⟩ := hq17
  subst ev19
  rw [eM20] at hP hD
  refine W.eq (g2 := F0 m 25 ls [.long (if wh = 0 then rk.2.2.1 else if wh = 1 then rk.2.2.2.1 else if wh = 2 then rk.2.2.2.2 else rk.2.2.1 - rk.1 - rk.2.2.2.1 - rk.2.2.2.2)]) rfl ?_
  exact hb_lret hAe hx hb hr hlocks hP hD hS (Nat.le_of_ble_eq_true rfl) (Nat.le_of_ble_eq_true rfl) (⟨rfl, rfl⟩) d_Hb_funds_25
