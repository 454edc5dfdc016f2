/-! HOLDBOOK: forget -/
abbrev hb_over (pa tm : Int32) (r : hbY) : Prop := (if r.2.2.2.2.2.2.2.1 = 0 then (r.2.2.1 = 2 ∨ (r.2.2.1 = 3 ∧ pa < tm - r.2.2.2.2.2.2.1)) else (r.2.2.2.2.2.2.2.1 = 3 ∨ r.2.2.2.2.2.2.2.1 = 4))
def hb_kl (pa tm : Int32) (Py : List (Nat × hbY)) : List (Nat × hbY) := Py.filter (fun q => !decide (hb_over pa tm q.2))
def hb_fg (pa tm : Int32) (Py : List (Nat × hbY)) (j : Nat) : List (Nat × hbY) := Py.take j ++ hb_kl pa tm (Py.drop j)
theorem hb_am1 (x : Int32) : x + (-1) = x - 1 := by
  rw [Int32.sub_eq_add_neg]
section FG
variable {pa tm : Int32} {Py : List (Nat × hbY)}
theorem hb_fg_all : hb_fg pa tm Py Py.length = Py := by simp [hb_fg, hb_kl]
theorem hb_fg_0 : hb_fg pa tm Py 0 = hb_kl pa tm Py := by simp [hb_fg]
theorem hb_fg_sub (j : Nat) : (hb_fg pa tm Py j).Sublist Py := by
  have h : (Py.take j ++ hb_kl pa tm (Py.drop j)).Sublist (Py.take j ++ Py.drop j) := List.Sublist.append (List.Sublist.refl _) List.filter_sublist
  rw [List.take_append_drop] at h
  exact h
theorem hb_fg_at {i : Nat} {p : Nat × hbY} (h : Py[i]? = some p) : (hb_fg pa tm Py (i + 1))[i]? = some p := by
  have hi := (List.getElem?_eq_some_iff.mp h).1
  unfold hb_fg
  rw [List.getElem?_append_left (by rw [List.length_take]; omega), List.getElem?_take, if_pos (by omega)]
  exact h
theorem hb_take1 {i : Nat} {p : Nat × hbY} (h : Py[i]? = some p) : Py.take (i + 1) = Py.take i ++ [p] := by
  rw [List.take_succ, h]
  rfl
theorem hb_drop1 {i : Nat} {p : Nat × hbY} (h : Py[i]? = some p) : Py.drop i = p :: Py.drop (i + 1) := by
  obtain ⟨h1, h2⟩ := List.getElem?_eq_some_iff.mp h
  rw [List.drop_eq_getElem_cons h1, h2]
theorem hb_fg_keep {i : Nat} {p : Nat × hbY} (h : Py[i]? = some p) (ho : ¬ hb_over pa tm p.2) : hb_fg pa tm Py (i + 1) = hb_fg pa tm Py i := by
  unfold hb_fg hb_kl
  rw [hb_take1 h, hb_drop1 h, List.filter_cons, if_pos (by simp [ho]), List.append_assoc]
  rfl
theorem hb_fg_gone {i : Nat} {p : Nat × hbY} (h : Py[i]? = some p) (ho : hb_over pa tm p.2) : (hb_fg pa tm Py (i + 1)).eraseIdx i = hb_fg pa tm Py i := by
  have hi := (List.getElem?_eq_some_iff.mp h).1
  unfold hb_fg hb_kl
  rw [hb_take1 h, hb_drop1 h, List.filter_cons, if_neg (by simp [ho]), List.append_assoc, List.eraseIdx_append_of_length_le (by rw [List.length_take]; omega), List.length_take, Nat.min_eq_left (by omega), Nat.sub_self]
  rfl
theorem hb_fg_len (j : Nat) (hj : j ≤ Py.length) : j ≤ (hb_fg pa tm Py j).length ∧ (hb_fg pa tm Py j).length ≤ Py.length := by
  refine ⟨?_, (hb_fg_sub j).length_le⟩
  unfold hb_fg
  rw [List.length_append, List.length_take]
  omega
theorem cOK.sub {Ac : List (Nat × hbA)} {L : List (Nat × hbY)} (h : cOK Ac Py) (hs : L.Sublist Py) : cOK Ac L := ⟨h.1, Nat.le_trans hs.length_le h.2.1, h.2.2.1.sublist hs, fun q hq => h.2.2.2 q (hs.subset hq)⟩
end FG
set_option maxHeartbeats 4000000 in
set_option maxRecDepth 100000 in
/-- forget() -/
theorem c_Hb_forget {l : Launch} {s0 : State} {D : va_G} {cI cJ cO : ClassId} {e0 mi : Nat} (hE : hb_E l s0 D cI cJ cO e0 mi) (M : hb_M) (x la lp nb ra rp : Nat) (ho pa tm : Int32) (Ac : List (Nat × hbA)) (Py : List (Nat × hbY)) (h : cR cO e0 M x la lp nb ra rp ho pa tm Ac Py) (hk : cOK Ac Py) : hb_Met l D hb_cl s0 y_Hb_forget b_Hb_forget 3 (some .int) { frames := 3, cells := 0, slots := 0, locals := 106 } [.ref x] M (fun v M1 => v = some (.int (nI (Py.length - (hb_kl pa tm Py).length))) ∧ cR cO e0 M1 x la lp nb ra rp ho pa tm Ac (hb_kl pa tm Py)) := by
  refine hb_Met.of (by decide) (Nat.le_of_ble_eq_true rfl) ?_
  intro p e s m below meth c A hAe hX hz hP hD hA hS ls hl
  obtain ⟨hx, hb, hr, hml, hown, hlocks, hnm, hG, hnh⟩ := id hX
  have hown : s.vm.findClass "HoldBook" = some m.cls := hown
  have hts := hE.ts hG ([.ref x] : List Value).toArray
  have hK := hE.kn hG
  have hl : lv_has ls 3 [(0, .ref x)] := hl
  have fx := h.1
  obtain ⟨mda, fla⟩ := h.fla
  obtain ⟨mdp, flp⟩ := h.flp
  have hlA := hk.1
  have hlP := hk.2.1
  refine lv_iconst (v := 0) hx hb d_Hb_forget_0 (by decide) ?_
  refine lv_istore_n (lv' := [(1, .int 0), (0, .ref x)]) hx hb d_Hb_forget_1 rfl hl (by decide) rfl (fun ls hl => ?_)
  refine lv_aload_n hx hb d_Hb_forget_2 rfl (lv_at hl 1 rfl) ?_
  refine hb_get hx hb hts hown hC_Hb hK hP fx 3 (by decide) rfl fl_Hb_16 rfl d_Hb_forget_3 ?_
  refine hb_callV (rest := []) hX hts hb_gd Y_Al_size (c_py_size hE h) ml_Hb_55 im_Al_size se_Al_size hK flp hC_Al.1 hz hP hD hS hA rfl hl.1 rfl (Nat.le_of_ble_eq_true rfl) ⟨Nat.le_of_ble_eq_true rfl, Nat.le_of_ble_eq_true rfl⟩ ⟨Nat.le_of_ble_eq_true rfl, Nat.le_of_ble_eq_true rfl⟩ d_Hb_forget_6 (fun v3 M1 H locs hq2 hP hD hS _ hkp => ?_)
  obtain ⟨ev4, eM5⟩ := hq2
  subst ev4
  rw [eM5] at hP hD
  refine W.eq (g2 := F0 m 9 ls [.int (nI Py.length)]) rfl ?_
  refine lv_iconst (v := 1) hx hb d_Hb_forget_9 (by decide) ?_
  refine lv_isub hx hb d_Hb_forget_10 ?_
  refine lv_istore_n (lv' := [(2, .int ((nI Py.length) - 1)), (1, .int 0), (0, .ref x)]) hx hb d_Hb_forget_11 rfl hl (by decide) rfl (fun ls hl => ?_)
  have loop : ∀ (j : Nat), j ≤ Py.length → ∀ Mc : hb_M, cR cO e0 Mc x la lp nb ra rp ho pa tm Ac (hb_fg pa tm Py j) → ∀ (H : Heap) (locs : List Loc), hb_P D hb_cl Mc H → hb_D A Mc → va_S A s.heap H locs → ∀ ls : Array Slot, lv_has ls 3 [(2, .int (nI j - 1)), (1, .int (nI (Py.length - (hb_fg pa tm Py j).length))), (0, .ref x)] → W p l e ({ frames := 3, cells := 0, slots := 0, locals := 106 } : Room) s m ([.ref x] : List Value).toArray below meth c H locs 0 0 (MQ below (hb_Post D hb_cl s.heap.size M (fun v M1 => v = some (.int (nI (Py.length - (hb_kl pa tm Py).length))) ∧ cR cO e0 M1 x la lp nb ra rp ho pa tm Ac (hb_kl pa tm Py))) ([.ref x] : List Value).toArray s 0 0 A) (F0 m 12 ls []) := by
    intro j
    induction j with
    | zero =>
      intro hjn Mc hc H locs hP hD hS ls hl
      refine lv_iload_n hx hb d_Hb_forget_12 rfl (lv_at hl 0 rfl) ?_
      refine lv_if_lt (tgt := 52) hx hb d_Hb_forget_13 (by decide) (fun c6 => ?_) (fun c6 => ?_)
      · skip
        refine lv_iload_n hx hb d_Hb_forget_52 rfl (lv_at hl 1 rfl) ?_
        exact hb_iret hAe hx hb hr hlocks hP hD hS (Nat.le_of_ble_eq_true rfl) (Nat.le_of_ble_eq_true rfl) (⟨by rw [hb_fg_0], by rw [hb_fg_0] at hc; exact hc⟩) d_Hb_forget_53
      · skip
        exact absurd (by decide) c6
    | succ i ih =>
      intro hjn Mc hc H locs hP hD hS ls hl
      obtain ⟨q0, r0, hj0⟩ := hb_get2 (L := Py) (j := i) (by omega)
      obtain ⟨hlen1, hlen2⟩ := hb_fg_len (pa := pa) (tm := tm) (i + 1) hjn
      have hkc := hk.sub (hb_fg_sub (pa := pa) (tm := tm) (Py := Py) (i + 1))
      have hj1 := hb_fg_at (pa := pa) (tm := tm) hj0
      rw [nI_pred] at hl
      have fx := hc.1
      obtain ⟨mdp, flp⟩ := hc.flp
      have fq := hc.py hj1
      refine lv_iload_n hx hb d_Hb_forget_12 rfl (lv_at hl 0 rfl) ?_
      refine lv_if_lt (tgt := 52) hx hb d_Hb_forget_13 (by decide) (fun c7 => ?_) (fun c7 => ?_)
      · skip
        exact absurd c7 (nI_pos (by omega))
      · skip
        refine lv_aload_n hx hb d_Hb_forget_16 rfl (lv_at hl 2 rfl) ?_
        refine lv_aload_n hx hb d_Hb_forget_17 rfl (lv_at hl 2 rfl) ?_
        refine hb_get hx hb hts hown hC_Hb hK hP fx 3 (by decide) rfl fl_Hb_16 rfl d_Hb_forget_18 ?_
        refine lv_iload_n hx hb d_Hb_forget_21 rfl (lv_at hl 0 rfl) ?_
        refine hb_callV (rest := [.ref x]) hX hts hb_gd Y_Al_get (c_py_get hE hc hj1) ml_Hb_87 im_Al_get se_Al_get hK flp hC_Al.1 hz hP hD hS hA rfl hl.1 rfl (Nat.le_of_ble_eq_true rfl) ⟨Nat.le_of_ble_eq_true rfl, Nat.le_of_ble_eq_true rfl⟩ ⟨Nat.le_of_ble_eq_true rfl, Nat.le_of_ble_eq_true rfl⟩ d_Hb_forget_22 (fun v10 M8 H locs hq9 hP hD hS _ hkp => ?_)
        obtain ⟨ev11, eM12⟩ := hq9
        subst ev11
        rw [eM12] at hP hD
        refine W.eq (g2 := F0 m 25 ls [.ref q0, .ref x]) rfl ?_
        refine va_castS hx hb hown (hts _ kl_Hb_97) (hK.1 1 _ rfl).2 (va_recv hK (hP.one fq) (ci := 1) (q0 := 0) rfl rfl) d_Hb_forget_25 ?_
        refine hb_callV (rest := []) hX hts hb_gd Y_Hb_isOver (c_Hb_isOver hE Mc x la lp nb ho pa tm fx q0 (hb_acc nb Ac r0.2.1) r0 fq) ml_Hb_170 im_Hb_isOver se_Hb_isOver hK fx hC_Hb.1 hz hP hD hS hA rfl hl.1 rfl (Nat.le_of_ble_eq_true rfl) ⟨Nat.le_of_ble_eq_true rfl, Nat.le_of_ble_eq_true rfl⟩ ⟨Nat.le_of_ble_eq_true rfl, Nat.le_of_ble_eq_true rfl⟩ d_Hb_forget_28 (fun v15 M13 H locs hq14 hP hD hS _ hkp => ?_)
        obtain ⟨ev16, eM17⟩ := hq14
        subst ev16
        rw [eM17] at hP hD
        refine W.eq (g2 := F0 m 31 ls [.int (if (if r0.2.2.2.2.2.2.2.1 = 0 then (r0.2.2.1 = 2 ∨ (r0.2.2.1 = 3 ∧ pa < tm - r0.2.2.2.2.2.2.1)) else (r0.2.2.2.2.2.2.2.1 = 3 ∨ r0.2.2.2.2.2.2.2.1 = 4)) then 1 else 0)]) rfl ?_
        refine lv_if_eq (tgt := 46) hx hb d_Hb_forget_31 (by decide) (fun c18 => ?_) (fun c18 => ?_)
        · skip
          have hov : ¬ hb_over pa tm r0 := fun z => by rw [if_pos z] at c18; exact absurd c18 (by decide)
          refine lv_iinc (v := (nI i) + (-1)) (lv' := [(2, .int ((nI i) + (-1))), (1, .int (nI (Py.length - (hb_fg pa tm Py (i + 1)).length))), (0, .ref x)]) hx hb d_Hb_forget_46 hl (k := 0) rfl (by rfl) (by decide) rfl (fun ls hl => ?_)
          refine lv_goto (tgt := 12) hx hb d_Hb_forget_49 (by decide) ?_
          have hke := hb_fg_keep hj0 hov
          have hl : lv_has ls 3 [(2, .int (nI i - 1)), (1, .int (nI (Py.length - (hb_fg pa tm Py i).length))), (0, .ref x)] := by rw [← hb_am1, ← hke]; exact lv_sub hl [0, 1, 2] rfl
          exact ih (by omega) _ (by rw [← hke]; exact hc) _ _ hP hD hS _ hl
        · skip
          have hov : hb_over pa tm r0 := Classical.byContradiction (fun z => by rw [if_neg z] at c18; exact c18 rfl)
          refine lv_aload_n hx hb d_Hb_forget_34 rfl (lv_at hl 2 rfl) ?_
          refine hb_get hx hb hts hown hC_Hb hK hP fx 3 (by decide) rfl fl_Hb_16 rfl d_Hb_forget_35 ?_
          refine lv_iload_n hx hb d_Hb_forget_38 rfl (lv_at hl 0 rfl) ?_
          refine hb_callV (rest := []) hX hts hb_gd Y_Al_remove (c_lst_rem hE hc.2.2.1 hc.obP (j := i) (x := q0) (by rw [List.getElem?_map, hj1]; rfl)) ml_Hb_173 im_Al_remove se_Al_remove hK flp hC_Al.1 hz hP hD hS hA rfl hl.1 rfl (Nat.le_of_ble_eq_true rfl) ⟨Nat.le_of_ble_eq_true rfl, Nat.le_of_ble_eq_true rfl⟩ ⟨Nat.le_of_ble_eq_true rfl, Nat.le_of_ble_eq_true rfl⟩ d_Hb_forget_39 (fun v21 M19 H locs hq20 hP hD hS _ hkp => ?_)
          obtain ⟨ev9, g1, g2⟩ := hq20
          subst ev9
          have hst := hc.rem g1 g2 (hb_e0 hE hz hD)
          rw [hb_fg_gone hj0 hov] at hst
          refine W.eq (g2 := F0 m 42 ls [.ref q0]) rfl ?_
          refine lv_pop hx hb d_Hb_forget_42 rfl ?_
          refine lv_iinc (v := (nI (Py.length - (hb_fg pa tm Py (i + 1)).length)) + 1) (lv' := [(1, .int ((nI (Py.length - (hb_fg pa tm Py (i + 1)).length)) + 1)), (2, .int (nI i)), (0, .ref x)]) hx hb d_Hb_forget_43 hl (k := 1) rfl (by rfl) (by decide) rfl (fun ls hl => ?_)
          refine lv_iinc (v := (nI i) + (-1)) (lv' := [(2, .int ((nI i) + (-1))), (1, .int ((nI (Py.length - (hb_fg pa tm Py (i + 1)).length)) + 1)), (0, .ref x)]) hx hb d_Hb_forget_46 hl (k := 1) rfl (by rfl) (by decide) rfl (fun ls hl => ?_)
          refine lv_goto (tgt := 12) hx hb d_Hb_forget_49 (by decide) ?_
          have hl9 : (hb_fg pa tm Py i).length = (hb_fg pa tm Py (i + 1)).length - 1 := by rw [← hb_fg_gone hj0 hov, List.length_eraseIdx, if_pos (by omega)]
          have hl : lv_has ls 3 [(2, .int (nI i - 1)), (1, .int (nI (Py.length - (hb_fg pa tm Py i).length))), (0, .ref x)] := by rw [← hb_am1, show Py.length - (hb_fg pa tm Py i).length = Py.length - (hb_fg pa tm Py (i + 1)).length + 1 by omega, ← nI_1]; exact lv_sub hl [0, 1, 2] rfl
          exact ih (by omega) _ hst _ _ hP hD hS _ hl
  exact loop Py.length (Nat.le_refl _) M (by rw [hb_fg_all]; exact h) _ _ hP hD hS _ (by rw [hb_fg_all, Nat.sub_self]; exact lv_sub hl [0, 1, 2] rfl)
