/-! HOLDBOOK: constructor, agrees, audit -/
set_option maxHeartbeats 4000000 in
set_option maxRecDepth 100000 in
/-- HoldBook(k1, k2) -/
theorem c_Hb_init {l : Launch} {s0 : State} {D : va_G} {cI cJ cO : ClassId} {e0 mi : Nat} (hE : hb_E l s0 D cI cJ cO e0 mi) (M : hb_M) (x : Nat) (k1 k2 : Int32) (fx : M x = some (.inr (2, [.int 0, .int 0, .null, .null, .null, .int 0]))) : hb_Met l D hb_cl s0 y_Hb_init b_Hb_init 3 none { frames := 4, cells := 3, slots := 12, locals := 72 } [.ref x, .int k1, .int k2] M (fun v M1 => v = none ∧ ∃ la lp nb, cR cO e0 M1 x la lp nb e0 e0 (if 1 < (if k1 < 5000 then k1 else 5000) then (if k1 < 5000 then k1 else 5000) else 1) (if 1 < (if k2 < 5000 then k2 else 5000) then (if k2 < 5000 then k2 else 5000) else 1) 0 [] []) := by
  refine hb_Met.of (by decide) (Nat.le_of_ble_eq_true rfl) ?_
  intro p e s m below meth c A hAe hX hz hP hD hA hS ls hl
  obtain ⟨hx, hb, hr, hml, hown, hlocks, hnm, hG, hnh⟩ := id hX
  have hown : s.vm.findClass "HoldBook" = some m.cls := hown
  have hts := hE.ts hG ([.ref x, .int k1, .int k2] : List Value).toArray
  have hK := hE.kn hG
  have hl : lv_has ls 3 [(0, .ref x), (1, .int k1), (2, .int k2)] := hl
  refine lv_aload_n hx hb d_Hb_init_0 rfl (lv_at hl 0 rfl) ?_
  refine W.objInit hx hb hown (hts _ ml_Hb_1) (hts _ im_Ob_init) (hts _ cd_Ob_init) rfl (by rw [hml]; exact hl.1) rfl d_Hb_init_1 (Nat.le_of_ble_eq_true rfl) (Nat.le_of_ble_eq_true rfl) ?_
  refine W.eq (g2 := F0 m 4 ls []) rfl ?_
  refine lv_aload_n hx hb d_Hb_init_4 rfl (lv_at hl 0 rfl) ?_
  refine hb_new (fs := [.null, .int 0, .int 0]) hx hb hts hown hC_Al kl_Hb_7 it_Al in_Al hK hP hD hS hA (fun j hj => by rcases (show j = 0 ∨ j = 1 ∨ j = 2 by omega) with rfl | rfl | rfl <;> rfl) (Nat.le_of_ble_eq_true rfl) (Nat.le_of_ble_eq_true rfl) d_Hb_init_5 (fun q1 M2 H hq4 ha5 eM3 hP hD hS => ?_)
  have f6 : M2 q1 = some (.inr (3, [.null, .int 0, .int 0])) := by rw [eM3]; exact hb_up_self
  have f7 : M2 x = some (.inr (2, [.int 0, .int 0, .null, .null, .null, .int 0])) := by rw [eM3, hb_up_ne (fun q9 => by rw [q9, hq4] at fx; cases fx)]; exact fx
  refine lv_dup hx hb d_Hb_init_8 rfl ?_
  refine hb_callI (rest := [.ref q1, .ref x]) hX hts hb_gd Y_Al_init (c_Al_init hE M2 q1 f6) ml_Hb_9 im_Al_init rfl hz hP hD hS hA rfl hl.1 rfl (Nat.le_of_ble_eq_true rfl) ⟨Nat.le_of_ble_eq_true rfl, Nat.le_of_ble_eq_true rfl⟩ ⟨Nat.le_of_ble_eq_true rfl, Nat.le_of_ble_eq_true rfl⟩ d_Hb_init_9 (fun v10 M8 H locs hq9 hP hD hS _ hkp => ?_)
  obtain ⟨ev13, f11, ho12⟩ := hq9
  subst ev13
  have f14 : M8 x = some (.inr (2, [.int 0, .int 0, .null, .null, .null, .int 0])) := ho12.at (hb_n1 (fun q9 => by rw [q9, hq4] at fx; cases fx)) f7
  refine W.eq (g2 := F0 m 12 ls [.ref q1, .ref x]) rfl ?_
  refine hb_putF (ty := .object "java/util/ArrayList") hx hb hts hown hC_Hb hK hP hD hS f14 2 (by decide) rfl fl_Hb_10 rfl hnm rfl rfl rfl rfl (Nat.le_of_ble_eq_true rfl) d_Hb_init_12 (fun M15 H locs eM16 hP hD hS => ?_)
  have f17 : M15 x = some (.inr (2, [.int 0, .int 0, .ref q1, .null, .null, .int 0])) := by rw [eM16]; exact hb_up_self
  have f18 : M15 q1 = some (.inr (3, [.ref e0, .int 0, .int 0])) := by rw [eM16, hb_up_ne (Ne.symm (fun q9 => by rw [q9, hq4] at fx; cases fx))]; exact f11
  refine lv_aload_n hx hb d_Hb_init_15 rfl (lv_at hl 0 rfl) ?_
  refine hb_new (fs := [.null, .int 0, .int 0]) hx hb hts hown hC_Al kl_Hb_7 it_Al in_Al hK hP hD hS hA (fun j hj => by rcases (show j = 0 ∨ j = 1 ∨ j = 2 by omega) with rfl | rfl | rfl <;> rfl) (Nat.le_of_ble_eq_true rfl) (Nat.le_of_ble_eq_true rfl) d_Hb_init_16 (fun q19 M20 H hq22 ha23 eM21 hP hD hS => ?_)
  have f24 : M20 q19 = some (.inr (3, [.null, .int 0, .int 0])) := by rw [eM21]; exact hb_up_self
  have f25 : M20 x = some (.inr (2, [.int 0, .int 0, .ref q1, .null, .null, .int 0])) := by rw [eM21, hb_up_ne (fun q9 => by rw [q9, hq22] at f17; cases f17)]; exact f17
  have f26 : M20 q1 = some (.inr (3, [.ref e0, .int 0, .int 0])) := by rw [eM21, hb_up_ne (fun q9 => by rw [q9, hq22] at f18; cases f18)]; exact f18
  have hlalp : q1 ≠ q19 := (fun q9 => by rw [q9, hq22] at f18; cases f18)
  refine lv_dup hx hb d_Hb_init_19 rfl ?_
  refine hb_callI (rest := [.ref q19, .ref x]) hX hts hb_gd Y_Al_init (c_Al_init hE M20 q19 f24) ml_Hb_9 im_Al_init rfl hz hP hD hS hA rfl hl.1 rfl (Nat.le_of_ble_eq_true rfl) ⟨Nat.le_of_ble_eq_true rfl, Nat.le_of_ble_eq_true rfl⟩ ⟨Nat.le_of_ble_eq_true rfl, Nat.le_of_ble_eq_true rfl⟩ d_Hb_init_20 (fun v29 M27 H locs hq28 hP hD hS _ hkp => ?_)
  obtain ⟨ev32, f30, ho31⟩ := hq28
  subst ev32
  have f33 : M27 x = some (.inr (2, [.int 0, .int 0, .ref q1, .null, .null, .int 0])) := ho31.at (hb_n1 (fun q9 => by rw [q9, hq22] at f17; cases f17)) f25
  have f34 : M27 q1 = some (.inr (3, [.ref e0, .int 0, .int 0])) := ho31.at (hb_n1 (fun q9 => by rw [q9, hq22] at f18; cases f18)) f26
  refine W.eq (g2 := F0 m 23 ls [.ref q19, .ref x]) rfl ?_
  refine hb_putF (ty := .object "java/util/ArrayList") hx hb hts hown hC_Hb hK hP hD hS f33 3 (by decide) rfl fl_Hb_16 rfl hnm rfl rfl rfl rfl (Nat.le_of_ble_eq_true rfl) d_Hb_init_23 (fun M35 H locs eM36 hP hD hS => ?_)
  have f37 : M35 x = some (.inr (2, [.int 0, .int 0, .ref q1, .ref q19, .null, .int 0])) := by rw [eM36]; exact hb_up_self
  have f38 : M35 q1 = some (.inr (3, [.ref e0, .int 0, .int 0])) := by rw [eM36, hb_up_ne (Ne.symm (fun q9 => by rw [q9, hq4] at fx; cases fx))]; exact f34
  have f39 : M35 q19 = some (.inr (3, [.ref e0, .int 0, .int 0])) := by rw [eM36, hb_up_ne (Ne.symm (fun q9 => by rw [q9, hq22] at f17; cases f17))]; exact f30
  refine lv_aload_n hx hb d_Hb_init_26 rfl (lv_at hl 0 rfl) ?_
  refine hb_new (fs := [.int 0, .long 0, .long 0, .long 0, .long 0, .long 0]) hx hb hts hown hC_Acc kl_Hb_19 it_Acc in_Acc hK hP hD hS hA (fun j hj => by rcases (show j = 0 ∨ j = 1 ∨ j = 2 ∨ j = 3 ∨ j = 4 ∨ j = 5 by omega) with rfl | rfl | rfl | rfl | rfl | rfl <;> rfl) (Nat.le_of_ble_eq_true rfl) (Nat.le_of_ble_eq_true rfl) d_Hb_init_27 (fun q40 M41 H hq43 ha44 eM42 hP hD hS => ?_)
  have f45 : M41 q40 = some (.inr (0, [.int 0, .long 0, .long 0, .long 0, .long 0, .long 0])) := by rw [eM42]; exact hb_up_self
  have f46 : M41 x = some (.inr (2, [.int 0, .int 0, .ref q1, .ref q19, .null, .int 0])) := by rw [eM42, hb_up_ne (fun q9 => by rw [q9, hq43] at f37; cases f37)]; exact f37
  have f47 : M41 q1 = some (.inr (3, [.ref e0, .int 0, .int 0])) := by rw [eM42, hb_up_ne (fun q9 => by rw [q9, hq43] at f38; cases f38)]; exact f38
  have f48 : M41 q19 = some (.inr (3, [.ref e0, .int 0, .int 0])) := by rw [eM42, hb_up_ne (fun q9 => by rw [q9, hq43] at f39; cases f39)]; exact f39
  refine lv_dup hx hb d_Hb_init_30 rfl ?_
  refine lv_iconst (v := (-1)) hx hb d_Hb_init_31 (by decide) ?_
  refine lv_lconst (v := 0) hx hb d_Hb_init_32 (by decide) ?_
  refine lv_lconst (v := 0) hx hb d_Hb_init_33 (by decide) ?_
  refine hb_callI (rest := [.ref q40, .ref x]) hX hts hb_gd Y_Acc_init (c_Acc_init hE M41 q40 (-1) 0 0 f45) ml_Hb_21 im_Acc_init rfl hz hP hD hS hA rfl hl.1 rfl (Nat.le_of_ble_eq_true rfl) ⟨Nat.le_of_ble_eq_true rfl, Nat.le_of_ble_eq_true rfl⟩ ⟨Nat.le_of_ble_eq_true rfl, Nat.le_of_ble_eq_true rfl⟩ d_Hb_init_34 (fun v51 M49 H locs hq50 hP hD hS _ hkp => ?_)
  obtain ⟨ev54, f52, ho53⟩ := hq50
  subst ev54
  have f55 : M49 x = some (.inr (2, [.int 0, .int 0, .ref q1, .ref q19, .null, .int 0])) := ho53.at (hb_n1 (fun q9 => by rw [q9, hq43] at f37; cases f37)) f46
  have f56 : M49 q1 = some (.inr (3, [.ref e0, .int 0, .int 0])) := ho53.at (hb_n1 (fun q9 => by rw [q9, hq43] at f38; cases f38)) f47
  have f57 : M49 q19 = some (.inr (3, [.ref e0, .int 0, .int 0])) := ho53.at (hb_n1 (fun q9 => by rw [q9, hq43] at f39; cases f39)) f48
  refine W.eq (g2 := F0 m 37 ls [.ref q40, .ref x]) rfl ?_
  refine hb_putF (ty := .object "HoldBook$Account") hx hb hts hown hC_Hb hK hP hD hS f55 4 (by decide) rfl fl_Hb_24 rfl hnm rfl rfl rfl rfl (Nat.le_of_ble_eq_true rfl) d_Hb_init_37 (fun M58 H locs eM59 hP hD hS => ?_)
  have f60 : M58 x = some (.inr (2, [.int 0, .int 0, .ref q1, .ref q19, .ref q40, .int 0])) := by rw [eM59]; exact hb_up_self
  have f61 : M58 q1 = some (.inr (3, [.ref e0, .int 0, .int 0])) := by rw [eM59, hb_up_ne (Ne.symm (fun q9 => by rw [q9, hq4] at fx; cases fx))]; exact f56
  have f62 : M58 q19 = some (.inr (3, [.ref e0, .int 0, .int 0])) := by rw [eM59, hb_up_ne (Ne.symm (fun q9 => by rw [q9, hq22] at f17; cases f17))]; exact f57
  have f63 : M58 q40 = some (.inr (0, [.int (-1), .long 0, .long (0 - 0), .long 0, .long 0, .long 0])) := by rw [eM59, hb_up_ne (Ne.symm (fun q9 => by rw [q9, hq43] at f37; cases f37))]; exact f52
  refine lv_aload_n hx hb d_Hb_init_40 rfl (lv_at hl 0 rfl) ?_
  refine lv_iconst (v := 0) hx hb d_Hb_init_41 (by decide) ?_
  refine hb_put (ty := .int) hx hb hts hown hC_Hb hK hP hD hS f60 5 (by decide) rfl fl_Hb_28 rfl rfl rfl rfl (Nat.le_of_ble_eq_true rfl) d_Hb_init_42 (fun M64 H locs eM65 hP hD hS => ?_)
  have f66 : M64 x = some (.inr (2, [.int 0, .int 0, .ref q1, .ref q19, .ref q40, .int 0])) := by rw [eM65]; exact hb_up_self
  have f67 : M64 q1 = some (.inr (3, [.ref e0, .int 0, .int 0])) := by rw [eM65, hb_up_ne (Ne.symm (fun q9 => by rw [q9, hq4] at fx; cases fx))]; exact f61
  have f68 : M64 q19 = some (.inr (3, [.ref e0, .int 0, .int 0])) := by rw [eM65, hb_up_ne (Ne.symm (fun q9 => by rw [q9, hq22] at f17; cases f17))]; exact f62
  have f69 : M64 q40 = some (.inr (0, [.int (-1), .long 0, .long (0 - 0), .long 0, .long 0, .long 0])) := by rw [eM65, hb_up_ne (Ne.symm (fun q9 => by rw [q9, hq43] at f37; cases f37))]; exact f63
  refine lv_aload_n hx hb d_Hb_init_45 rfl (lv_at hl 0 rfl) ?_
  refine lv_iload_n hx hb d_Hb_init_46 rfl (lv_at hl 1 rfl) ?_
  refine hb_callS (rest := [.ref x]) hX hts hb_gd Y_Hb_spanOf (c_Hb_spanOf hE M64 k1) ml_Hb_32 st_Hb_spanOf hz hP hD hS hA rfl hl.1 rfl (Nat.le_of_ble_eq_true rfl) ⟨Nat.le_of_ble_eq_true rfl, Nat.le_of_ble_eq_true rfl⟩ ⟨Nat.le_of_ble_eq_true rfl, Nat.le_of_ble_eq_true rfl⟩ d_Hb_init_47 (fun v72 M70 H locs hq71 hP hD hS _ hkp => ?_)
  obtain ⟨ev73, eM74⟩ := hq71
  subst ev73
  rw [eM74] at hP hD
  refine W.eq (g2 := F0 m 50 ls [.int (if 1 < (if k1 < 5000 then k1 else 5000) then (if k1 < 5000 then k1 else 5000) else 1), .ref x]) rfl ?_
  refine hb_putF (ty := .int) hx hb hts hown hC_Hb hK hP hD hS f66 0 (by decide) rfl fl_Hb_36 rfl hnm rfl rfl rfl rfl (Nat.le_of_ble_eq_true rfl) d_Hb_init_50 (fun M75 H locs eM76 hP hD hS => ?_)
  have f77 : M75 x = some (.inr (2, [.int (if 1 < (if k1 < 5000 then k1 else 5000) then (if k1 < 5000 then k1 else 5000) else 1), .int 0, .ref q1, .ref q19, .ref q40, .int 0])) := by rw [eM76]; exact hb_up_self
  have f78 : M75 q1 = some (.inr (3, [.ref e0, .int 0, .int 0])) := by rw [eM76, hb_up_ne (Ne.symm (fun q9 => by rw [q9, hq4] at fx; cases fx))]; exact f67
  have f79 : M75 q19 = some (.inr (3, [.ref e0, .int 0, .int 0])) := by rw [eM76, hb_up_ne (Ne.symm (fun q9 => by rw [q9, hq22] at f17; cases f17))]; exact f68
  have f80 : M75 q40 = some (.inr (0, [.int (-1), .long 0, .long (0 - 0), .long 0, .long 0, .long 0])) := by rw [eM76, hb_up_ne (Ne.symm (fun q9 => by rw [q9, hq43] at f37; cases f37))]; exact f69
  refine lv_aload_n hx hb d_Hb_init_53 rfl (lv_at hl 0 rfl) ?_
  refine lv_iload_n hx hb d_Hb_init_54 rfl (lv_at hl 2 rfl) ?_
  refine hb_callS (rest := [.ref x]) hX hts hb_gd Y_Hb_spanOf (c_Hb_spanOf hE M75 k2) ml_Hb_32 st_Hb_spanOf hz hP hD hS hA rfl hl.1 rfl (Nat.le_of_ble_eq_true rfl) ⟨Nat.le_of_ble_eq_true rfl, Nat.le_of_ble_eq_true rfl⟩ ⟨Nat.le_of_ble_eq_true rfl, Nat.le_of_ble_eq_true rfl⟩ d_Hb_init_55 (fun v83 M81 H locs hq82 hP hD hS _ hkp => ?_)
  obtain ⟨ev84, eM85⟩ := hq82
  subst ev84
  rw [eM85] at hP hD
  refine W.eq (g2 := F0 m 58 ls [.int (if 1 < (if k2 < 5000 then k2 else 5000) then (if k2 < 5000 then k2 else 5000) else 1), .ref x]) rfl ?_
  refine hb_putF (ty := .int) hx hb hts hown hC_Hb hK hP hD hS f77 1 (by decide) rfl fl_Hb_39 rfl hnm rfl rfl rfl rfl (Nat.le_of_ble_eq_true rfl) d_Hb_init_58 (fun M86 H locs eM87 hP hD hS => ?_)
  have f88 : M86 x = some (.inr (2, [.int (if 1 < (if k1 < 5000 then k1 else 5000) then (if k1 < 5000 then k1 else 5000) else 1), .int (if 1 < (if k2 < 5000 then k2 else 5000) then (if k2 < 5000 then k2 else 5000) else 1), .ref q1, .ref q19, .ref q40, .int 0])) := by rw [eM87]; exact hb_up_self
  have f89 : M86 q1 = some (.inr (3, [.ref e0, .int 0, .int 0])) := by rw [eM87, hb_up_ne (Ne.symm (fun q9 => by rw [q9, hq4] at fx; cases fx))]; exact f78
  have f90 : M86 q19 = some (.inr (3, [.ref e0, .int 0, .int 0])) := by rw [eM87, hb_up_ne (Ne.symm (fun q9 => by rw [q9, hq22] at f17; cases f17))]; exact f79
  have f91 : M86 q40 = some (.inr (0, [.int (-1), .long 0, .long (0 - 0), .long 0, .long 0, .long 0])) := by rw [eM87, hb_up_ne (Ne.symm (fun q9 => by rw [q9, hq43] at f37; cases f37))]; exact f80
  exact hb_vret hAe hx hb hr hlocks hP hD hS (Nat.le_of_ble_eq_true rfl) (Nat.le_of_ble_eq_true rfl) (⟨rfl, q1, q19, q40, f88, ⟨0, f89, Or.inl ⟨rfl, rfl⟩⟩, ⟨0, f90, Or.inl ⟨rfl, rfl⟩⟩, hlalp, fun _ => rfl, hb_e0 hE hz hD, f91, fun i a r hi => by simp at hi, fun i q r hi => by simp at hi⟩) d_Hb_init_61
set_option maxHeartbeats 4000000 in
set_option maxRecDepth 100000 in
/-- agrees(account) -/
theorem c_Hb_agrees {l : Launch} {s0 : State} {D : va_G} {cI cJ cO : ClassId} {e0 mi : Nat} (hE : hb_E l s0 D cI cJ cO e0 mi) (M : hb_M) (x la lp nb ra rp : Nat) (ho pa tm : Int32) (Ac : List (Nat × hbA)) (Py : List (Nat × hbY)) (h : cR cO e0 M x la lp nb ra rp ho pa tm Ac Py) (hk : cOK Ac Py) (a : Nat) (an : Int32) (ak : hbA) (fa : M a = some (aE an ak)) : hb_Met l D hb_cl s0 y_Hb_agrees b_Hb_agrees 8 (some .boolean) { frames := 3, cells := 0, slots := 0, locals := 64 } [.ref x, .ref a] M (fun v M1 => v = some (.int (if hb_sm (hb_fh Py an) Py.length = ak.2.2.2.1 ∧ hb_sm (hb_fl Py an) Py.length = ak.2.2.2.2 then 1 else 0)) ∧ M1 = M) := by
  refine hb_Met.of (by decide) (Nat.le_of_ble_eq_true rfl) ?_
  intro p e s m below meth c A hAe hX hz hP hD hA hS ls hl
  obtain ⟨hx, hb, hr, hml, hown, hlocks, hnm, hG, hnh⟩ := id hX
  have hown : s.vm.findClass "HoldBook" = some m.cls := hown
  have hts := hE.ts hG ([.ref x, .ref a] : List Value).toArray
  have hK := hE.kn hG
  have hl : lv_has ls 8 [(0, .ref x), (1, .ref a)] := hl
  have fx := h.1
  obtain ⟨mda, fla⟩ := h.fla
  obtain ⟨mdp, flp⟩ := h.flp
  have hlA := hk.1
  have hlP := hk.2.1
  refine lv_lconst (v := 0) hx hb d_Hb_agrees_0 (by decide) ?_
  refine lv_lstore_n (lv' := [(2, .long 0), (0, .ref x), (1, .ref a)]) hx hb d_Hb_agrees_1 rfl hl (by decide) rfl (fun ls hl => ?_)
  refine lv_lconst (v := 0) hx hb d_Hb_agrees_2 (by decide) ?_
  refine lv_lstore (lv' := [(4, .long 0), (2, .long 0), (0, .ref x), (1, .ref a)]) hx hb d_Hb_agrees_3 hl (by decide) rfl (fun ls hl => ?_)
  refine lv_iconst (v := 0) hx hb d_Hb_agrees_5 (by decide) ?_
  refine lv_istore (lv' := [(6, .int 0), (4, .long 0), (2, .long 0), (0, .ref x), (1, .ref a)]) hx hb d_Hb_agrees_6 hl (by decide) rfl (fun ls hl => ?_)
  have loop : ∀ (d j : Nat), Py.length - j < d → j ≤ Py.length → True → ∀ (H : Heap) (locs : List Loc), hb_P D hb_cl M H → hb_D A M → va_S A s.heap H locs → ∀ ls : Array Slot, lv_has ls 8 [(6, .int (nI j)), (4, .long (hb_sm (hb_fl Py an) j)), (2, .long (hb_sm (hb_fh Py an) j)), (0, .ref x), (1, .ref a)] → W p l e ({ frames := 3, cells := 0, slots := 0, locals := 64 } : Room) s m ([.ref x, .ref a] : List Value).toArray below meth c H locs 0 0 (MQ below (hb_Post D hb_cl s.heap.size M (fun v M1 => v = some (.int (if hb_sm (hb_fh Py an) Py.length = ak.2.2.2.1 ∧ hb_sm (hb_fl Py an) Py.length = ak.2.2.2.2 then 1 else 0)) ∧ M1 = M)) ([.ref x, .ref a] : List Value).toArray s 0 0 A) (F0 m 8 ls []) := by
    intro d
    induction d with
    | zero => intro j h9; exact absurd h9 (by omega)
    | succ d ih =>
      intro j hd hjn hinv H locs hP hD hS ls hl
      refine lv_iload hx hb d_Hb_agrees_8 (lv_at hl 0 rfl) ?_
      refine lv_aload_n hx hb d_Hb_agrees_10 rfl (lv_at hl 3 rfl) ?_
      refine hb_get hx hb hts hown hC_Hb hK hP fx 3 (by decide) rfl fl_Hb_16 rfl d_Hb_agrees_11 ?_
      refine hb_callV (rest := [.int (nI j)]) hX hts hb_gd Y_Al_size (c_py_size hE h) ml_Hb_55 im_Al_size se_Al_size hK flp hC_Al.1 hz hP hD hS hA rfl hl.1 rfl (Nat.le_of_ble_eq_true rfl) ⟨Nat.le_of_ble_eq_true rfl, Nat.le_of_ble_eq_true rfl⟩ ⟨Nat.le_of_ble_eq_true rfl, Nat.le_of_ble_eq_true rfl⟩ d_Hb_agrees_14 (fun v3 M1 H locs hq2 hP hD hS _ hkp => ?_)
      obtain ⟨ev4, eM5⟩ := hq2
      subst ev4
      rw [eM5] at hP hD
      refine W.eq (g2 := F0 m 17 ls [.int (nI Py.length), .int (nI j)]) rfl ?_
      refine lv_icmp_ge (tgt := 73) hx hb d_Hb_agrees_17 (by decide) (fun c6 => ?_) (fun c6 => ?_)
      · skip
        have c6n := hb_ngti c6
        have hje : j = Py.length := by have := (nI_leI (by omega) (by omega)).mp c6; omega
        subst hje
        refine lv_lload_n hx hb d_Hb_agrees_73 rfl (lv_at hl 2 rfl) ?_
        refine lv_aload_n hx hb d_Hb_agrees_74 rfl (lv_at hl 4 rfl) ?_
        refine hb_get hx hb hts hown hC_Acc hK hP fa 4 (by decide) rfl fl_Hb_232 rfl d_Hb_agrees_75 ?_
        refine hb_lc_ne (tgt := 96) hx hb d_Hb_agrees_78 d_Hb_agrees_79 (by decide) (fun c7 => ?_) (fun c7 => ?_)
        · skip
          refine lv_iconst (v := 0) hx hb d_Hb_agrees_96 (by decide) ?_
          exact hb_zret hAe hx hb hr (by decide) hlocks hP hD hS (Nat.le_of_ble_eq_true rfl) (Nat.le_of_ble_eq_true rfl) (⟨by first | (rw [if_pos ⟨by assumption, by assumption⟩]) | (rw [if_neg (fun h => absurd h.1 (by assumption))]) | (rw [if_neg (fun h => absurd h.2 (by assumption))]), rfl⟩) d_Hb_agrees_97
        · skip
          refine lv_lload hx hb d_Hb_agrees_82 (lv_at hl 1 rfl) ?_
          refine lv_aload_n hx hb d_Hb_agrees_84 rfl (lv_at hl 4 rfl) ?_
          refine hb_get hx hb hts hown hC_Acc hK hP fa 5 (by decide) rfl fl_Hb_233 rfl d_Hb_agrees_85 ?_
          refine hb_lc_ne (tgt := 96) hx hb d_Hb_agrees_88 d_Hb_agrees_89 (by decide) (fun c8 => ?_) (fun c8 => ?_)
          · skip
            refine lv_iconst (v := 0) hx hb d_Hb_agrees_96 (by decide) ?_
            exact hb_zret hAe hx hb hr (by decide) hlocks hP hD hS (Nat.le_of_ble_eq_true rfl) (Nat.le_of_ble_eq_true rfl) (⟨by first | (rw [if_pos ⟨by assumption, by assumption⟩]) | (rw [if_neg (fun h => absurd h.1 (by assumption))]) | (rw [if_neg (fun h => absurd h.2 (by assumption))]), rfl⟩) d_Hb_agrees_97
          · skip
            refine lv_iconst (v := 1) hx hb d_Hb_agrees_92 (by decide) ?_
            refine lv_goto (tgt := 97) hx hb d_Hb_agrees_93 (by decide) ?_
            exact hb_zret hAe hx hb hr (by decide) hlocks hP hD hS (Nat.le_of_ble_eq_true rfl) (Nat.le_of_ble_eq_true rfl) (⟨by first | (rw [if_pos ⟨by assumption, by assumption⟩]) | (rw [if_neg (fun h => absurd h.1 (by assumption))]) | (rw [if_neg (fun h => absurd h.2 (by assumption))]), rfl⟩) d_Hb_agrees_97
      · skip
        have c6n := hb_gti c6
        refine lv_aload_n hx hb d_Hb_agrees_20 rfl (lv_at hl 3 rfl) ?_
        refine hb_get hx hb hts hown hC_Hb hK hP fx 3 (by decide) rfl fl_Hb_16 rfl d_Hb_agrees_21 ?_
        refine lv_iload hx hb d_Hb_agrees_24 (lv_at hl 0 rfl) ?_
        obtain ⟨q0, r0, hj0⟩ := hb_get2 (L := Py) (j := j) (Nat.lt_of_not_le (fun z => c6 (nI_le z (by omega))))
        have hjlt := (List.getElem?_eq_some_iff.mp hj0).1
        obtain ⟨s9, fs9⟩ := h.acE hk hj0
        refine hb_callV (rest := []) hX hts hb_gd Y_Al_get (c_py_get hE h hj0) ml_Hb_87 im_Al_get se_Al_get hK flp hC_Al.1 hz hP hD hS hA rfl hl.1 rfl (Nat.le_of_ble_eq_true rfl) ⟨Nat.le_of_ble_eq_true rfl, Nat.le_of_ble_eq_true rfl⟩ ⟨Nat.le_of_ble_eq_true rfl, Nat.le_of_ble_eq_true rfl⟩ d_Hb_agrees_26 (fun v11 M9 H locs hq10 hP hD hS _ hkp => ?_)
        obtain ⟨ev12, eM13⟩ := hq10
        subst ev12
        rw [eM13] at hP hD
        have fq0 := h.py hj0
        refine W.eq (g2 := F0 m 29 ls [.ref q0]) rfl ?_
        refine va_castS hx hb hown (hts _ kl_Hb_97) (hK.1 1 _ rfl).2 (va_recv hK (hP.one fq0) (ci := 1) (q0 := 0) rfl rfl) d_Hb_agrees_29 ?_
        refine lv_astore (lv' := [(7, .ref q0), (6, .int (nI j)), (4, .long (hb_sm (hb_fl Py an) j)), (2, .long (hb_sm (hb_fh Py an) j)), (0, .ref x), (1, .ref a)]) hx hb d_Hb_agrees_32 hl (by decide) rfl (fun ls hl => ?_)
        refine lv_aload hx hb d_Hb_agrees_34 (lv_at hl 0 rfl) ?_
        refine hb_get hx hb hts hown hC_Pay hK hP fq0 1 (by decide) rfl fl_Hb_223 rfl d_Hb_agrees_36 ?_
        refine hb_get hx hb hts hown hC_Acc hK hP fs9 0 (by decide) rfl fl_Hb_226 rfl d_Hb_agrees_39 ?_
        refine lv_aload_n hx hb d_Hb_agrees_42 rfl (lv_at hl 5 rfl) ?_
        refine hb_get hx hb hts hown hC_Acc hK hP fa 0 (by decide) rfl fl_Hb_226 rfl d_Hb_agrees_43 ?_
        refine lv_icmp_ne (tgt := 67) hx hb d_Hb_agrees_46 (by decide) (fun c14 => ?_) (fun c14 => ?_)
        · skip
          have e_h : hb_fh Py an j = 0 := by rw [hb_fh_at hj0, if_neg c14]
          have e_l : hb_fl Py an j = 0 := by rw [hb_fl_at hj0, if_neg c14]
          refine lv_iinc (v := (nI j) + 1) (lv' := [(6, .int ((nI j) + 1)), (7, .ref q0), (4, .long (hb_sm (hb_fl Py an) j)), (2, .long (hb_sm (hb_fh Py an) j)), (0, .ref x), (1, .ref a)]) hx hb d_Hb_agrees_67 hl (k := 1) rfl (by rfl) (by decide) rfl (fun ls hl => ?_)
          refine lv_goto (tgt := 8) hx hb d_Hb_agrees_70 (by decide) ?_
          have hl : lv_has ls 8 [(6, .int (nI (j + 1))), (4, .long (hb_sm (hb_fl Py an) (j + 1))), (2, .long (hb_sm (hb_fh Py an) (j + 1))), (0, .ref x), (1, .ref a)] := by rw [← nI_1, show hb_sm (hb_fh Py an) (j + 1) = hb_sm (hb_fh Py an) j + hb_fh Py an j from rfl, show hb_sm (hb_fl Py an) (j + 1) = hb_sm (hb_fl Py an) j + hb_fl Py an j from rfl, e_h, e_l, hb_add0, hb_add0]; exact lv_sub hl [0, 2, 3, 4, 5] rfl
          exact ih (j + 1) (by omega) (by omega) trivial _ _ hP hD hS _ hl
        · skip
          have e_h := hb_fh_at (n := an) hj0
          have e_l := hb_fl_at (n := an) hj0
          rw [if_pos c14] at e_h e_l
          refine lv_lload_n hx hb d_Hb_agrees_49 rfl (lv_at hl 3 rfl) ?_
          refine lv_aload hx hb d_Hb_agrees_50 (lv_at hl 0 rfl) ?_
          refine hb_get hx hb hts hown hC_Pay hK hP fq0 3 (by decide) rfl fl_Hb_116 rfl d_Hb_agrees_52 ?_
          refine lv_ladd hx hb d_Hb_agrees_55 ?_
          refine lv_lstore_n (lv' := [(2, .long ((hb_sm (hb_fh Py an) j) + r0.2.2.2.1)), (7, .ref q0), (6, .int (nI j)), (4, .long (hb_sm (hb_fl Py an) j)), (0, .ref x), (1, .ref a)]) hx hb d_Hb_agrees_56 rfl hl (by decide) rfl (fun ls hl => ?_)
          refine lv_lload hx hb d_Hb_agrees_57 (lv_at hl 3 rfl) ?_
          refine lv_aload hx hb d_Hb_agrees_59 (lv_at hl 1 rfl) ?_
          refine hb_callV (rest := [.long (hb_sm (hb_fl Py an) j)]) hX hts hb_gd Y_Pay_locked (c_Pay_locked hE M q0 (hb_acc nb Ac r0.2.1) r0.1 r0.2.2.1 r0.2.2.2.2.2.1 r0.2.2.2.2.2.2.1 r0.2.2.2.2.2.2.2.1 r0.2.2.2.2.2.2.2.2.2 r0.2.2.2.1 r0.2.2.2.2.1 r0.2.2.2.2.2.2.2.2.1 fq0) ml_Hb_229 im_Pay_locked se_Pay_locked hK fq0 hC_Pay.1 hz hP hD hS hA rfl hl.1 rfl (Nat.le_of_ble_eq_true rfl) ⟨Nat.le_of_ble_eq_true rfl, Nat.le_of_ble_eq_true rfl⟩ ⟨Nat.le_of_ble_eq_true rfl, Nat.le_of_ble_eq_true rfl⟩ d_Hb_agrees_61 (fun v17 M15 H locs hq16 hP hD hS _ hkp => ?_)
          obtain ⟨ev18, eM19⟩ := hq16
          subst ev18
          rw [eM19] at hP hD
          refine W.eq (g2 := F0 m 64 ls [.long (if r0.2.2.2.2.2.2.2.1 = 1 ∨ r0.2.2.2.2.2.2.2.1 = 2 then r0.2.2.2.2.2.2.2.2.1 else 0), .long (hb_sm (hb_fl Py an) j)]) rfl ?_
          refine lv_ladd hx hb d_Hb_agrees_64 ?_
          refine lv_lstore (lv' := [(4, .long ((hb_sm (hb_fl Py an) j) + (if r0.2.2.2.2.2.2.2.1 = 1 ∨ r0.2.2.2.2.2.2.2.1 = 2 then r0.2.2.2.2.2.2.2.2.1 else 0))), (2, .long ((hb_sm (hb_fh Py an) j) + r0.2.2.2.1)), (7, .ref q0), (6, .int (nI j)), (0, .ref x), (1, .ref a)]) hx hb d_Hb_agrees_65 hl (by decide) rfl (fun ls hl => ?_)
          refine lv_iinc (v := (nI j) + 1) (lv' := [(6, .int ((nI j) + 1)), (4, .long ((hb_sm (hb_fl Py an) j) + (if r0.2.2.2.2.2.2.2.1 = 1 ∨ r0.2.2.2.2.2.2.2.1 = 2 then r0.2.2.2.2.2.2.2.2.1 else 0))), (2, .long ((hb_sm (hb_fh Py an) j) + r0.2.2.2.1)), (7, .ref q0), (0, .ref x), (1, .ref a)]) hx hb d_Hb_agrees_67 hl (k := 3) rfl (by rfl) (by decide) rfl (fun ls hl => ?_)
          refine lv_goto (tgt := 8) hx hb d_Hb_agrees_70 (by decide) ?_
          have hl : lv_has ls 8 [(6, .int (nI (j + 1))), (4, .long (hb_sm (hb_fl Py an) (j + 1))), (2, .long (hb_sm (hb_fh Py an) (j + 1))), (0, .ref x), (1, .ref a)] := by rw [← nI_1, show hb_sm (hb_fh Py an) (j + 1) = hb_sm (hb_fh Py an) j + hb_fh Py an j from rfl, show hb_sm (hb_fl Py an) (j + 1) = hb_sm (hb_fl Py an) j + hb_fl Py an j from rfl, e_h, e_l]; exact lv_sub hl [0, 1, 2, 4, 5] rfl
          exact ih (j + 1) (by omega) (by omega) trivial _ _ hP hD hS _ hl
  exact loop (Py.length + 1) 0 (by omega) (by omega) trivial _ _ hP hD hS _ (lv_sub hl [0, 1, 2, 3, 4] rfl)
set_option maxHeartbeats 4000000 in
set_option maxRecDepth 100000 in
/-- audit(), all in order -/
theorem c_Hb_audit {l : Launch} {s0 : State} {D : va_G} {cI cJ cO : ClassId} {e0 mi : Nat} (hE : hb_E l s0 D cI cJ cO e0 mi) (M : hb_M) (x la lp nb ra rp : Nat) (ho pa tm : Int32) (Ac : List (Nat × hbA)) (Py : List (Nat × hbY)) (h : cR cO e0 M x la lp nb ra rp ho pa tm Ac Py) (hk : cOK Ac Py) (hall : ∀ (i a : Nat) (s : hbA), Ac[i]? = some (a, s) → (hb_sm (hb_fh Py (nI i)) Py.length = s.2.2.2.1 ∧ hb_sm (hb_fl Py (nI i)) Py.length = s.2.2.2.2) ∧ ¬ ((s.2.2.1 - s.1 - s.2.2.2.1 - s.2.2.2.2) < 0 ∧ (s.2.2.1 - s.1 - s.2.2.2.1 - s.2.2.2.2) < s.2.1)) : hb_Met l D hb_cl s0 y_Hb_audit b_Hb_audit 4 (some .int) { frames := 4, cells := 0, slots := 0, locals := 91 } [.ref x] M (fun v M1 => v = some (.int 0) ∧ M1 = M) := by
  refine hb_Met.of (by decide) (Nat.le_of_ble_eq_true rfl) ?_
  intro p e s m below meth c A hAe hX hz hP hD hA hS ls hl
  obtain ⟨hx, hb, hr, hml, hown, hlocks, hnm, hG, hnh⟩ := id hX
  have hown : s.vm.findClass "HoldBook" = some m.cls := hown
  have hts := hE.ts hG ([.ref x] : List Value).toArray
  have hK := hE.kn hG
  have hl : lv_has ls 4 [(0, .ref x)] := hl
  have fx := h.1
  obtain ⟨mda, fla⟩ := h.fla
  obtain ⟨mdp, flp⟩ := h.flp
  have hlA := hk.1
  have hlP := hk.2.1
  refine lv_iconst (v := 0) hx hb d_Hb_audit_0 (by decide) ?_
  refine lv_istore_n (lv' := [(1, .int 0), (0, .ref x)]) hx hb d_Hb_audit_1 rfl hl (by decide) rfl (fun ls hl => ?_)
  refine lv_iconst (v := 0) hx hb d_Hb_audit_2 (by decide) ?_
  refine lv_istore_n (lv' := [(2, .int 0), (1, .int 0), (0, .ref x)]) hx hb d_Hb_audit_3 rfl hl (by decide) rfl (fun ls hl => ?_)
  have loop : ∀ (d j : Nat), Ac.length - j < d → j ≤ Ac.length → True → ∀ (H : Heap) (locs : List Loc), hb_P D hb_cl M H → hb_D A M → va_S A s.heap H locs → ∀ ls : Array Slot, lv_has ls 4 [(2, .int (nI j)), (1, .int 0), (0, .ref x)] → W p l e ({ frames := 4, cells := 0, slots := 0, locals := 91 } : Room) s m ([.ref x] : List Value).toArray below meth c H locs 0 0 (MQ below (hb_Post D hb_cl s.heap.size M (fun v M1 => v = some (.int 0) ∧ M1 = M)) ([.ref x] : List Value).toArray s 0 0 A) (F0 m 4 ls []) := by
    intro d
    induction d with
    | zero => intro j h9; exact absurd h9 (by omega)
    | succ d ih =>
      intro j hd hjn hinv H locs hP hD hS ls hl
      refine lv_iload_n hx hb d_Hb_audit_4 rfl (lv_at hl 0 rfl) ?_
      refine lv_aload_n hx hb d_Hb_audit_5 rfl (lv_at hl 2 rfl) ?_
      refine hb_get hx hb hts hown hC_Hb hK hP fx 2 (by decide) rfl fl_Hb_10 rfl d_Hb_audit_6 ?_
      refine hb_callV (rest := [.int (nI j)]) hX hts hb_gd Y_Al_size (c_ac_size hE h) ml_Hb_55 im_Al_size se_Al_size hK fla hC_Al.1 hz hP hD hS hA rfl hl.1 rfl (Nat.le_of_ble_eq_true rfl) ⟨Nat.le_of_ble_eq_true rfl, Nat.le_of_ble_eq_true rfl⟩ ⟨Nat.le_of_ble_eq_true rfl, Nat.le_of_ble_eq_true rfl⟩ d_Hb_audit_9 (fun v3 M1 H locs hq2 hP hD hS _ hkp => ?_)
      obtain ⟨ev4, eM5⟩ := hq2
      subst ev4
      rw [eM5] at hP hD
      refine W.eq (g2 := F0 m 12 ls [.int (nI Ac.length), .int (nI j)]) rfl ?_
      refine lv_icmp_ge (tgt := 51) hx hb d_Hb_audit_12 (by decide) (fun c6 => ?_) (fun c6 => ?_)
      · skip
        have c6n := hb_ngti c6
        refine lv_iload_n hx hb d_Hb_audit_51 rfl (lv_at hl 1 rfl) ?_
        exact hb_iret hAe hx hb hr hlocks hP hD hS (Nat.le_of_ble_eq_true rfl) (Nat.le_of_ble_eq_true rfl) (⟨rfl, rfl⟩) d_Hb_audit_52
      · skip
        have c6n := hb_gti c6
        refine lv_aload_n hx hb d_Hb_audit_15 rfl (lv_at hl 2 rfl) ?_
        refine hb_get hx hb hts hown hC_Hb hK hP fx 2 (by decide) rfl fl_Hb_10 rfl d_Hb_audit_16 ?_
        refine lv_iload_n hx hb d_Hb_audit_19 rfl (lv_at hl 0 rfl) ?_
        obtain ⟨a, s9, hj0⟩ := hb_get2 (L := Ac) (j := j) (Nat.lt_of_not_le (fun z => c6 (nI_le z (by omega))))
        have hjlt := (List.getElem?_eq_some_iff.mp hj0).1
        refine hb_callV (rest := []) hX hts hb_gd Y_Al_get (c_ac_get hE h hj0) ml_Hb_87 im_Al_get se_Al_get hK fla hC_Al.1 hz hP hD hS hA rfl hl.1 rfl (Nat.le_of_ble_eq_true rfl) ⟨Nat.le_of_ble_eq_true rfl, Nat.le_of_ble_eq_true rfl⟩ ⟨Nat.le_of_ble_eq_true rfl, Nat.le_of_ble_eq_true rfl⟩ d_Hb_audit_20 (fun v9 M7 H locs hq8 hP hD hS _ hkp => ?_)
        obtain ⟨ev10, eM11⟩ := hq8
        subst ev10
        rw [eM11] at hP hD
        have fa := h.ac hj0
        have hal := hall j a s9 hj0
        refine W.eq (g2 := F0 m 23 ls [.ref a]) rfl ?_
        refine va_castS hx hb hown (hts _ kl_Hb_19) (hK.1 0 _ rfl).2 (va_recv hK (hP.one fa) (ci := 0) (q0 := 0) rfl rfl) d_Hb_audit_23 ?_
        refine lv_astore_n (lv' := [(3, .ref a), (2, .int (nI j)), (1, .int 0), (0, .ref x)]) hx hb d_Hb_audit_26 rfl hl (by decide) rfl (fun ls hl => ?_)
        refine lv_aload_n hx hb d_Hb_audit_27 rfl (lv_at hl 3 rfl) ?_
        refine lv_aload_n hx hb d_Hb_audit_28 rfl (lv_at hl 0 rfl) ?_
        refine hb_callV (rest := []) hX hts hb_gd Y_Hb_agrees (c_Hb_agrees hE M x la lp nb ra rp ho pa tm Ac Py h hk a (nI j) s9 fa) ml_Hb_192 im_Hb_agrees se_Hb_agrees hK fx hC_Hb.1 hz hP hD hS hA rfl hl.1 rfl (Nat.le_of_ble_eq_true rfl) ⟨Nat.le_of_ble_eq_true rfl, Nat.le_of_ble_eq_true rfl⟩ ⟨Nat.le_of_ble_eq_true rfl, Nat.le_of_ble_eq_true rfl⟩ d_Hb_audit_29 (fun v14 M12 H locs hq13 hP hD hS _ hkp => ?_)
        obtain ⟨ev15, eM16⟩ := hq13
        subst ev15
        rw [eM16] at hP hD
        refine W.eq (g2 := F0 m 32 ls [.int (if hb_sm (hb_fh Py (nI j)) Py.length = s9.2.2.2.1 ∧ hb_sm (hb_fl Py (nI j)) Py.length = s9.2.2.2.2 then 1 else 0)]) rfl ?_
        refine lv_if_eq (tgt := 42) hx hb d_Hb_audit_32 (by decide) (fun c17 => ?_) (fun c17 => ?_)
        · skip
          exact absurd c17 (by rw [if_pos hal.1]; decide)
        · skip
          refine lv_aload_n hx hb d_Hb_audit_35 rfl (lv_at hl 0 rfl) ?_
          refine hb_callV (rest := []) hX hts hb_gd Y_Acc_isOverdrawn (c_Acc_isOverdrawn hE M a (nI j) s9.1 s9.2.1 s9.2.2.1 s9.2.2.2.1 s9.2.2.2.2 fa) ml_Hb_196 im_Acc_isOverdrawn se_Acc_isOverdrawn hK fa hC_Acc.1 hz hP hD hS hA rfl hl.1 rfl (Nat.le_of_ble_eq_true rfl) ⟨Nat.le_of_ble_eq_true rfl, Nat.le_of_ble_eq_true rfl⟩ ⟨Nat.le_of_ble_eq_true rfl, Nat.le_of_ble_eq_true rfl⟩ d_Hb_audit_36 (fun v20 M18 H locs hq19 hP hD hS _ hkp => ?_)
          obtain ⟨ev21, eM22⟩ := hq19
          subst ev21
          rw [eM22] at hP hD
          refine W.eq (g2 := F0 m 39 ls [.int (if (s9.2.2.1 - s9.1 - s9.2.2.2.1 - s9.2.2.2.2) < 0 ∧ (s9.2.2.1 - s9.1 - s9.2.2.2.1 - s9.2.2.2.2) < s9.2.1 then 1 else 0)]) rfl ?_
          refine lv_if_eq (tgt := 45) hx hb d_Hb_audit_39 (by decide) (fun c23 => ?_) (fun c23 => ?_)
          · skip
            refine lv_iinc (v := (nI j) + 1) (lv' := [(2, .int ((nI j) + 1)), (3, .ref a), (1, .int 0), (0, .ref x)]) hx hb d_Hb_audit_45 hl (k := 1) rfl (by rfl) (by decide) rfl (fun ls hl => ?_)
            refine lv_goto (tgt := 4) hx hb d_Hb_audit_48 (by decide) ?_
            have hl : lv_has ls 4 [(2, .int (nI (j + 1))), (1, .int 0), (0, .ref x)] := by rw [← nI_1]; exact lv_sub hl [0, 2, 3] rfl
            exact ih (j + 1) (by omega) (by omega) trivial _ _ hP hD hS _ hl
          · skip
            exact absurd (by rw [if_neg hal.2]) c23
  exact loop (Ac.length + 1) 0 (by omega) (by omega) trivial _ _ hP hD hS _ (lv_sub hl [0, 1, 2] rfl)
