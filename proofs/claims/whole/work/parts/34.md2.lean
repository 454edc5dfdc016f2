/-! THE REFERENCE: private methods -/
set_option maxHeartbeats 4000000 in
set_option maxRecDepth 100000 in
/-- payments() -/
theorem c_Md_payments {l : Launch} {s0 : State} {D : va_G} {cI cJ cO : ClassId} {e0 mi : Nat} (hE : hb_E l s0 D cI cJ cO e0 mi) (M : hb_M) (y b0 b1 b2 b3 b4 b5 b6 b7 b8 b9 b10 b11 : Nat) (cd ho pa tm : Int32) (na np : Nat) (bal mi : Nat → Int64) (ky ac st : Nat → Int32) (he cl : Nat → Int64) (un dn ds : Nat → Int32) (dd : Nat → Int64) (dl : Nat → Int32) (h : mR cI cJ M y b0 b1 b2 b3 b4 b5 b6 b7 b8 b9 b10 b11 cd ho pa tm na np bal mi ky ac st he cl un dn ds dd dl) (hna : na ≤ 16) (hnp : np ≤ 60) : hb_Met l D hb_cl s0 y_Md_payments b_Md_payments 1 (some .int) { frames := 0, cells := 0, slots := 0, locals := 0 } [.ref y] M (fun v M1 => v = some (.int (nI np)) ∧ mR cI cJ M1 y b0 b1 b2 b3 b4 b5 b6 b7 b8 b9 b10 b11 0 ho pa tm na np bal mi ky ac st he cl un dn ds dd dl) := by
  refine hb_Met.of (by decide) (Nat.le_of_ble_eq_true rfl) ?_
  intro p e s m below meth c A hAe hX hz hP hD hA hS ls hl
  obtain ⟨hx, hb, hr, hml, hown, hlocks, hnm, hG, hnh⟩ := id hX
  have hown : s.vm.findClass "HoldBookModel" = some m.cls := hown
  have hts := hE.ts hG ([.ref y] : List Value).toArray
  have hK := hE.kn hG
  have hl : lv_has ls 1 [(0, .ref y)] := hl
  obtain ⟨fy, g0, g1, g2, g3, g4, g5, g6, g7, g8, g9, g10, g11, hap⟩ := id h
  refine lv_aload_n hx hb d_Md_payments_0 rfl (lv_at hl 0 rfl) ?_
  refine lv_iconst (v := 0) hx hb d_Md_payments_1 (by decide) ?_
  refine hb_put (ty := .int) hx hb hts hown hC_Md hK hP hD hS fy 0 (by decide) rfl fl_Md_54 rfl rfl rfl rfl (Nat.le_of_ble_eq_true rfl) d_Md_payments_2 (fun M1 H locs eM2 hP hD hS => ?_)
  have f3 : M1 y = some (.inr (4, [.int 0, .int ho, .int pa, .int tm, .int (nI na), .ref b0, .ref b1, .int (nI np), .ref b2, .ref b3, .ref b4, .ref b5, .ref b6, .ref b7, .ref b8, .ref b9, .ref b10, .ref b11])) := by rw [eM2]; exact hb_up_self
  have f4 : M1 b0 = some (.inl (cJ, 16, .inr (.inl bal))) := by rw [eM2, hb_up_ne (fun q9 => by rw [q9, fy] at g0; cases g0)]; exact g0
  have f5 : M1 b1 = some (.inl (cJ, 16, .inr (.inl mi))) := by rw [eM2, hb_up_ne (fun q9 => by rw [q9, fy] at g1; cases g1)]; exact g1
  have f6 : M1 b2 = some (.inl (cI, 60, .inl ky)) := by rw [eM2, hb_up_ne (fun q9 => by rw [q9, fy] at g2; cases g2)]; exact g2
  have f7 : M1 b3 = some (.inl (cI, 60, .inl ac)) := by rw [eM2, hb_up_ne (fun q9 => by rw [q9, fy] at g3; cases g3)]; exact g3
  have f8 : M1 b4 = some (.inl (cI, 60, .inl st)) := by rw [eM2, hb_up_ne (fun q9 => by rw [q9, fy] at g4; cases g4)]; exact g4
  have f9 : M1 b5 = some (.inl (cJ, 60, .inr (.inl he))) := by rw [eM2, hb_up_ne (fun q9 => by rw [q9, fy] at g5; cases g5)]; exact g5
  have f10 : M1 b6 = some (.inl (cJ, 60, .inr (.inl cl))) := by rw [eM2, hb_up_ne (fun q9 => by rw [q9, fy] at g6; cases g6)]; exact g6
  have f11 : M1 b7 = some (.inl (cI, 60, .inl un)) := by rw [eM2, hb_up_ne (fun q9 => by rw [q9, fy] at g7; cases g7)]; exact g7
  have f12 : M1 b8 = some (.inl (cI, 60, .inl dn)) := by rw [eM2, hb_up_ne (fun q9 => by rw [q9, fy] at g8; cases g8)]; exact g8
  have f13 : M1 b9 = some (.inl (cI, 60, .inl ds)) := by rw [eM2, hb_up_ne (fun q9 => by rw [q9, fy] at g9; cases g9)]; exact g9
  have f14 : M1 b10 = some (.inl (cJ, 60, .inr (.inl dd))) := by rw [eM2, hb_up_ne (fun q9 => by rw [q9, fy] at g10; cases g10)]; exact g10
  have f15 : M1 b11 = some (.inl (cI, 60, .inl dl)) := by rw [eM2, hb_up_ne (fun q9 => by rw [q9, fy] at g11; cases g11)]; exact g11
  refine lv_aload_n hx hb d_Md_payments_5 rfl (lv_at hl 0 rfl) ?_
  refine hb_get hx hb hts hown hC_Md hK hP f3 7 (by decide) rfl fl_Md_60 rfl d_Md_payments_6 ?_
  exact hb_iret hAe hx hb hr hlocks hP hD hS (Nat.le_of_ble_eq_true rfl) (Nat.le_of_ble_eq_true rfl) (⟨rfl, ⟨f3, f4, f5, f6, f7, f8, f9, f10, f11, f12, f13, f14, f15, hap⟩⟩) d_Md_payments_9
set_option maxHeartbeats 4000000 in
set_option maxRecDepth 100000 in
/-- audit() -/
theorem c_Md_audit {l : Launch} {s0 : State} {D : va_G} {cI cJ cO : ClassId} {e0 mi : Nat} (hE : hb_E l s0 D cI cJ cO e0 mi) (M : hb_M) (y b0 b1 b2 b3 b4 b5 b6 b7 b8 b9 b10 b11 : Nat) (cd ho pa tm : Int32) (na np : Nat) (bal mi : Nat → Int64) (ky ac st : Nat → Int32) (he cl : Nat → Int64) (un dn ds : Nat → Int32) (dd : Nat → Int64) (dl : Nat → Int32) (h : mR cI cJ M y b0 b1 b2 b3 b4 b5 b6 b7 b8 b9 b10 b11 cd ho pa tm na np bal mi ky ac st he cl un dn ds dd dl) (hna : na ≤ 16) (hnp : np ≤ 60) : hb_Met l D hb_cl s0 y_Md_audit b_Md_audit 1 (some .int) { frames := 0, cells := 0, slots := 0, locals := 0 } [.ref y] M (fun v M1 => v = some (.int 0) ∧ mR cI cJ M1 y b0 b1 b2 b3 b4 b5 b6 b7 b8 b9 b10 b11 0 ho pa tm na np bal mi ky ac st he cl un dn ds dd dl) := by
  refine hb_Met.of (by decide) (Nat.le_of_ble_eq_true rfl) ?_
  intro p e s m below meth c A hAe hX hz hP hD hA hS ls hl
  obtain ⟨hx, hb, hr, hml, hown, hlocks, hnm, hG, hnh⟩ := id hX
  have hown : s.vm.findClass "HoldBookModel" = some m.cls := hown
  have hts := hE.ts hG ([.ref y] : List Value).toArray
  have hK := hE.kn hG
  have hl : lv_has ls 1 [(0, .ref y)] := hl
  obtain ⟨fy, g0, g1, g2, g3, g4, g5, g6, g7, g8, g9, g10, g11, hap⟩ := id h
  refine lv_aload_n hx hb d_Md_audit_0 rfl (lv_at hl 0 rfl) ?_
  refine lv_iconst (v := 0) hx hb d_Md_audit_1 (by decide) ?_
  refine hb_put (ty := .int) hx hb hts hown hC_Md hK hP hD hS fy 0 (by decide) rfl fl_Md_54 rfl rfl rfl rfl (Nat.le_of_ble_eq_true rfl) d_Md_audit_2 (fun M1 H locs eM2 hP hD hS => ?_)
  have f3 : M1 y = some (.inr (4, [.int 0, .int ho, .int pa, .int tm, .int (nI na), .ref b0, .ref b1, .int (nI np), .ref b2, .ref b3, .ref b4, .ref b5, .ref b6, .ref b7, .ref b8, .ref b9, .ref b10, .ref b11])) := by rw [eM2]; exact hb_up_self
  have f4 : M1 b0 = some (.inl (cJ, 16, .inr (.inl bal))) := by rw [eM2, hb_up_ne (fun q9 => by rw [q9, fy] at g0; cases g0)]; exact g0
  have f5 : M1 b1 = some (.inl (cJ, 16, .inr (.inl mi))) := by rw [eM2, hb_up_ne (fun q9 => by rw [q9, fy] at g1; cases g1)]; exact g1
  have f6 : M1 b2 = some (.inl (cI, 60, .inl ky)) := by rw [eM2, hb_up_ne (fun q9 => by rw [q9, fy] at g2; cases g2)]; exact g2
  have f7 : M1 b3 = some (.inl (cI, 60, .inl ac)) := by rw [eM2, hb_up_ne (fun q9 => by rw [q9, fy] at g3; cases g3)]; exact g3
  have f8 : M1 b4 = some (.inl (cI, 60, .inl st)) := by rw [eM2, hb_up_ne (fun q9 => by rw [q9, fy] at g4; cases g4)]; exact g4
  have f9 : M1 b5 = some (.inl (cJ, 60, .inr (.inl he))) := by rw [eM2, hb_up_ne (fun q9 => by rw [q9, fy] at g5; cases g5)]; exact g5
  have f10 : M1 b6 = some (.inl (cJ, 60, .inr (.inl cl))) := by rw [eM2, hb_up_ne (fun q9 => by rw [q9, fy] at g6; cases g6)]; exact g6
  have f11 : M1 b7 = some (.inl (cI, 60, .inl un)) := by rw [eM2, hb_up_ne (fun q9 => by rw [q9, fy] at g7; cases g7)]; exact g7
  have f12 : M1 b8 = some (.inl (cI, 60, .inl dn)) := by rw [eM2, hb_up_ne (fun q9 => by rw [q9, fy] at g8; cases g8)]; exact g8
  have f13 : M1 b9 = some (.inl (cI, 60, .inl ds)) := by rw [eM2, hb_up_ne (fun q9 => by rw [q9, fy] at g9; cases g9)]; exact g9
  have f14 : M1 b10 = some (.inl (cJ, 60, .inr (.inl dd))) := by rw [eM2, hb_up_ne (fun q9 => by rw [q9, fy] at g10; cases g10)]; exact g10
  have f15 : M1 b11 = some (.inl (cI, 60, .inl dl)) := by rw [eM2, hb_up_ne (fun q9 => by rw [q9, fy] at g11; cases g11)]; exact g11
  refine lv_iconst (v := 0) hx hb d_Md_audit_5 (by decide) ?_
  exact hb_iret hAe hx hb hr hlocks hP hD hS (Nat.le_of_ble_eq_true rfl) (Nat.le_of_ble_eq_true rfl) (⟨rfl, ⟨f3, f4, f5, f6, f7, f8, f9, f10, f11, f12, f13, f14, f15, hap⟩⟩) d_Md_audit_6
set_option maxHeartbeats 4000000 in
set_option maxRecDepth 100000 in
/-- come(k, a) -/
theorem c_Md_come {l : Launch} {s0 : State} {D : va_G} {cI cJ cO : ClassId} {e0 mi : Nat} (hE : hb_E l s0 D cI cJ cO e0 mi) (M : hb_M) (y b0 b1 b2 b3 b4 b5 b6 b7 b8 b9 b10 b11 : Nat) (cd ho pa tm : Int32) (na np : Nat) (bal mi : Nat → Int64) (ky ac st : Nat → Int32) (he cl : Nat → Int64) (un dn ds : Nat → Int32) (dd : Nat → Int64) (dl : Nat → Int32) (h : mR cI cJ M y b0 b1 b2 b3 b4 b5 b6 b7 b8 b9 b10 b11 cd ho pa tm na np bal mi ky ac st he cl un dn ds dd dl) (hna : na ≤ 16) (hnp : np ≤ 60) (k a : Int32) (hl9 : np < 60) : hb_Met l D hb_cl s0 y_Md_come b_Md_come 4 (some .int) { frames := 0, cells := 0, slots := 0, locals := 0 } [.ref y, .int k, .int a] M (fun v M1 => v = some (.int (nI np)) ∧ mR cI cJ M1 y b0 b1 b2 b3 b4 b5 b6 b7 b8 b9 b10 b11 cd ho pa tm na (np + 1) bal mi (upd ky np k) (upd ac np a) (upd st np 2) (vp_updL he np 0) (vp_updL cl np 0) (upd un np 0) (upd dn np (-1)) (upd ds np 0) (vp_updL dd np 0) (upd dl np (-1))) := by
  refine hb_Met.of (by decide) (Nat.le_of_ble_eq_true rfl) ?_
  intro p e s m below meth c A hAe hX hz hP hD hA hS ls hl
  obtain ⟨hx, hb, hr, hml, hown, hlocks, hnm, hG, hnh⟩ := id hX
  have hown : s.vm.findClass "HoldBookModel" = some m.cls := hown
  have hts := hE.ts hG ([.ref y, .int k, .int a] : List Value).toArray
  have hK := hE.kn hG
  have hl : lv_has ls 4 [(0, .ref y), (1, .int k), (2, .int a)] := hl
  obtain ⟨fy, g0, g1, g2, g3, g4, g5, g6, g7, g8, g9, g10, g11, hap⟩ := id h
  refine lv_aload_n hx hb d_Md_come_0 rfl (lv_at hl 0 rfl) ?_
  refine hb_get hx hb hts hown hC_Md hK hP fy 7 (by decide) rfl fl_Md_60 rfl d_Md_come_1 ?_
  refine lv_istore_n (lv' := [(3, .int (nI np)), (0, .ref y), (1, .int k), (2, .int a)]) hx hb d_Md_come_4 rfl hl (by decide) rfl (fun ls hl => ?_)
  refine lv_aload_n hx hb d_Md_come_5 rfl (lv_at hl 1 rfl) ?_
  refine hb_get hx hb hts hown hC_Md hK hP fy 8 (by decide) rfl fl_Md_16 rfl d_Md_come_6 ?_
  refine lv_iload_n hx hb d_Md_come_9 rfl (lv_at hl 0 rfl) ?_
  refine lv_iload_n hx hb d_Md_come_10 rfl (lv_at hl 2 rfl) ?_
  refine hb_iast hx hb hK hP hD hS g2 (vp_in_nI (by omega) (by omega)) d_Md_come_11 (fun M1 H locs eM2 hP hD hS => ?_)
  rw [nI_clamp (show np < 2 ^ 31 by omega)] at eM2
  have f3 : M1 b2 = some (.inl (cI, 60, .inl (upd ky np k))) := by rw [eM2]; exact hb_up_self
  have f4 : M1 y = some (.inr (4, [.int cd, .int ho, .int pa, .int tm, .int (nI na), .ref b0, .ref b1, .int (nI np), .ref b2, .ref b3, .ref b4, .ref b5, .ref b6, .ref b7, .ref b8, .ref b9, .ref b10, .ref b11])) := by rw [eM2, hb_up_ne (fun q9 => by rw [q9, g2] at fy; cases fy)]; exact fy
  have f5 : M1 b0 = some (.inl (cJ, 16, .inr (.inl bal))) := by rw [eM2, hb_up_ne (hap.ne 0 2 (by decide) rfl rfl)]; exact g0
  have f6 : M1 b1 = some (.inl (cJ, 16, .inr (.inl mi))) := by rw [eM2, hb_up_ne (hap.ne 1 2 (by decide) rfl rfl)]; exact g1
  have f7 : M1 b3 = some (.inl (cI, 60, .inl ac)) := by rw [eM2, hb_up_ne (hap.ne 3 2 (by decide) rfl rfl)]; exact g3
  have f8 : M1 b4 = some (.inl (cI, 60, .inl st)) := by rw [eM2, hb_up_ne (hap.ne 4 2 (by decide) rfl rfl)]; exact g4
  have f9 : M1 b5 = some (.inl (cJ, 60, .inr (.inl he))) := by rw [eM2, hb_up_ne (hap.ne 5 2 (by decide) rfl rfl)]; exact g5
  have f10 : M1 b6 = some (.inl (cJ, 60, .inr (.inl cl))) := by rw [eM2, hb_up_ne (hap.ne 6 2 (by decide) rfl rfl)]; exact g6
  have f11 : M1 b7 = some (.inl (cI, 60, .inl un)) := by rw [eM2, hb_up_ne (hap.ne 7 2 (by decide) rfl rfl)]; exact g7
  have f12 : M1 b8 = some (.inl (cI, 60, .inl dn)) := by rw [eM2, hb_up_ne (hap.ne 8 2 (by decide) rfl rfl)]; exact g8
  have f13 : M1 b9 = some (.inl (cI, 60, .inl ds)) := by rw [eM2, hb_up_ne (hap.ne 9 2 (by decide) rfl rfl)]; exact g9
  have f14 : M1 b10 = some (.inl (cJ, 60, .inr (.inl dd))) := by rw [eM2, hb_up_ne (hap.ne 10 2 (by decide) rfl rfl)]; exact g10
  have f15 : M1 b11 = some (.inl (cI, 60, .inl dl)) := by rw [eM2, hb_up_ne (hap.ne 11 2 (by decide) rfl rfl)]; exact g11
  refine lv_aload_n hx hb d_Md_come_12 rfl (lv_at hl 1 rfl) ?_
  refine hb_get hx hb hts hown hC_Md hK hP f4 9 (by decide) rfl fl_Md_20 rfl d_Md_come_13 ?_
  refine lv_iload_n hx hb d_Md_come_16 rfl (lv_at hl 0 rfl) ?_
  refine lv_iload_n hx hb d_Md_come_17 rfl (lv_at hl 3 rfl) ?_
  refine hb_iast hx hb hK hP hD hS f7 (vp_in_nI (by omega) (by omega)) d_Md_come_18 (fun M16 H locs eM17 hP hD hS => ?_)
  rw [nI_clamp (show np < 2 ^ 31 by omega)] at eM17
  have f18 : M16 b3 = some (.inl (cI, 60, .inl (upd ac np a))) := by rw [eM17]; exact hb_up_self
  have f19 : M16 b2 = some (.inl (cI, 60, .inl (upd ky np k))) := by rw [eM17, hb_up_ne (hap.ne 2 3 (by decide) rfl rfl)]; exact f3
  have f20 : M16 y = some (.inr (4, [.int cd, .int ho, .int pa, .int tm, .int (nI na), .ref b0, .ref b1, .int (nI np), .ref b2, .ref b3, .ref b4, .ref b5, .ref b6, .ref b7, .ref b8, .ref b9, .ref b10, .ref b11])) := by rw [eM17, hb_up_ne (fun q9 => by rw [q9, f7] at f4; cases f4)]; exact f4
  have f21 : M16 b0 = some (.inl (cJ, 16, .inr (.inl bal))) := by rw [eM17, hb_up_ne (hap.ne 0 3 (by decide) rfl rfl)]; exact f5
  have f22 : M16 b1 = some (.inl (cJ, 16, .inr (.inl mi))) := by rw [eM17, hb_up_ne (hap.ne 1 3 (by decide) rfl rfl)]; exact f6
  have f23 : M16 b4 = some (.inl (cI, 60, .inl st)) := by rw [eM17, hb_up_ne (hap.ne 4 3 (by decide) rfl rfl)]; exact f8
  have f24 : M16 b5 = some (.inl (cJ, 60, .inr (.inl he))) := by rw [eM17, hb_up_ne (hap.ne 5 3 (by decide) rfl rfl)]; exact f9
  have f25 : M16 b6 = some (.inl (cJ, 60, .inr (.inl cl))) := by rw [eM17, hb_up_ne (hap.ne 6 3 (by decide) rfl rfl)]; exact f10
  have f26 : M16 b7 = some (.inl (cI, 60, .inl un)) := by rw [eM17, hb_up_ne (hap.ne 7 3 (by decide) rfl rfl)]; exact f11
  have f27 : M16 b8 = some (.inl (cI, 60, .inl dn)) := by rw [eM17, hb_up_ne (hap.ne 8 3 (by decide) rfl rfl)]; exact f12
  have f28 : M16 b9 = some (.inl (cI, 60, .inl ds)) := by rw [eM17, hb_up_ne (hap.ne 9 3 (by decide) rfl rfl)]; exact f13
  have f29 : M16 b10 = some (.inl (cJ, 60, .inr (.inl dd))) := by rw [eM17, hb_up_ne (hap.ne 10 3 (by decide) rfl rfl)]; exact f14
  have f30 : M16 b11 = some (.inl (cI, 60, .inl dl)) := by rw [eM17, hb_up_ne (hap.ne 11 3 (by decide) rfl rfl)]; exact f15
  refine lv_aload_n hx hb d_Md_come_19 rfl (lv_at hl 1 rfl) ?_
  refine hb_get hx hb hts hown hC_Md hK hP f20 10 (by decide) rfl fl_Md_23 rfl d_Md_come_20 ?_
  refine lv_iload_n hx hb d_Md_come_23 rfl (lv_at hl 0 rfl) ?_
  refine lv_iconst (v := 2) hx hb d_Md_come_24 (by decide) ?_
  refine hb_iast hx hb hK hP hD hS f23 (vp_in_nI (by omega) (by omega)) d_Md_come_25 (fun M31 H locs eM32 hP hD hS => ?_)
  rw [nI_clamp (show np < 2 ^ 31 by omega)] at eM32
  have f33 : M31 b4 = some (.inl (cI, 60, .inl (upd st np 2))) := by rw [eM32]; exact hb_up_self
  have f34 : M31 b3 = some (.inl (cI, 60, .inl (upd ac np a))) := by rw [eM32, hb_up_ne (hap.ne 3 4 (by decide) rfl rfl)]; exact f18
  have f35 : M31 b2 = some (.inl (cI, 60, .inl (upd ky np k))) := by rw [eM32, hb_up_ne (hap.ne 2 4 (by decide) rfl rfl)]; exact f19
  have f36 : M31 y = some (.inr (4, [.int cd, .int ho, .int pa, .int tm, .int (nI na), .ref b0, .ref b1, .int (nI np), .ref b2, .ref b3, .ref b4, .ref b5, .ref b6, .ref b7, .ref b8, .ref b9, .ref b10, .ref b11])) := by rw [eM32, hb_up_ne (fun q9 => by rw [q9, f23] at f20; cases f20)]; exact f20
  have f37 : M31 b0 = some (.inl (cJ, 16, .inr (.inl bal))) := by rw [eM32, hb_up_ne (hap.ne 0 4 (by decide) rfl rfl)]; exact f21
  have f38 : M31 b1 = some (.inl (cJ, 16, .inr (.inl mi))) := by rw [eM32, hb_up_ne (hap.ne 1 4 (by decide) rfl rfl)]; exact f22
  have f39 : M31 b5 = some (.inl (cJ, 60, .inr (.inl he))) := by rw [eM32, hb_up_ne (hap.ne 5 4 (by decide) rfl rfl)]; exact f24
  have f40 : M31 b6 = some (.inl (cJ, 60, .inr (.inl cl))) := by rw [eM32, hb_up_ne (hap.ne 6 4 (by decide) rfl rfl)]; exact f25
  have f41 : M31 b7 = some (.inl (cI, 60, .inl un)) := by rw [eM32, hb_up_ne (hap.ne 7 4 (by decide) rfl rfl)]; exact f26
  have f42 : M31 b8 = some (.inl (cI, 60, .inl dn)) := by rw [eM32, hb_up_ne (hap.ne 8 4 (by decide) rfl rfl)]; exact f27
  have f43 : M31 b9 = some (.inl (cI, 60, .inl ds)) := by rw [eM32, hb_up_ne (hap.ne 9 4 (by decide) rfl rfl)]; exact f28
  have f44 : M31 b10 = some (.inl (cJ, 60, .inr (.inl dd))) := by rw [eM32, hb_up_ne (hap.ne 10 4 (by decide) rfl rfl)]; exact f29
  have f45 : M31 b11 = some (.inl (cI, 60, .inl dl)) := by rw [eM32, hb_up_ne (hap.ne 11 4 (by decide) rfl rfl)]; exact f30
  refine lv_aload_n hx hb d_Md_come_26 rfl (lv_at hl 1 rfl) ?_
  refine hb_get hx hb hts hown hC_Md hK hP f36 11 (by decide) rfl fl_Md_26 rfl d_Md_come_27 ?_
  refine lv_iload_n hx hb d_Md_come_30 rfl (lv_at hl 0 rfl) ?_
  refine lv_lconst (v := 0) hx hb d_Md_come_31 (by decide) ?_
  refine hb_last hx hb hK hP hD hS f39 (vp_in_nI (by omega) (by omega)) d_Md_come_32 (fun M46 H locs eM47 hP hD hS => ?_)
  rw [nI_clamp (show np < 2 ^ 31 by omega)] at eM47
  have f48 : M46 b5 = some (.inl (cJ, 60, .inr (.inl (vp_updL he np 0)))) := by rw [eM47]; exact hb_up_self
  have f49 : M46 b4 = some (.inl (cI, 60, .inl (upd st np 2))) := by rw [eM47, hb_up_ne (hap.ne 4 5 (by decide) rfl rfl)]; exact f33
  have f50 : M46 b3 = some (.inl (cI, 60, .inl (upd ac np a))) := by rw [eM47, hb_up_ne (hap.ne 3 5 (by decide) rfl rfl)]; exact f34
  have f51 : M46 b2 = some (.inl (cI, 60, .inl (upd ky np k))) := by rw [eM47, hb_up_ne (hap.ne 2 5 (by decide) rfl rfl)]; exact f35
  have f52 : M46 y = some (.inr (4, [.int cd, .int ho, .int pa, .int tm, .int (nI na), .ref b0, .ref b1, .int (nI np), .ref b2, .ref b3, .ref b4, .ref b5, .ref b6, .ref b7, .ref b8, .ref b9, .ref b10, .ref b11])) := by rw [eM47, hb_up_ne (fun q9 => by rw [q9, f39] at f36; cases f36)]; exact f36
  have f53 : M46 b0 = some (.inl (cJ, 16, .inr (.inl bal))) := by rw [eM47, hb_up_ne (hap.ne 0 5 (by decide) rfl rfl)]; exact f37
  have f54 : M46 b1 = some (.inl (cJ, 16, .inr (.inl mi))) := by rw [eM47, hb_up_ne (hap.ne 1 5 (by decide) rfl rfl)]; exact f38
  have f55 : M46 b6 = some (.inl (cJ, 60, .inr (.inl cl))) := by rw [eM47, hb_up_ne (hap.ne 6 5 (by decide) rfl rfl)]; exact f40
  have f56 : M46 b7 = some (.inl (cI, 60, .inl un)) := by rw [eM47, hb_up_ne (hap.ne 7 5 (by decide) rfl rfl)]; exact f41
  have f57 : M46 b8 = some (.inl (cI, 60, .inl dn)) := by rw [eM47, hb_up_ne (hap.ne 8 5 (by decide) rfl rfl)]; exact f42
  have f58 : M46 b9 = some (.inl (cI, 60, .inl ds)) := by rw [eM47, hb_up_ne (hap.ne 9 5 (by decide) rfl rfl)]; exact f43
  have f59 : M46 b10 = some (.inl (cJ, 60, .inr (.inl dd))) := by rw [eM47, hb_up_ne (hap.ne 10 5 (by decide) rfl rfl)]; exact f44
  have f60 : M46 b11 = some (.inl (cI, 60, .inl dl)) := by rw [eM47, hb_up_ne (hap.ne 11 5 (by decide) rfl rfl)]; exact f45
  refine lv_aload_n hx hb d_Md_come_33 rfl (lv_at hl 1 rfl) ?_
  refine hb_get hx hb hts hown hC_Md hK hP f52 12 (by decide) rfl fl_Md_29 rfl d_Md_come_34 ?_
  refine lv_iload_n hx hb d_Md_come_37 rfl (lv_at hl 0 rfl) ?_
  refine lv_lconst (v := 0) hx hb d_Md_come_38 (by decide) ?_
  refine hb_last hx hb hK hP hD hS f55 (vp_in_nI (by omega) (by omega)) d_Md_come_39 (fun M61 H locs eM62 hP hD hS => ?_)
  rw [nI_clamp (show np < 2 ^ 31 by omega)] at eM62
  have f63 : M61 b6 = some (.inl (cJ, 60, .inr (.inl (vp_updL cl np 0)))) := by rw [eM62]; exact hb_up_self
  have f64 : M61 b5 = some (.inl (cJ, 60, .inr (.inl (vp_updL he np 0)))) := by rw [eM62, hb_up_ne (hap.ne 5 6 (by decide) rfl rfl)]; exact f48
  have f65 : M61 b4 = some (.inl (cI, 60, .inl (upd st np 2))) := by rw [eM62, hb_up_ne (hap.ne 4 6 (by decide) rfl rfl)]; exact f49
  have f66 : M61 b3 = some (.inl (cI, 60, .inl (upd ac np a))) := by rw [eM62, hb_up_ne (hap.ne 3 6 (by decide) rfl rfl)]; exact f50
  have f67 : M61 b2 = some (.inl (cI, 60, .inl (upd ky np k))) := by rw [eM62, hb_up_ne (hap.ne 2 6 (by decide) rfl rfl)]; exact f51
  have f68 : M61 y = some (.inr (4, [.int cd, .int ho, .int pa, .int tm, .int (nI na), .ref b0, .ref b1, .int (nI np), .ref b2, .ref b3, .ref b4, .ref b5, .ref b6, .ref b7, .ref b8, .ref b9, .ref b10, .ref b11])) := by rw [eM62, hb_up_ne (fun q9 => by rw [q9, f55] at f52; cases f52)]; exact f52
  have f69 : M61 b0 = some (.inl (cJ, 16, .inr (.inl bal))) := by rw [eM62, hb_up_ne (hap.ne 0 6 (by decide) rfl rfl)]; exact f53
  have f70 : M61 b1 = some (.inl (cJ, 16, .inr (.inl mi))) := by rw [eM62, hb_up_ne (hap.ne 1 6 (by decide) rfl rfl)]; exact f54
  have f71 : M61 b7 = some (.inl (cI, 60, .inl un)) := by rw [eM62, hb_up_ne (hap.ne 7 6 (by decide) rfl rfl)]; exact f56
  have f72 : M61 b8 = some (.inl (cI, 60, .inl dn)) := by rw [eM62, hb_up_ne (hap.ne 8 6 (by decide) rfl rfl)]; exact f57
  have f73 : M61 b9 = some (.inl (cI, 60, .inl ds)) := by rw [eM62, hb_up_ne (hap.ne 9 6 (by decide) rfl rfl)]; exact f58
  have f74 : M61 b10 = some (.inl (cJ, 60, .inr (.inl dd))) := by rw [eM62, hb_up_ne (hap.ne 10 6 (by decide) rfl rfl)]; exact f59
  have f75 : M61 b11 = some (.inl (cI, 60, .inl dl)) := by rw [eM62, hb_up_ne (hap.ne 11 6 (by decide) rfl rfl)]; exact f60
  refine lv_aload_n hx hb d_Md_come_40 rfl (lv_at hl 1 rfl) ?_
  refine hb_get hx hb hts hown hC_Md hK hP f68 13 (by decide) rfl fl_Md_32 rfl d_Md_come_41 ?_
  refine lv_iload_n hx hb d_Md_come_44 rfl (lv_at hl 0 rfl) ?_
  refine lv_iconst (v := 0) hx hb d_Md_come_45 (by decide) ?_
  refine hb_iast hx hb hK hP hD hS f71 (vp_in_nI (by omega) (by omega)) d_Md_come_46 (fun M76 H locs eM77 hP hD hS => ?_)
  rw [nI_clamp (show np < 2 ^ 31 by omega)] at eM77
  have f78 : M76 b7 = some (.inl (cI, 60, .inl (upd un np 0))) := by rw [eM77]; exact hb_up_self
  have f79 : M76 b6 = some (.inl (cJ, 60, .inr (.inl (vp_updL cl np 0)))) := by rw [eM77, hb_up_ne (hap.ne 6 7 (by decide) rfl rfl)]; exact f63
  have f80 : M76 b5 = some (.inl (cJ, 60, .inr (.inl (vp_updL he np 0)))) := by rw [eM77, hb_up_ne (hap.ne 5 7 (by decide) rfl rfl)]; exact f64
  have f81 : M76 b4 = some (.inl (cI, 60, .inl (upd st np 2))) := by rw [eM77, hb_up_ne (hap.ne 4 7 (by decide) rfl rfl)]; exact f65
  have f82 : M76 b3 = some (.inl (cI, 60, .inl (upd ac np a))) := by rw [eM77, hb_up_ne (hap.ne 3 7 (by decide) rfl rfl)]; exact f66
  have f83 : M76 b2 = some (.inl (cI, 60, .inl (upd ky np k))) := by rw [eM77, hb_up_ne (hap.ne 2 7 (by decide) rfl rfl)]; exact f67
  have f84 : M76 y = some (.inr (4, [.int cd, .int ho, .int pa, .int tm, .int (nI na), .ref b0, .ref b1, .int (nI np), .ref b2, .ref b3, .ref b4, .ref b5, .ref b6, .ref b7, .ref b8, .ref b9, .ref b10, .ref b11])) := by rw [eM77, hb_up_ne (fun q9 => by rw [q9, f71] at f68; cases f68)]; exact f68
  have f85 : M76 b0 = some (.inl (cJ, 16, .inr (.inl bal))) := by rw [eM77, hb_up_ne (hap.ne 0 7 (by decide) rfl rfl)]; exact f69
  have f86 : M76 b1 = some (.inl (cJ, 16, .inr (.inl mi))) := by rw [eM77, hb_up_ne (hap.ne 1 7 (by decide) rfl rfl)]; exact f70
  have f87 : M76 b8 = some (.inl (cI, 60, .inl dn)) := by rw [eM77, hb_up_ne (hap.ne 8 7 (by decide) rfl rfl)]; exact f72
  have f88 : M76 b9 = some (.inl (cI, 60, .inl ds)) := by rw [eM77, hb_up_ne (hap.ne 9 7 (by decide) rfl rfl)]; exact f73
  have f89 : M76 b10 = some (.inl (cJ, 60, .inr (.inl dd))) := by rw [eM77, hb_up_ne (hap.ne 10 7 (by decide) rfl rfl)]; exact f74
  have f90 : M76 b11 = some (.inl (cI, 60, .inl dl)) := by rw [eM77, hb_up_ne (hap.ne 11 7 (by decide) rfl rfl)]; exact f75
  refine lv_aload_n hx hb d_Md_come_47 rfl (lv_at hl 1 rfl) ?_
  refine hb_get hx hb hts hown hC_Md hK hP f84 14 (by decide) rfl fl_Md_35 rfl d_Md_come_48 ?_
  refine lv_iload_n hx hb d_Md_come_51 rfl (lv_at hl 0 rfl) ?_
  refine lv_iconst (v := (-1)) hx hb d_Md_come_52 (by decide) ?_
  refine hb_iast hx hb hK hP hD hS f87 (vp_in_nI (by omega) (by omega)) d_Md_come_53 (fun M91 H locs eM92 hP hD hS => ?_)
  rw [nI_clamp (show np < 2 ^ 31 by omega)] at eM92
  have f93 : M91 b8 = some (.inl (cI, 60, .inl (upd dn np (-1)))) := by rw [eM92]; exact hb_up_self
  have f94 : M91 b7 = some (.inl (cI, 60, .inl (upd un np 0))) := by rw [eM92, hb_up_ne (hap.ne 7 8 (by decide) rfl rfl)]; exact f78
  have f95 : M91 b6 = some (.inl (cJ, 60, .inr (.inl (vp_updL cl np 0)))) := by rw [eM92, hb_up_ne (hap.ne 6 8 (by decide) rfl rfl)]; exact f79
  have f96 : M91 b5 = some (.inl (cJ, 60, .inr (.inl (vp_updL he np 0)))) := by rw [eM92, hb_up_ne (hap.ne 5 8 (by decide) rfl rfl)]; exact f80
  have f97 : M91 b4 = some (.inl (cI, 60, .inl (upd st np 2))) := by rw [eM92, hb_up_ne (hap.ne 4 8 (by decide) rfl rfl)]; exact f81
  have f98 : M91 b3 = some (.inl (cI, 60, .inl (upd ac np a))) := by rw [eM92, hb_up_ne (hap.ne 3 8 (by decide) rfl rfl)]; exact f82
  have f99 : M91 b2 = some (.inl (cI, 60, .inl (upd ky np k))) := by rw [eM92, hb_up_ne (hap.ne 2 8 (by decide) rfl rfl)]; exact f83
  have f100 : M91 y = some (.inr (4, [.int cd, .int ho, .int pa, .int tm, .int (nI na), .ref b0, .ref b1, .int (nI np), .ref b2, .ref b3, .ref b4, .ref b5, .ref b6, .ref b7, .ref b8, .ref b9, .ref b10, .ref b11])) := by rw [eM92, hb_up_ne (fun q9 => by rw [q9, f87] at f84; cases f84)]; exact f84
  have f101 : M91 b0 = some (.inl (cJ, 16, .inr (.inl bal))) := by rw [eM92, hb_up_ne (hap.ne 0 8 (by decide) rfl rfl)]; exact f85
  have f102 : M91 b1 = some (.inl (cJ, 16, .inr (.inl mi))) := by rw [eM92, hb_up_ne (hap.ne 1 8 (by decide) rfl rfl)]; exact f86
  have f103 : M91 b9 = some (.inl (cI, 60, .inl ds)) := by rw [eM92, hb_up_ne (hap.ne 9 8 (by decide) rfl rfl)]; exact f88
  have f104 : M91 b10 = some (.inl (cJ, 60, .inr (.inl dd))) := by rw [eM92, hb_up_ne (hap.ne 10 8 (by decide) rfl rfl)]; exact f89
  have f105 : M91 b11 = some (.inl (cI, 60, .inl dl)) := by rw [eM92, hb_up_ne (hap.ne 11 8 (by decide) rfl rfl)]; exact f90
  refine lv_aload_n hx hb d_Md_come_54 rfl (lv_at hl 1 rfl) ?_
  refine hb_get hx hb hts hown hC_Md hK hP f100 15 (by decide) rfl fl_Md_38 rfl d_Md_come_55 ?_
  refine lv_iload_n hx hb d_Md_come_58 rfl (lv_at hl 0 rfl) ?_
  refine lv_iconst (v := 0) hx hb d_Md_come_59 (by decide) ?_
  refine hb_iast hx hb hK hP hD hS f103 (vp_in_nI (by omega) (by omega)) d_Md_come_60 (fun M106 H locs eM107 hP hD hS => ?_)
  rw [nI_clamp (show np < 2 ^ 31 by omega)] at eM107
  have f108 : M106 b9 = some (.inl (cI, 60, .inl (upd ds np 0))) := by rw [eM107]; exact hb_up_self
  have f109 : M106 b8 = some (.inl (cI, 60, .inl (upd dn np (-1)))) := by rw [eM107, hb_up_ne (hap.ne 8 9 (by decide) rfl rfl)]; exact f93
  have f110 : M106 b7 = some (.inl (cI, 60, .inl (upd un np 0))) := by rw [eM107, hb_up_ne (hap.ne 7 9 (by decide) rfl rfl)]; exact f94
  have f111 : M106 b6 = some (.inl (cJ, 60, .inr (.inl (vp_updL cl np 0)))) := by rw [eM107, hb_up_ne (hap.ne 6 9 (by decide) rfl rfl)]; exact f95
  have f112 : M106 b5 = some (.inl (cJ, 60, .inr (.inl (vp_updL he np 0)))) := by rw [eM107, hb_up_ne (hap.ne 5 9 (by decide) rfl rfl)]; exact f96
  have f113 : M106 b4 = some (.inl (cI, 60, .inl (upd st np 2))) := by rw [eM107, hb_up_ne (hap.ne 4 9 (by decide) rfl rfl)]; exact f97
  have f114 : M106 b3 = some (.inl (cI, 60, .inl (upd ac np a))) := by rw [eM107, hb_up_ne (hap.ne 3 9 (by decide) rfl rfl)]; exact f98
  have f115 : M106 b2 = some (.inl (cI, 60, .inl (upd ky np k))) := by rw [eM107, hb_up_ne (hap.ne 2 9 (by decide) rfl rfl)]; exact f99
  have f116 : M106 y = some (.inr (4, [.int cd, .int ho, .int pa, .int tm, .int (nI na), .ref b0, .ref b1, .int (nI np), .ref b2, .ref b3, .ref b4, .ref b5, .ref b6, .ref b7, .ref b8, .ref b9, .ref b10, .ref b11])) := by rw [eM107, hb_up_ne (fun q9 => by rw [q9, f103] at f100; cases f100)]; exact f100
  have f117 : M106 b0 = some (.inl (cJ, 16, .inr (.inl bal))) := by rw [eM107, hb_up_ne (hap.ne 0 9 (by decide) rfl rfl)]; exact f101
  have f118 : M106 b1 = some (.inl (cJ, 16, .inr (.inl mi))) := by rw [eM107, hb_up_ne (hap.ne 1 9 (by decide) rfl rfl)]; exact f102
  have f119 : M106 b10 = some (.inl (cJ, 60, .inr (.inl dd))) := by rw [eM107, hb_up_ne (hap.ne 10 9 (by decide) rfl rfl)]; exact f104
  have f120 : M106 b11 = some (.inl (cI, 60, .inl dl)) := by rw [eM107, hb_up_ne (hap.ne 11 9 (by decide) rfl rfl)]; exact f105
  refine lv_aload_n hx hb d_Md_come_61 rfl (lv_at hl 1 rfl) ?_
  refine hb_get hx hb hts hown hC_Md hK hP f116 16 (by decide) rfl fl_Md_41 rfl d_Md_come_62 ?_
  refine lv_iload_n hx hb d_Md_come_65 rfl (lv_at hl 0 rfl) ?_
  refine lv_lconst (v := 0) hx hb d_Md_come_66 (by decide) ?_
  refine hb_last hx hb hK hP hD hS f119 (vp_in_nI (by omega) (by omega)) d_Md_come_67 (fun M121 H locs eM122 hP hD hS => ?_)
  rw [nI_clamp (show np < 2 ^ 31 by omega)] at eM122
  have f123 : M121 b10 = some (.inl (cJ, 60, .inr (.inl (vp_updL dd np 0)))) := by rw [eM122]; exact hb_up_self
  have f124 : M121 b9 = some (.inl (cI, 60, .inl (upd ds np 0))) := by rw [eM122, hb_up_ne (hap.ne 9 10 (by decide) rfl rfl)]; exact f108
  have f125 : M121 b8 = some (.inl (cI, 60, .inl (upd dn np (-1)))) := by rw [eM122, hb_up_ne (hap.ne 8 10 (by decide) rfl rfl)]; exact f109
  have f126 : M121 b7 = some (.inl (cI, 60, .inl (upd un np 0))) := by rw [eM122, hb_up_ne (hap.ne 7 10 (by decide) rfl rfl)]; exact f110
  have f127 : M121 b6 = some (.inl (cJ, 60, .inr (.inl (vp_updL cl np 0)))) := by rw [eM122, hb_up_ne (hap.ne 6 10 (by decide) rfl rfl)]; exact f111
  have f128 : M121 b5 = some (.inl (cJ, 60, .inr (.inl (vp_updL he np 0)))) := by rw [eM122, hb_up_ne (hap.ne 5 10 (by decide) rfl rfl)]; exact f112
  have f129 : M121 b4 = some (.inl (cI, 60, .inl (upd st np 2))) := by rw [eM122, hb_up_ne (hap.ne 4 10 (by decide) rfl rfl)]; exact f113
  have f130 : M121 b3 = some (.inl (cI, 60, .inl (upd ac np a))) := by rw [eM122, hb_up_ne (hap.ne 3 10 (by decide) rfl rfl)]; exact f114
  have f131 : M121 b2 = some (.inl (cI, 60, .inl (upd ky np k))) := by rw [eM122, hb_up_ne (hap.ne 2 10 (by decide) rfl rfl)]; exact f115
  have f132 : M121 y = some (.inr (4, [.int cd, .int ho, .int pa, .int tm, .int (nI na), .ref b0, .ref b1, .int (nI np), .ref b2, .ref b3, .ref b4, .ref b5, .ref b6, .ref b7, .ref b8, .ref b9, .ref b10, .ref b11])) := by rw [eM122, hb_up_ne (fun q9 => by rw [q9, f119] at f116; cases f116)]; exact f116
  have f133 : M121 b0 = some (.inl (cJ, 16, .inr (.inl bal))) := by rw [eM122, hb_up_ne (hap.ne 0 10 (by decide) rfl rfl)]; exact f117
  have f134 : M121 b1 = some (.inl (cJ, 16, .inr (.inl mi))) := by rw [eM122, hb_up_ne (hap.ne 1 10 (by decide) rfl rfl)]; exact f118
  have f135 : M121 b11 = some (.inl (cI, 60, .inl dl)) := by rw [eM122, hb_up_ne (hap.ne 11 10 (by decide) rfl rfl)]; exact f120
  refine lv_aload_n hx hb d_Md_come_68 rfl (lv_at hl 1 rfl) ?_
  refine hb_get hx hb hts hown hC_Md hK hP f132 17 (by decide) rfl fl_Md_44 rfl d_Md_come_69 ?_
  refine lv_iload_n hx hb d_Md_come_72 rfl (lv_at hl 0 rfl) ?_
  refine lv_iconst (v := (-1)) hx hb d_Md_come_73 (by decide) ?_
  refine hb_iast hx hb hK hP hD hS f135 (vp_in_nI (by omega) (by omega)) d_Md_come_74 (fun M136 H locs eM137 hP hD hS => ?_)
  rw [nI_clamp (show np < 2 ^ 31 by omega)] at eM137
  have f138 : M136 b11 = some (.inl (cI, 60, .inl (upd dl np (-1)))) := by rw [eM137]; exact hb_up_self
  have f139 : M136 b10 = some (.inl (cJ, 60, .inr (.inl (vp_updL dd np 0)))) := by rw [eM137, hb_up_ne (hap.ne 10 11 (by decide) rfl rfl)]; exact f123
  have f140 : M136 b9 = some (.inl (cI, 60, .inl (upd ds np 0))) := by rw [eM137, hb_up_ne (hap.ne 9 11 (by decide) rfl rfl)]; exact f124
  have f141 : M136 b8 = some (.inl (cI, 60, .inl (upd dn np (-1)))) := by rw [eM137, hb_up_ne (hap.ne 8 11 (by decide) rfl rfl)]; exact f125
  have f142 : M136 b7 = some (.inl (cI, 60, .inl (upd un np 0))) := by rw [eM137, hb_up_ne (hap.ne 7 11 (by decide) rfl rfl)]; exact f126
  have f143 : M136 b6 = some (.inl (cJ, 60, .inr (.inl (vp_updL cl np 0)))) := by rw [eM137, hb_up_ne (hap.ne 6 11 (by decide) rfl rfl)]; exact f127
  have f144 : M136 b5 = some (.inl (cJ, 60, .inr (.inl (vp_updL he np 0)))) := by rw [eM137, hb_up_ne (hap.ne 5 11 (by decide) rfl rfl)]; exact f128
  have f145 : M136 b4 = some (.inl (cI, 60, .inl (upd st np 2))) := by rw [eM137, hb_up_ne (hap.ne 4 11 (by decide) rfl rfl)]; exact f129
  have f146 : M136 b3 = some (.inl (cI, 60, .inl (upd ac np a))) := by rw [eM137, hb_up_ne (hap.ne 3 11 (by decide) rfl rfl)]; exact f130
  have f147 : M136 b2 = some (.inl (cI, 60, .inl (upd ky np k))) := by rw [eM137, hb_up_ne (hap.ne 2 11 (by decide) rfl rfl)]; exact f131
  have f148 : M136 y = some (.inr (4, [.int cd, .int ho, .int pa, .int tm, .int (nI na), .ref b0, .ref b1, .int (nI np), .ref b2, .ref b3, .ref b4, .ref b5, .ref b6, .ref b7, .ref b8, .ref b9, .ref b10, .ref b11])) := by rw [eM137, hb_up_ne (fun q9 => by rw [q9, f135] at f132; cases f132)]; exact f132
  have f149 : M136 b0 = some (.inl (cJ, 16, .inr (.inl bal))) := by rw [eM137, hb_up_ne (hap.ne 0 11 (by decide) rfl rfl)]; exact f133
  have f150 : M136 b1 = some (.inl (cJ, 16, .inr (.inl mi))) := by rw [eM137, hb_up_ne (hap.ne 1 11 (by decide) rfl rfl)]; exact f134
  refine lv_aload_n hx hb d_Md_come_75 rfl (lv_at hl 1 rfl) ?_
  refine lv_dup hx hb d_Md_come_76 rfl ?_
  refine hb_get hx hb hts hown hC_Md hK hP f148 7 (by decide) rfl fl_Md_60 rfl d_Md_come_77 ?_
  refine lv_iconst (v := 1) hx hb d_Md_come_80 (by decide) ?_
  refine lv_iadd hx hb d_Md_come_81 ?_
  refine W.eq (g2 := F0 m 82 ls [.int (nI (np + 1)), .ref y]) (by rw [nI_1]) ?_
  refine hb_put (ty := .int) hx hb hts hown hC_Md hK hP hD hS f148 7 (by decide) rfl fl_Md_60 rfl rfl rfl rfl (Nat.le_of_ble_eq_true rfl) d_Md_come_82 (fun M151 H locs eM152 hP hD hS => ?_)
  have f153 : M151 y = some (.inr (4, [.int cd, .int ho, .int pa, .int tm, .int (nI na), .ref b0, .ref b1, .int (nI (np + 1)), .ref b2, .ref b3, .ref b4, .ref b5, .ref b6, .ref b7, .ref b8, .ref b9, .ref b10, .ref b11])) := by rw [eM152]; exact hb_up_self
  have f154 : M151 b11 = some (.inl (cI, 60, .inl (upd dl np (-1)))) := by rw [eM152, hb_up_ne (fun q9 => by rw [q9, f148] at f138; cases f138)]; exact f138
  have f155 : M151 b10 = some (.inl (cJ, 60, .inr (.inl (vp_updL dd np 0)))) := by rw [eM152, hb_up_ne (fun q9 => by rw [q9, f148] at f139; cases f139)]; exact f139
  have f156 : M151 b9 = some (.inl (cI, 60, .inl (upd ds np 0))) := by rw [eM152, hb_up_ne (fun q9 => by rw [q9, f148] at f140; cases f140)]; exact f140
  have f157 : M151 b8 = some (.inl (cI, 60, .inl (upd dn np (-1)))) := by rw [eM152, hb_up_ne (fun q9 => by rw [q9, f148] at f141; cases f141)]; exact f141
  have f158 : M151 b7 = some (.inl (cI, 60, .inl (upd un np 0))) := by rw [eM152, hb_up_ne (fun q9 => by rw [q9, f148] at f142; cases f142)]; exact f142
  have f159 : M151 b6 = some (.inl (cJ, 60, .inr (.inl (vp_updL cl np 0)))) := by rw [eM152, hb_up_ne (fun q9 => by rw [q9, f148] at f143; cases f143)]; exact f143
  have f160 : M151 b5 = some (.inl (cJ, 60, .inr (.inl (vp_updL he np 0)))) := by rw [eM152, hb_up_ne (fun q9 => by rw [q9, f148] at f144; cases f144)]; exact f144
  have f161 : M151 b4 = some (.inl (cI, 60, .inl (upd st np 2))) := by rw [eM152, hb_up_ne (fun q9 => by rw [q9, f148] at f145; cases f145)]; exact f145
  have f162 : M151 b3 = some (.inl (cI, 60, .inl (upd ac np a))) := by rw [eM152, hb_up_ne (fun q9 => by rw [q9, f148] at f146; cases f146)]; exact f146
  have f163 : M151 b2 = some (.inl (cI, 60, .inl (upd ky np k))) := by rw [eM152, hb_up_ne (fun q9 => by rw [q9, f148] at f147; cases f147)]; exact f147
  have f164 : M151 b0 = some (.inl (cJ, 16, .inr (.inl bal))) := by rw [eM152, hb_up_ne (fun q9 => by rw [q9, f148] at f149; cases f149)]; exact f149
  have f165 : M151 b1 = some (.inl (cJ, 16, .inr (.inl mi))) := by rw [eM152, hb_up_ne (fun q9 => by rw [q9, f148] at f150; cases f150)]; exact f150
  refine lv_iload_n hx hb d_Md_come_85 rfl (lv_at hl 0 rfl) ?_
  exact hb_iret hAe hx hb hr hlocks hP hD hS (Nat.le_of_ble_eq_true rfl) (Nat.le_of_ble_eq_true rfl) (⟨rfl, ⟨f153, f164, f165, f163, f162, f161, f160, f159, f158, f157, f156, f155, f154, hap⟩⟩) d_Md_come_86
set_option maxHeartbeats 4000000 in
set_option maxRecDepth 100000 in
/-- ends(j) -/
theorem c_Md_ends {l : Launch} {s0 : State} {D : va_G} {cI cJ cO : ClassId} {e0 mi : Nat} (hE : hb_E l s0 D cI cJ cO e0 mi) (M : hb_M) (y b0 b1 b2 b3 b4 b5 b6 b7 b8 b9 b10 b11 : Nat) (cd ho pa tm : Int32) (na np : Nat) (bal mi : Nat → Int64) (ky ac st : Nat → Int32) (he cl : Nat → Int64) (un dn ds : Nat → Int32) (dd : Nat → Int64) (dl : Nat → Int32) (h : mR cI cJ M y b0 b1 b2 b3 b4 b5 b6 b7 b8 b9 b10 b11 cd ho pa tm na np bal mi ky ac st he cl un dn ds dd dl) (hna : na ≤ 16) (hnp : np ≤ 60) (j : Nat) (hj : j < 60) : hb_Met l D hb_cl s0 y_Md_ends b_Md_ends 3 none { frames := 0, cells := 0, slots := 0, locals := 0 } [.ref y, .int (nI j)] M (fun v M1 => v = none ∧ mR cI cJ M1 y b0 b1 b2 b3 b4 b5 b6 b7 b8 b9 b10 b11 cd ho pa tm na np bal mi ky ac (upd st j (if 0 < cl j then 3 else 2)) (vp_updL he j 0) cl (upd un j 0) (upd dn j (if 0 < cl j then tm else -1)) ds dd dl) := by
  refine hb_Met.of (by decide) (Nat.le_of_ble_eq_true rfl) ?_
  intro p e s m below meth c A hAe hX hz hP hD hA hS ls hl
  obtain ⟨hx, hb, hr, hml, hown, hlocks, hnm, hG, hnh⟩ := id hX
  have hown : s.vm.findClass "HoldBookModel" = some m.cls := hown
  have hts := hE.ts hG ([.ref y, .int (nI j)] : List Value).toArray
  have hK := hE.kn hG
  have hl : lv_has ls 3 [(0, .ref y), (1, .int (nI j))] := hl
  obtain ⟨fy, g0, g1, g2, g3, g4, g5, g6, g7, g8, g9, g10, g11, hap⟩ := id h
  refine lv_aload_n hx hb d_Md_ends_0 rfl (lv_at hl 0 rfl) ?_
  refine hb_get hx hb hts hown hC_Md hK hP fy 12 (by decide) rfl fl_Md_29 rfl d_Md_ends_1 ?_
  refine lv_iload_n hx hb d_Md_ends_4 rfl (lv_at hl 1 rfl) ?_
  refine va_lald hx hb hK (hP.one g6) 0 1 rfl rfl (vp_in_nI (by omega) (by omega)) d_Md_ends_5 ?_
  refine W.eq (g2 := F0 m 6 ls [.long (cl j)]) (by rw [nI_clamp (show j < 2 ^ 31 by omega)]) ?_
  refine lv_lconst (v := 0) hx hb d_Md_ends_6 (by decide) ?_
  refine hb_lc_le (tgt := 15) hx hb d_Md_ends_7 d_Md_ends_8 (by decide) (fun c1 => ?_) (fun c1 => ?_)
  · skip
    have c1n := hb_ngt c1
    refine lv_iconst (v := 0) hx hb d_Md_ends_15 (by decide) ?_
    refine lv_istore_n (lv' := [(2, .int 0), (0, .ref y), (1, .int (nI j))]) hx hb d_Md_ends_16 rfl hl (by decide) rfl (fun ls hl => ?_)
    refine lv_aload_n hx hb d_Md_ends_17 rfl (lv_at hl 1 rfl) ?_
    refine hb_get hx hb hts hown hC_Md hK hP fy 11 (by decide) rfl fl_Md_26 rfl d_Md_ends_18 ?_
    refine lv_iload_n hx hb d_Md_ends_21 rfl (lv_at hl 2 rfl) ?_
    refine lv_lconst (v := 0) hx hb d_Md_ends_22 (by decide) ?_
    refine hb_last hx hb hK hP hD hS g5 (vp_in_nI (by omega) (by omega)) d_Md_ends_23 (fun M2 H locs eM3 hP hD hS => ?_)
    rw [nI_clamp (show j < 2 ^ 31 by omega)] at eM3
    have f4 : M2 b5 = some (.inl (cJ, 60, .inr (.inl (vp_updL he j 0)))) := by rw [eM3]; exact hb_up_self
    have f5 : M2 y = some (.inr (4, [.int cd, .int ho, .int pa, .int tm, .int (nI na), .ref b0, .ref b1, .int (nI np), .ref b2, .ref b3, .ref b4, .ref b5, .ref b6, .ref b7, .ref b8, .ref b9, .ref b10, .ref b11])) := by rw [eM3, hb_up_ne (fun q9 => by rw [q9, g5] at fy; cases fy)]; exact fy
    have f6 : M2 b0 = some (.inl (cJ, 16, .inr (.inl bal))) := by rw [eM3, hb_up_ne (hap.ne 0 5 (by decide) rfl rfl)]; exact g0
    have f7 : M2 b1 = some (.inl (cJ, 16, .inr (.inl mi))) := by rw [eM3, hb_up_ne (hap.ne 1 5 (by decide) rfl rfl)]; exact g1
    have f8 : M2 b2 = some (.inl (cI, 60, .inl ky)) := by rw [eM3, hb_up_ne (hap.ne 2 5 (by decide) rfl rfl)]; exact g2
    have f9 : M2 b3 = some (.inl (cI, 60, .inl ac)) := by rw [eM3, hb_up_ne (hap.ne 3 5 (by decide) rfl rfl)]; exact g3
    have f10 : M2 b4 = some (.inl (cI, 60, .inl st)) := by rw [eM3, hb_up_ne (hap.ne 4 5 (by decide) rfl rfl)]; exact g4
    have f11 : M2 b6 = some (.inl (cJ, 60, .inr (.inl cl))) := by rw [eM3, hb_up_ne (hap.ne 6 5 (by decide) rfl rfl)]; exact g6
    have f12 : M2 b7 = some (.inl (cI, 60, .inl un)) := by rw [eM3, hb_up_ne (hap.ne 7 5 (by decide) rfl rfl)]; exact g7
    have f13 : M2 b8 = some (.inl (cI, 60, .inl dn)) := by rw [eM3, hb_up_ne (hap.ne 8 5 (by decide) rfl rfl)]; exact g8
    have f14 : M2 b9 = some (.inl (cI, 60, .inl ds)) := by rw [eM3, hb_up_ne (hap.ne 9 5 (by decide) rfl rfl)]; exact g9
    have f15 : M2 b10 = some (.inl (cJ, 60, .inr (.inl dd))) := by rw [eM3, hb_up_ne (hap.ne 10 5 (by decide) rfl rfl)]; exact g10
    have f16 : M2 b11 = some (.inl (cI, 60, .inl dl)) := by rw [eM3, hb_up_ne (hap.ne 11 5 (by decide) rfl rfl)]; exact g11
    refine lv_aload_n hx hb d_Md_ends_24 rfl (lv_at hl 1 rfl) ?_
    refine hb_get hx hb hts hown hC_Md hK hP f5 13 (by decide) rfl fl_Md_32 rfl d_Md_ends_25 ?_
    refine lv_iload_n hx hb d_Md_ends_28 rfl (lv_at hl 2 rfl) ?_
    refine lv_iconst (v := 0) hx hb d_Md_ends_29 (by decide) ?_
    refine hb_iast hx hb hK hP hD hS f12 (vp_in_nI (by omega) (by omega)) d_Md_ends_30 (fun M17 H locs eM18 hP hD hS => ?_)
    rw [nI_clamp (show j < 2 ^ 31 by omega)] at eM18
    have f19 : M17 b7 = some (.inl (cI, 60, .inl (upd un j 0))) := by rw [eM18]; exact hb_up_self
    have f20 : M17 b5 = some (.inl (cJ, 60, .inr (.inl (vp_updL he j 0)))) := by rw [eM18, hb_up_ne (hap.ne 5 7 (by decide) rfl rfl)]; exact f4
    have f21 : M17 y = some (.inr (4, [.int cd, .int ho, .int pa, .int tm, .int (nI na), .ref b0, .ref b1, .int (nI np), .ref b2, .ref b3, .ref b4, .ref b5, .ref b6, .ref b7, .ref b8, .ref b9, .ref b10, .ref b11])) := by rw [eM18, hb_up_ne (fun q9 => by rw [q9, f12] at f5; cases f5)]; exact f5
    have f22 : M17 b0 = some (.inl (cJ, 16, .inr (.inl bal))) := by rw [eM18, hb_up_ne (hap.ne 0 7 (by decide) rfl rfl)]; exact f6
    have f23 : M17 b1 = some (.inl (cJ, 16, .inr (.inl mi))) := by rw [eM18, hb_up_ne (hap.ne 1 7 (by decide) rfl rfl)]; exact f7
    have f24 : M17 b2 = some (.inl (cI, 60, .inl ky)) := by rw [eM18, hb_up_ne (hap.ne 2 7 (by decide) rfl rfl)]; exact f8
    have f25 : M17 b3 = some (.inl (cI, 60, .inl ac)) := by rw [eM18, hb_up_ne (hap.ne 3 7 (by decide) rfl rfl)]; exact f9
    have f26 : M17 b4 = some (.inl (cI, 60, .inl st)) := by rw [eM18, hb_up_ne (hap.ne 4 7 (by decide) rfl rfl)]; exact f10
    have f27 : M17 b6 = some (.inl (cJ, 60, .inr (.inl cl))) := by rw [eM18, hb_up_ne (hap.ne 6 7 (by decide) rfl rfl)]; exact f11
    have f28 : M17 b8 = some (.inl (cI, 60, .inl dn)) := by rw [eM18, hb_up_ne (hap.ne 8 7 (by decide) rfl rfl)]; exact f13
    have f29 : M17 b9 = some (.inl (cI, 60, .inl ds)) := by rw [eM18, hb_up_ne (hap.ne 9 7 (by decide) rfl rfl)]; exact f14
    have f30 : M17 b10 = some (.inl (cJ, 60, .inr (.inl dd))) := by rw [eM18, hb_up_ne (hap.ne 10 7 (by decide) rfl rfl)]; exact f15
    have f31 : M17 b11 = some (.inl (cI, 60, .inl dl)) := by rw [eM18, hb_up_ne (hap.ne 11 7 (by decide) rfl rfl)]; exact f16
    refine lv_aload_n hx hb d_Md_ends_31 rfl (lv_at hl 1 rfl) ?_
    refine hb_get hx hb hts hown hC_Md hK hP f21 10 (by decide) rfl fl_Md_23 rfl d_Md_ends_32 ?_
    refine lv_iload_n hx hb d_Md_ends_35 rfl (lv_at hl 2 rfl) ?_
    refine lv_iload_n hx hb d_Md_ends_36 rfl (lv_at hl 0 rfl) ?_
    refine lv_if_eq (tgt := 44) hx hb d_Md_ends_37 (by decide) (fun c32 => ?_) (fun c32 => ?_)
    · skip
      refine lv_iconst (v := 2) hx hb d_Md_ends_44 (by decide) ?_
      refine hb_iast hx hb hK hP hD hS f26 (vp_in_nI (by omega) (by omega)) d_Md_ends_45 (fun M33 H locs eM34 hP hD hS => ?_)
      rw [nI_clamp (show j < 2 ^ 31 by omega)] at eM34
      have f35 : M33 b4 = some (.inl (cI, 60, .inl (upd st j 2))) := by rw [eM34]; exact hb_up_self
      have f36 : M33 b7 = some (.inl (cI, 60, .inl (upd un j 0))) := by rw [eM34, hb_up_ne (hap.ne 7 4 (by decide) rfl rfl)]; exact f19
      have f37 : M33 b5 = some (.inl (cJ, 60, .inr (.inl (vp_updL he j 0)))) := by rw [eM34, hb_up_ne (hap.ne 5 4 (by decide) rfl rfl)]; exact f20
      have f38 : M33 y = some (.inr (4, [.int cd, .int ho, .int pa, .int tm, .int (nI na), .ref b0, .ref b1, .int (nI np), .ref b2, .ref b3, .ref b4, .ref b5, .ref b6, .ref b7, .ref b8, .ref b9, .ref b10, .ref b11])) := by rw [eM34, hb_up_ne (fun q9 => by rw [q9, f26] at f21; cases f21)]; exact f21
      have f39 : M33 b0 = some (.inl (cJ, 16, .inr (.inl bal))) := by rw [eM34, hb_up_ne (hap.ne 0 4 (by decide) rfl rfl)]; exact f22
      have f40 : M33 b1 = some (.inl (cJ, 16, .inr (.inl mi))) := by rw [eM34, hb_up_ne (hap.ne 1 4 (by decide) rfl rfl)]; exact f23
      have f41 : M33 b2 = some (.inl (cI, 60, .inl ky)) := by rw [eM34, hb_up_ne (hap.ne 2 4 (by decide) rfl rfl)]; exact f24
      have f42 : M33 b3 = some (.inl (cI, 60, .inl ac)) := by rw [eM34, hb_up_ne (hap.ne 3 4 (by decide) rfl rfl)]; exact f25
      have f43 : M33 b6 = some (.inl (cJ, 60, .inr (.inl cl))) := by rw [eM34, hb_up_ne (hap.ne 6 4 (by decide) rfl rfl)]; exact f27
      have f44 : M33 b8 = some (.inl (cI, 60, .inl dn)) := by rw [eM34, hb_up_ne (hap.ne 8 4 (by decide) rfl rfl)]; exact f28
      have f45 : M33 b9 = some (.inl (cI, 60, .inl ds)) := by rw [eM34, hb_up_ne (hap.ne 9 4 (by decide) rfl rfl)]; exact f29
      have f46 : M33 b10 = some (.inl (cJ, 60, .inr (.inl dd))) := by rw [eM34, hb_up_ne (hap.ne 10 4 (by decide) rfl rfl)]; exact f30
      have f47 : M33 b11 = some (.inl (cI, 60, .inl dl)) := by rw [eM34, hb_up_ne (hap.ne 11 4 (by decide) rfl rfl)]; exact f31
      refine lv_aload_n hx hb d_Md_ends_46 rfl (lv_at hl 1 rfl) ?_
      refine hb_get hx hb hts hown hC_Md hK hP f38 14 (by decide) rfl fl_Md_35 rfl d_Md_ends_47 ?_
      refine lv_iload_n hx hb d_Md_ends_50 rfl (lv_at hl 2 rfl) ?_
      refine lv_iload_n hx hb d_Md_ends_51 rfl (lv_at hl 0 rfl) ?_
      refine lv_if_eq (tgt := 62) hx hb d_Md_ends_52 (by decide) (fun c48 => ?_) (fun c48 => ?_)
      · skip
        refine lv_iconst (v := (-1)) hx hb d_Md_ends_62 (by decide) ?_
        refine hb_iast hx hb hK hP hD hS f44 (vp_in_nI (by omega) (by omega)) d_Md_ends_63 (fun M49 H locs eM50 hP hD hS => ?_)
        rw [nI_clamp (show j < 2 ^ 31 by omega)] at eM50
        have f51 : M49 b8 = some (.inl (cI, 60, .inl (upd dn j (-1)))) := by rw [eM50]; exact hb_up_self
        have f52 : M49 b4 = some (.inl (cI, 60, .inl (upd st j 2))) := by rw [eM50, hb_up_ne (hap.ne 4 8 (by decide) rfl rfl)]; exact f35
        have f53 : M49 b7 = some (.inl (cI, 60, .inl (upd un j 0))) := by rw [eM50, hb_up_ne (hap.ne 7 8 (by decide) rfl rfl)]; exact f36
        have f54 : M49 b5 = some (.inl (cJ, 60, .inr (.inl (vp_updL he j 0)))) := by rw [eM50, hb_up_ne (hap.ne 5 8 (by decide) rfl rfl)]; exact f37
        have f55 : M49 y = some (.inr (4, [.int cd, .int ho, .int pa, .int tm, .int (nI na), .ref b0, .ref b1, .int (nI np), .ref b2, .ref b3, .ref b4, .ref b5, .ref b6, .ref b7, .ref b8, .ref b9, .ref b10, .ref b11])) := by rw [eM50, hb_up_ne (fun q9 => by rw [q9, f44] at f38; cases f38)]; exact f38
        have f56 : M49 b0 = some (.inl (cJ, 16, .inr (.inl bal))) := by rw [eM50, hb_up_ne (hap.ne 0 8 (by decide) rfl rfl)]; exact f39
        have f57 : M49 b1 = some (.inl (cJ, 16, .inr (.inl mi))) := by rw [eM50, hb_up_ne (hap.ne 1 8 (by decide) rfl rfl)]; exact f40
        have f58 : M49 b2 = some (.inl (cI, 60, .inl ky)) := by rw [eM50, hb_up_ne (hap.ne 2 8 (by decide) rfl rfl)]; exact f41
        have f59 : M49 b3 = some (.inl (cI, 60, .inl ac)) := by rw [eM50, hb_up_ne (hap.ne 3 8 (by decide) rfl rfl)]; exact f42
        have f60 : M49 b6 = some (.inl (cJ, 60, .inr (.inl cl))) := by rw [eM50, hb_up_ne (hap.ne 6 8 (by decide) rfl rfl)]; exact f43
        have f61 : M49 b9 = some (.inl (cI, 60, .inl ds)) := by rw [eM50, hb_up_ne (hap.ne 9 8 (by decide) rfl rfl)]; exact f45
        have f62 : M49 b10 = some (.inl (cJ, 60, .inr (.inl dd))) := by rw [eM50, hb_up_ne (hap.ne 10 8 (by decide) rfl rfl)]; exact f46
        have f63 : M49 b11 = some (.inl (cI, 60, .inl dl)) := by rw [eM50, hb_up_ne (hap.ne 11 8 (by decide) rfl rfl)]; exact f47
        exact hb_vret hAe hx hb hr hlocks hP hD hS (Nat.le_of_ble_eq_true rfl) (Nat.le_of_ble_eq_true rfl) (⟨rfl, f55, f56, f57, f58, f59, by rw [if_neg c1n]; exact f52, f54, f60, f53, by rw [if_neg c1n]; exact f51, f61, f62, f63, hap⟩) d_Md_ends_64
      · skip
        exact absurd rfl c48
    · skip
      exact absurd rfl c32
  · skip
    have c1n := hb_gt c1
    refine lv_iconst (v := 1) hx hb d_Md_ends_11 (by decide) ?_
    refine lv_goto (tgt := 16) hx hb d_Md_ends_12 (by decide) ?_
    refine lv_istore_n (lv' := [(2, .int 1), (0, .ref y), (1, .int (nI j))]) hx hb d_Md_ends_16 rfl hl (by decide) rfl (fun ls hl => ?_)
    refine lv_aload_n hx hb d_Md_ends_17 rfl (lv_at hl 1 rfl) ?_
    refine hb_get hx hb hts hown hC_Md hK hP fy 11 (by decide) rfl fl_Md_26 rfl d_Md_ends_18 ?_
    refine lv_iload_n hx hb d_Md_ends_21 rfl (lv_at hl 2 rfl) ?_
    refine lv_lconst (v := 0) hx hb d_Md_ends_22 (by decide) ?_
    refine hb_last hx hb hK hP hD hS g5 (vp_in_nI (by omega) (by omega)) d_Md_ends_23 (fun M64 H locs eM65 hP hD hS => ?_)
    rw [nI_clamp (show j < 2 ^ 31 by omega)] at eM65
    have f66 : M64 b5 = some (.inl (cJ, 60, .inr (.inl (vp_updL he j 0)))) := by rw [eM65]; exact hb_up_self
    have f67 : M64 y = some (.inr (4, [.int cd, .int ho, .int pa, .int tm, .int (nI na), .ref b0, .ref b1, .int (nI np), .ref b2, .ref b3, .ref b4, .ref b5, .ref b6, .ref b7, .ref b8, .ref b9, .ref b10, .ref b11])) := by rw [eM65, hb_up_ne (fun q9 => by rw [q9, g5] at fy; cases fy)]; exact fy
    have f68 : M64 b0 = some (.inl (cJ, 16, .inr (.inl bal))) := by rw [eM65, hb_up_ne (hap.ne 0 5 (by decide) rfl rfl)]; exact g0
    have f69 : M64 b1 = some (.inl (cJ, 16, .inr (.inl mi))) := by rw [eM65, hb_up_ne (hap.ne 1 5 (by decide) rfl rfl)]; exact g1
    have f70 : M64 b2 = some (.inl (cI, 60, .inl ky)) := by rw [eM65, hb_up_ne (hap.ne 2 5 (by decide) rfl rfl)]; exact g2
    have f71 : M64 b3 = some (.inl (cI, 60, .inl ac)) := by rw [eM65, hb_up_ne (hap.ne 3 5 (by decide) rfl rfl)]; exact g3
    have f72 : M64 b4 = some (.inl (cI, 60, .inl st)) := by rw [eM65, hb_up_ne (hap.ne 4 5 (by decide) rfl rfl)]; exact g4
    have f73 : M64 b6 = some (.inl (cJ, 60, .inr (.inl cl))) := by rw [eM65, hb_up_ne (hap.ne 6 5 (by decide) rfl rfl)]; exact g6
    have f74 : M64 b7 = some (.inl (cI, 60, .inl un)) := by rw [eM65, hb_up_ne (hap.ne 7 5 (by decide) rfl rfl)]; exact g7
    have f75 : M64 b8 = some (.inl (cI, 60, .inl dn)) := by rw [eM65, hb_up_ne (hap.ne 8 5 (by decide) rfl rfl)]; exact g8
    have f76 : M64 b9 = some (.inl (cI, 60, .inl ds)) := by rw [eM65, hb_up_ne (hap.ne 9 5 (by decide) rfl rfl)]; exact g9
    have f77 : M64 b10 = some (.inl (cJ, 60, .inr (.inl dd))) := by rw [eM65, hb_up_ne (hap.ne 10 5 (by decide) rfl rfl)]; exact g10
    have f78 : M64 b11 = some (.inl (cI, 60, .inl dl)) := by rw [eM65, hb_up_ne (hap.ne 11 5 (by decide) rfl rfl)]; exact g11
    refine lv_aload_n hx hb d_Md_ends_24 rfl (lv_at hl 1 rfl) ?_
    refine hb_get hx hb hts hown hC_Md hK hP f67 13 (by decide) rfl fl_Md_32 rfl d_Md_ends_25 ?_
    refine lv_iload_n hx hb d_Md_ends_28 rfl (lv_at hl 2 rfl) ?_
    refine lv_iconst (v := 0) hx hb d_Md_ends_29 (by decide) ?_
    refine hb_iast hx hb hK hP hD hS f74 (vp_in_nI (by omega) (by omega)) d_Md_ends_30 (fun M79 H locs eM80 hP hD hS => ?_)
    rw [nI_clamp (show j < 2 ^ 31 by omega)] at eM80
    have f81 : M79 b7 = some (.inl (cI, 60, .inl (upd un j 0))) := by rw [eM80]; exact hb_up_self
    have f82 : M79 b5 = some (.inl (cJ, 60, .inr (.inl (vp_updL he j 0)))) := by rw [eM80, hb_up_ne (hap.ne 5 7 (by decide) rfl rfl)]; exact f66
    have f83 : M79 y = some (.inr (4, [.int cd, .int ho, .int pa, .int tm, .int (nI na), .ref b0, .ref b1, .int (nI np), .ref b2, .ref b3, .ref b4, .ref b5, .ref b6, .ref b7, .ref b8, .ref b9, .ref b10, .ref b11])) := by rw [eM80, hb_up_ne (fun q9 => by rw [q9, f74] at f67; cases f67)]; exact f67
    have f84 : M79 b0 = some (.inl (cJ, 16, .inr (.inl bal))) := by rw [eM80, hb_up_ne (hap.ne 0 7 (by decide) rfl rfl)]; exact f68
    have f85 : M79 b1 = some (.inl (cJ, 16, .inr (.inl mi))) := by rw [eM80, hb_up_ne (hap.ne 1 7 (by decide) rfl rfl)]; exact f69
    have f86 : M79 b2 = some (.inl (cI, 60, .inl ky)) := by rw [eM80, hb_up_ne (hap.ne 2 7 (by decide) rfl rfl)]; exact f70
    have f87 : M79 b3 = some (.inl (cI, 60, .inl ac)) := by rw [eM80, hb_up_ne (hap.ne 3 7 (by decide) rfl rfl)]; exact f71
    have f88 : M79 b4 = some (.inl (cI, 60, .inl st)) := by rw [eM80, hb_up_ne (hap.ne 4 7 (by decide) rfl rfl)]; exact f72
    have f89 : M79 b6 = some (.inl (cJ, 60, .inr (.inl cl))) := by rw [eM80, hb_up_ne (hap.ne 6 7 (by decide) rfl rfl)]; exact f73
    have f90 : M79 b8 = some (.inl (cI, 60, .inl dn)) := by rw [eM80, hb_up_ne (hap.ne 8 7 (by decide) rfl rfl)]; exact f75
    have f91 : M79 b9 = some (.inl (cI, 60, .inl ds)) := by rw [eM80, hb_up_ne (hap.ne 9 7 (by decide) rfl rfl)]; exact f76
    have f92 : M79 b10 = some (.inl (cJ, 60, .inr (.inl dd))) := by rw [eM80, hb_up_ne (hap.ne 10 7 (by decide) rfl rfl)]; exact f77
    have f93 : M79 b11 = some (.inl (cI, 60, .inl dl)) := by rw [eM80, hb_up_ne (hap.ne 11 7 (by decide) rfl rfl)]; exact f78
    refine lv_aload_n hx hb d_Md_ends_31 rfl (lv_at hl 1 rfl) ?_
    refine hb_get hx hb hts hown hC_Md hK hP f83 10 (by decide) rfl fl_Md_23 rfl d_Md_ends_32 ?_
    refine lv_iload_n hx hb d_Md_ends_35 rfl (lv_at hl 2 rfl) ?_
    refine lv_iload_n hx hb d_Md_ends_36 rfl (lv_at hl 0 rfl) ?_
    refine lv_if_eq (tgt := 44) hx hb d_Md_ends_37 (by decide) (fun c94 => ?_) (fun c94 => ?_)
    · skip
      exact absurd c94 (by decide)
    · skip
      refine lv_iconst (v := 3) hx hb d_Md_ends_40 (by decide) ?_
      refine lv_goto (tgt := 45) hx hb d_Md_ends_41 (by decide) ?_
      refine hb_iast hx hb hK hP hD hS f88 (vp_in_nI (by omega) (by omega)) d_Md_ends_45 (fun M95 H locs eM96 hP hD hS => ?_)
      rw [nI_clamp (show j < 2 ^ 31 by omega)] at eM96
      have f97 : M95 b4 = some (.inl (cI, 60, .inl (upd st j 3))) := by rw [eM96]; exact hb_up_self
      have f98 : M95 b7 = some (.inl (cI, 60, .inl (upd un j 0))) := by rw [eM96, hb_up_ne (hap.ne 7 4 (by decide) rfl rfl)]; exact f81
      have f99 : M95 b5 = some (.inl (cJ, 60, .inr (.inl (vp_updL he j 0)))) := by rw [eM96, hb_up_ne (hap.ne 5 4 (by decide) rfl rfl)]; exact f82
      have f100 : M95 y = some (.inr (4, [.int cd, .int ho, .int pa, .int tm, .int (nI na), .ref b0, .ref b1, .int (nI np), .ref b2, .ref b3, .ref b4, .ref b5, .ref b6, .ref b7, .ref b8, .ref b9, .ref b10, .ref b11])) := by rw [eM96, hb_up_ne (fun q9 => by rw [q9, f88] at f83; cases f83)]; exact f83
      have f101 : M95 b0 = some (.inl (cJ, 16, .inr (.inl bal))) := by rw [eM96, hb_up_ne (hap.ne 0 4 (by decide) rfl rfl)]; exact f84
      have f102 : M95 b1 = some (.inl (cJ, 16, .inr (.inl mi))) := by rw [eM96, hb_up_ne (hap.ne 1 4 (by decide) rfl rfl)]; exact f85
      have f103 : M95 b2 = some (.inl (cI, 60, .inl ky)) := by rw [eM96, hb_up_ne (hap.ne 2 4 (by decide) rfl rfl)]; exact f86
      have f104 : M95 b3 = some (.inl (cI, 60, .inl ac)) := by rw [eM96, hb_up_ne (hap.ne 3 4 (by decide) rfl rfl)]; exact f87
      have f105 : M95 b6 = some (.inl (cJ, 60, .inr (.inl cl))) := by rw [eM96, hb_up_ne (hap.ne 6 4 (by decide) rfl rfl)]; exact f89
      have f106 : M95 b8 = some (.inl (cI, 60, .inl dn)) := by rw [eM96, hb_up_ne (hap.ne 8 4 (by decide) rfl rfl)]; exact f90
      have f107 : M95 b9 = some (.inl (cI, 60, .inl ds)) := by rw [eM96, hb_up_ne (hap.ne 9 4 (by decide) rfl rfl)]; exact f91
      have f108 : M95 b10 = some (.inl (cJ, 60, .inr (.inl dd))) := by rw [eM96, hb_up_ne (hap.ne 10 4 (by decide) rfl rfl)]; exact f92
      have f109 : M95 b11 = some (.inl (cI, 60, .inl dl)) := by rw [eM96, hb_up_ne (hap.ne 11 4 (by decide) rfl rfl)]; exact f93
      refine lv_aload_n hx hb d_Md_ends_46 rfl (lv_at hl 1 rfl) ?_
      refine hb_get hx hb hts hown hC_Md hK hP f100 14 (by decide) rfl fl_Md_35 rfl d_Md_ends_47 ?_
      refine lv_iload_n hx hb d_Md_ends_50 rfl (lv_at hl 2 rfl) ?_
      refine lv_iload_n hx hb d_Md_ends_51 rfl (lv_at hl 0 rfl) ?_
      refine lv_if_eq (tgt := 62) hx hb d_Md_ends_52 (by decide) (fun c110 => ?_) (fun c110 => ?_)
      · skip
        exact absurd c110 (by decide)
      · skip
        refine lv_aload_n hx hb d_Md_ends_55 rfl (lv_at hl 1 rfl) ?_
        refine hb_get hx hb hts hown hC_Md hK hP f100 3 (by decide) rfl fl_Md_104 rfl d_Md_ends_56 ?_
        refine lv_goto (tgt := 63) hx hb d_Md_ends_59 (by decide) ?_
        refine hb_iast hx hb hK hP hD hS f106 (vp_in_nI (by omega) (by omega)) d_Md_ends_63 (fun M111 H locs eM112 hP hD hS => ?_)
        rw [nI_clamp (show j < 2 ^ 31 by omega)] at eM112
        have f113 : M111 b8 = some (.inl (cI, 60, .inl (upd dn j tm))) := by rw [eM112]; exact hb_up_self
        have f114 : M111 b4 = some (.inl (cI, 60, .inl (upd st j 3))) := by rw [eM112, hb_up_ne (hap.ne 4 8 (by decide) rfl rfl)]; exact f97
        have f115 : M111 b7 = some (.inl (cI, 60, .inl (upd un j 0))) := by rw [eM112, hb_up_ne (hap.ne 7 8 (by decide) rfl rfl)]; exact f98
        have f116 : M111 b5 = some (.inl (cJ, 60, .inr (.inl (vp_updL he j 0)))) := by rw [eM112, hb_up_ne (hap.ne 5 8 (by decide) rfl rfl)]; exact f99
        have f117 : M111 y = some (.inr (4, [.int cd, .int ho, .int pa, .int tm, .int (nI na), .ref b0, .ref b1, .int (nI np), .ref b2, .ref b3, .ref b4, .ref b5, .ref b6, .ref b7, .ref b8, .ref b9, .ref b10, .ref b11])) := by rw [eM112, hb_up_ne (fun q9 => by rw [q9, f106] at f100; cases f100)]; exact f100
        have f118 : M111 b0 = some (.inl (cJ, 16, .inr (.inl bal))) := by rw [eM112, hb_up_ne (hap.ne 0 8 (by decide) rfl rfl)]; exact f101
        have f119 : M111 b1 = some (.inl (cJ, 16, .inr (.inl mi))) := by rw [eM112, hb_up_ne (hap.ne 1 8 (by decide) rfl rfl)]; exact f102
        have f120 : M111 b2 = some (.inl (cI, 60, .inl ky)) := by rw [eM112, hb_up_ne (hap.ne 2 8 (by decide) rfl rfl)]; exact f103
        have f121 : M111 b3 = some (.inl (cI, 60, .inl ac)) := by rw [eM112, hb_up_ne (hap.ne 3 8 (by decide) rfl rfl)]; exact f104
        have f122 : M111 b6 = some (.inl (cJ, 60, .inr (.inl cl))) := by rw [eM112, hb_up_ne (hap.ne 6 8 (by decide) rfl rfl)]; exact f105
        have f123 : M111 b9 = some (.inl (cI, 60, .inl ds)) := by rw [eM112, hb_up_ne (hap.ne 9 8 (by decide) rfl rfl)]; exact f107
        have f124 : M111 b10 = some (.inl (cJ, 60, .inr (.inl dd))) := by rw [eM112, hb_up_ne (hap.ne 10 8 (by decide) rfl rfl)]; exact f108
        have f125 : M111 b11 = some (.inl (cI, 60, .inl dl)) := by rw [eM112, hb_up_ne (hap.ne 11 8 (by decide) rfl rfl)]; exact f109
        exact hb_vret hAe hx hb hr hlocks hP hD hS (Nat.le_of_ble_eq_true rfl) (Nat.le_of_ble_eq_true rfl) (⟨rfl, f117, f118, f119, f120, f121, by rw [if_pos c1n]; exact f114, f116, f122, f115, by rw [if_pos c1n]; exact f113, f123, f124, f125, hap⟩) d_Md_ends_64
set_option maxHeartbeats 4000000 in
set_option maxRecDepth 100000 in
/-- closes(j, w) -/
theorem c_Md_closes {l : Launch} {s0 : State} {D : va_G} {cI cJ cO : ClassId} {e0 mi : Nat} (hE : hb_E l s0 D cI cJ cO e0 mi) (M : hb_M) (y b0 b1 b2 b3 b4 b5 b6 b7 b8 b9 b10 b11 : Nat) (cd ho pa tm : Int32) (na np : Nat) (bal mi : Nat → Int64) (ky ac st : Nat → Int32) (he cl : Nat → Int64) (un dn ds : Nat → Int32) (dd : Nat → Int64) (dl : Nat → Int32) (h : mR cI cJ M y b0 b1 b2 b3 b4 b5 b6 b7 b8 b9 b10 b11 cd ho pa tm na np bal mi ky ac st he cl un dn ds dd dl) (hna : na ≤ 16) (hnp : np ≤ 60) (j : Nat) (hj : j < 60) (w : Int32) (ka : Nat) (hka : ka < 16) (hac : ac j = nI ka) : hb_Met l D hb_cl s0 y_Md_closes b_Md_closes 3 none { frames := 0, cells := 0, slots := 0, locals := 0 } [.ref y, .int (nI j), .int w] M (fun v M1 => v = none ∧ mR cI cJ M1 y b0 b1 b2 b3 b4 b5 b6 b7 b8 b9 b10 b11 cd ho pa tm na np (vp_updL bal ka (bal ka - (if w = 0 then dd j else 0))) mi ky ac st he cl un dn (upd ds j (if w = 0 then 4 else 3)) dd (upd dl j (-1))) := by
  refine hb_Met.of (by decide) (Nat.le_of_ble_eq_true rfl) ?_
  intro p e s m below meth c A hAe hX hz hP hD hA hS ls hl
  obtain ⟨hx, hb, hr, hml, hown, hlocks, hnm, hG, hnh⟩ := id hX
  have hown : s.vm.findClass "HoldBookModel" = some m.cls := hown
  have hts := hE.ts hG ([.ref y, .int (nI j), .int w] : List Value).toArray
  have hK := hE.kn hG
  have hl : lv_has ls 3 [(0, .ref y), (1, .int (nI j)), (2, .int w)] := hl
  obtain ⟨fy, g0, g1, g2, g3, g4, g5, g6, g7, g8, g9, g10, g11, hap⟩ := id h
  refine lv_aload_n hx hb d_Md_closes_0 rfl (lv_at hl 0 rfl) ?_
  refine hb_get hx hb hts hown hC_Md hK hP fy 5 (by decide) rfl fl_Md_7 rfl d_Md_closes_1 ?_
  refine lv_aload_n hx hb d_Md_closes_4 rfl (lv_at hl 0 rfl) ?_
  refine hb_get hx hb hts hown hC_Md hK hP fy 9 (by decide) rfl fl_Md_20 rfl d_Md_closes_5 ?_
  refine lv_iload_n hx hb d_Md_closes_8 rfl (lv_at hl 1 rfl) ?_
  refine va_iald hx hb hK (hP.one g3) 0 0 rfl rfl (vp_in_nI (by omega) (by omega)) d_Md_closes_9 ?_
  refine W.eq (g2 := F0 m 10 ls [.int (ac j), .ref b0]) (by rw [nI_clamp (show j < 2 ^ 31 by omega)]) ?_
  refine W.eq (g2 := F0 m 10 ls [.int (nI ka), .ref b0]) (by rw [hac]) ?_
  refine lv_dup2_11 hx hb d_Md_closes_10 rfl rfl ?_
  refine va_lald hx hb hK (hP.one g0) 0 1 rfl rfl (vp_in_nI (by omega) (by omega)) d_Md_closes_11 ?_
  refine W.eq (g2 := F0 m 12 ls [.long (bal ka), .int (nI ka), .ref b0]) (by rw [nI_clamp (show ka < 2 ^ 31 by omega)]) ?_
  refine lv_iload_n hx hb d_Md_closes_12 rfl (lv_at hl 2 rfl) ?_
  refine lv_if_eq (tgt := 20) hx hb d_Md_closes_13 (by decide) (fun c1 => ?_) (fun c1 => ?_)
  · skip
    refine lv_aload_n hx hb d_Md_closes_20 rfl (lv_at hl 0 rfl) ?_
    refine hb_get hx hb hts hown hC_Md hK hP fy 16 (by decide) rfl fl_Md_41 rfl d_Md_closes_21 ?_
    refine lv_iload_n hx hb d_Md_closes_24 rfl (lv_at hl 1 rfl) ?_
    refine va_lald hx hb hK (hP.one g10) 0 1 rfl rfl (vp_in_nI (by omega) (by omega)) d_Md_closes_25 ?_
    refine W.eq (g2 := F0 m 26 ls [.long (dd j), .long (bal ka), .int (nI ka), .ref b0]) (by rw [nI_clamp (show j < 2 ^ 31 by omega)]) ?_
    refine lv_lsub hx hb d_Md_closes_26 ?_
    refine hb_last hx hb hK hP hD hS g0 (vp_in_nI (by omega) (by omega)) d_Md_closes_27 (fun M2 H locs eM3 hP hD hS => ?_)
    rw [nI_clamp (show ka < 2 ^ 31 by omega)] at eM3
    have f4 : M2 b0 = some (.inl (cJ, 16, .inr (.inl (vp_updL bal ka ((bal ka) - (dd j)))))) := by rw [eM3]; exact hb_up_self
    have f5 : M2 y = some (.inr (4, [.int cd, .int ho, .int pa, .int tm, .int (nI na), .ref b0, .ref b1, .int (nI np), .ref b2, .ref b3, .ref b4, .ref b5, .ref b6, .ref b7, .ref b8, .ref b9, .ref b10, .ref b11])) := by rw [eM3, hb_up_ne (fun q9 => by rw [q9, g0] at fy; cases fy)]; exact fy
    have f6 : M2 b1 = some (.inl (cJ, 16, .inr (.inl mi))) := by rw [eM3, hb_up_ne (hap.ne 1 0 (by decide) rfl rfl)]; exact g1
    have f7 : M2 b2 = some (.inl (cI, 60, .inl ky)) := by rw [eM3, hb_up_ne (hap.ne 2 0 (by decide) rfl rfl)]; exact g2
    have f8 : M2 b3 = some (.inl (cI, 60, .inl ac)) := by rw [eM3, hb_up_ne (hap.ne 3 0 (by decide) rfl rfl)]; exact g3
    have f9 : M2 b4 = some (.inl (cI, 60, .inl st)) := by rw [eM3, hb_up_ne (hap.ne 4 0 (by decide) rfl rfl)]; exact g4
    have f10 : M2 b5 = some (.inl (cJ, 60, .inr (.inl he))) := by rw [eM3, hb_up_ne (hap.ne 5 0 (by decide) rfl rfl)]; exact g5
    have f11 : M2 b6 = some (.inl (cJ, 60, .inr (.inl cl))) := by rw [eM3, hb_up_ne (hap.ne 6 0 (by decide) rfl rfl)]; exact g6
    have f12 : M2 b7 = some (.inl (cI, 60, .inl un)) := by rw [eM3, hb_up_ne (hap.ne 7 0 (by decide) rfl rfl)]; exact g7
    have f13 : M2 b8 = some (.inl (cI, 60, .inl dn)) := by rw [eM3, hb_up_ne (hap.ne 8 0 (by decide) rfl rfl)]; exact g8
    have f14 : M2 b9 = some (.inl (cI, 60, .inl ds)) := by rw [eM3, hb_up_ne (hap.ne 9 0 (by decide) rfl rfl)]; exact g9
    have f15 : M2 b10 = some (.inl (cJ, 60, .inr (.inl dd))) := by rw [eM3, hb_up_ne (hap.ne 10 0 (by decide) rfl rfl)]; exact g10
    have f16 : M2 b11 = some (.inl (cI, 60, .inl dl)) := by rw [eM3, hb_up_ne (hap.ne 11 0 (by decide) rfl rfl)]; exact g11
    refine lv_aload_n hx hb d_Md_closes_28 rfl (lv_at hl 0 rfl) ?_
    refine hb_get hx hb hts hown hC_Md hK hP f5 15 (by decide) rfl fl_Md_38 rfl d_Md_closes_29 ?_
    refine lv_iload_n hx hb d_Md_closes_32 rfl (lv_at hl 1 rfl) ?_
    refine lv_iload_n hx hb d_Md_closes_33 rfl (lv_at hl 2 rfl) ?_
    refine lv_if_eq (tgt := 41) hx hb d_Md_closes_34 (by decide) (fun c17 => ?_) (fun c17 => ?_)
    · skip
      refine lv_iconst (v := 4) hx hb d_Md_closes_41 (by decide) ?_
      refine hb_iast hx hb hK hP hD hS f14 (vp_in_nI (by omega) (by omega)) d_Md_closes_42 (fun M18 H locs eM19 hP hD hS => ?_)
      rw [nI_clamp (show j < 2 ^ 31 by omega)] at eM19
      have f20 : M18 b9 = some (.inl (cI, 60, .inl (upd ds j 4))) := by rw [eM19]; exact hb_up_self
      have f21 : M18 b0 = some (.inl (cJ, 16, .inr (.inl (vp_updL bal ka ((bal ka) - (dd j)))))) := by rw [eM19, hb_up_ne (hap.ne 0 9 (by decide) rfl rfl)]; exact f4
      have f22 : M18 y = some (.inr (4, [.int cd, .int ho, .int pa, .int tm, .int (nI na), .ref b0, .ref b1, .int (nI np), .ref b2, .ref b3, .ref b4, .ref b5, .ref b6, .ref b7, .ref b8, .ref b9, .ref b10, .ref b11])) := by rw [eM19, hb_up_ne (fun q9 => by rw [q9, f14] at f5; cases f5)]; exact f5
      have f23 : M18 b1 = some (.inl (cJ, 16, .inr (.inl mi))) := by rw [eM19, hb_up_ne (hap.ne 1 9 (by decide) rfl rfl)]; exact f6
      have f24 : M18 b2 = some (.inl (cI, 60, .inl ky)) := by rw [eM19, hb_up_ne (hap.ne 2 9 (by decide) rfl rfl)]; exact f7
      have f25 : M18 b3 = some (.inl (cI, 60, .inl ac)) := by rw [eM19, hb_up_ne (hap.ne 3 9 (by decide) rfl rfl)]; exact f8
      have f26 : M18 b4 = some (.inl (cI, 60, .inl st)) := by rw [eM19, hb_up_ne (hap.ne 4 9 (by decide) rfl rfl)]; exact f9
      have f27 : M18 b5 = some (.inl (cJ, 60, .inr (.inl he))) := by rw [eM19, hb_up_ne (hap.ne 5 9 (by decide) rfl rfl)]; exact f10
      have f28 : M18 b6 = some (.inl (cJ, 60, .inr (.inl cl))) := by rw [eM19, hb_up_ne (hap.ne 6 9 (by decide) rfl rfl)]; exact f11
      have f29 : M18 b7 = some (.inl (cI, 60, .inl un)) := by rw [eM19, hb_up_ne (hap.ne 7 9 (by decide) rfl rfl)]; exact f12
      have f30 : M18 b8 = some (.inl (cI, 60, .inl dn)) := by rw [eM19, hb_up_ne (hap.ne 8 9 (by decide) rfl rfl)]; exact f13
      have f31 : M18 b10 = some (.inl (cJ, 60, .inr (.inl dd))) := by rw [eM19, hb_up_ne (hap.ne 10 9 (by decide) rfl rfl)]; exact f15
      have f32 : M18 b11 = some (.inl (cI, 60, .inl dl)) := by rw [eM19, hb_up_ne (hap.ne 11 9 (by decide) rfl rfl)]; exact f16
      refine lv_aload_n hx hb d_Md_closes_43 rfl (lv_at hl 0 rfl) ?_
      refine hb_get hx hb hts hown hC_Md hK hP f22 17 (by decide) rfl fl_Md_44 rfl d_Md_closes_44 ?_
      refine lv_iload_n hx hb d_Md_closes_47 rfl (lv_at hl 1 rfl) ?_
      refine lv_iconst (v := (-1)) hx hb d_Md_closes_48 (by decide) ?_
      refine hb_iast hx hb hK hP hD hS f32 (vp_in_nI (by omega) (by omega)) d_Md_closes_49 (fun M33 H locs eM34 hP hD hS => ?_)
      rw [nI_clamp (show j < 2 ^ 31 by omega)] at eM34
      have f35 : M33 b11 = some (.inl (cI, 60, .inl (upd dl j (-1)))) := by rw [eM34]; exact hb_up_self
      have f36 : M33 b9 = some (.inl (cI, 60, .inl (upd ds j 4))) := by rw [eM34, hb_up_ne (hap.ne 9 11 (by decide) rfl rfl)]; exact f20
      have f37 : M33 b0 = some (.inl (cJ, 16, .inr (.inl (vp_updL bal ka ((bal ka) - (dd j)))))) := by rw [eM34, hb_up_ne (hap.ne 0 11 (by decide) rfl rfl)]; exact f21
      have f38 : M33 y = some (.inr (4, [.int cd, .int ho, .int pa, .int tm, .int (nI na), .ref b0, .ref b1, .int (nI np), .ref b2, .ref b3, .ref b4, .ref b5, .ref b6, .ref b7, .ref b8, .ref b9, .ref b10, .ref b11])) := by rw [eM34, hb_up_ne (fun q9 => by rw [q9, f32] at f22; cases f22)]; exact f22
      have f39 : M33 b1 = some (.inl (cJ, 16, .inr (.inl mi))) := by rw [eM34, hb_up_ne (hap.ne 1 11 (by decide) rfl rfl)]; exact f23
      have f40 : M33 b2 = some (.inl (cI, 60, .inl ky)) := by rw [eM34, hb_up_ne (hap.ne 2 11 (by decide) rfl rfl)]; exact f24
      have f41 : M33 b3 = some (.inl (cI, 60, .inl ac)) := by rw [eM34, hb_up_ne (hap.ne 3 11 (by decide) rfl rfl)]; exact f25
      have f42 : M33 b4 = some (.inl (cI, 60, .inl st)) := by rw [eM34, hb_up_ne (hap.ne 4 11 (by decide) rfl rfl)]; exact f26
      have f43 : M33 b5 = some (.inl (cJ, 60, .inr (.inl he))) := by rw [eM34, hb_up_ne (hap.ne 5 11 (by decide) rfl rfl)]; exact f27
      have f44 : M33 b6 = some (.inl (cJ, 60, .inr (.inl cl))) := by rw [eM34, hb_up_ne (hap.ne 6 11 (by decide) rfl rfl)]; exact f28
      have f45 : M33 b7 = some (.inl (cI, 60, .inl un)) := by rw [eM34, hb_up_ne (hap.ne 7 11 (by decide) rfl rfl)]; exact f29
      have f46 : M33 b8 = some (.inl (cI, 60, .inl dn)) := by rw [eM34, hb_up_ne (hap.ne 8 11 (by decide) rfl rfl)]; exact f30
      have f47 : M33 b10 = some (.inl (cJ, 60, .inr (.inl dd))) := by rw [eM34, hb_up_ne (hap.ne 10 11 (by decide) rfl rfl)]; exact f31
      exact hb_vret hAe hx hb hr hlocks hP hD hS (Nat.le_of_ble_eq_true rfl) (Nat.le_of_ble_eq_true rfl) (⟨rfl, f38, by rw [if_pos c1]; exact f37, f39, f40, f41, f42, f43, f44, f45, f46, by rw [if_pos c1]; exact f36, f47, f35, hap⟩) d_Md_closes_50
    · skip
      exact absurd c1 c17
  · skip
    refine lv_lconst (v := 0) hx hb d_Md_closes_16 (by decide) ?_
    refine lv_goto (tgt := 26) hx hb d_Md_closes_17 (by decide) ?_
    refine lv_lsub hx hb d_Md_closes_26 ?_
    refine hb_last hx hb hK hP hD hS g0 (vp_in_nI (by omega) (by omega)) d_Md_closes_27 (fun M48 H locs eM49 hP hD hS => ?_)
    rw [nI_clamp (show ka < 2 ^ 31 by omega)] at eM49
    have f50 : M48 b0 = some (.inl (cJ, 16, .inr (.inl (vp_updL bal ka ((bal ka) - 0))))) := by rw [eM49]; exact hb_up_self
    have f51 : M48 y = some (.inr (4, [.int cd, .int ho, .int pa, .int tm, .int (nI na), .ref b0, .ref b1, .int (nI np), .ref b2, .ref b3, .ref b4, .ref b5, .ref b6, .ref b7, .ref b8, .ref b9, .ref b10, .ref b11])) := by rw [eM49, hb_up_ne (fun q9 => by rw [q9, g0] at fy; cases fy)]; exact fy
    have f52 : M48 b1 = some (.inl (cJ, 16, .inr (.inl mi))) := by rw [eM49, hb_up_ne (hap.ne 1 0 (by decide) rfl rfl)]; exact g1
    have f53 : M48 b2 = some (.inl (cI, 60, .inl ky)) := by rw [eM49, hb_up_ne (hap.ne 2 0 (by decide) rfl rfl)]; exact g2
    have f54 : M48 b3 = some (.inl (cI, 60, .inl ac)) := by rw [eM49, hb_up_ne (hap.ne 3 0 (by decide) rfl rfl)]; exact g3
    have f55 : M48 b4 = some (.inl (cI, 60, .inl st)) := by rw [eM49, hb_up_ne (hap.ne 4 0 (by decide) rfl rfl)]; exact g4
    have f56 : M48 b5 = some (.inl (cJ, 60, .inr (.inl he))) := by rw [eM49, hb_up_ne (hap.ne 5 0 (by decide) rfl rfl)]; exact g5
    have f57 : M48 b6 = some (.inl (cJ, 60, .inr (.inl cl))) := by rw [eM49, hb_up_ne (hap.ne 6 0 (by decide) rfl rfl)]; exact g6
    have f58 : M48 b7 = some (.inl (cI, 60, .inl un)) := by rw [eM49, hb_up_ne (hap.ne 7 0 (by decide) rfl rfl)]; exact g7
    have f59 : M48 b8 = some (.inl (cI, 60, .inl dn)) := by rw [eM49, hb_up_ne (hap.ne 8 0 (by decide) rfl rfl)]; exact g8
    have f60 : M48 b9 = some (.inl (cI, 60, .inl ds)) := by rw [eM49, hb_up_ne (hap.ne 9 0 (by decide) rfl rfl)]; exact g9
    have f61 : M48 b10 = some (.inl (cJ, 60, .inr (.inl dd))) := by rw [eM49, hb_up_ne (hap.ne 10 0 (by decide) rfl rfl)]; exact g10
    have f62 : M48 b11 = some (.inl (cI, 60, .inl dl)) := by rw [eM49, hb_up_ne (hap.ne 11 0 (by decide) rfl rfl)]; exact g11
    refine lv_aload_n hx hb d_Md_closes_28 rfl (lv_at hl 0 rfl) ?_
    refine hb_get hx hb hts hown hC_Md hK hP f51 15 (by decide) rfl fl_Md_38 rfl d_Md_closes_29 ?_
    refine lv_iload_n hx hb d_Md_closes_32 rfl (lv_at hl 1 rfl) ?_
    refine lv_iload_n hx hb d_Md_closes_33 rfl (lv_at hl 2 rfl) ?_
    refine lv_if_eq (tgt := 41) hx hb d_Md_closes_34 (by decide) (fun c63 => ?_) (fun c63 => ?_)
    · skip
      exact absurd c63 c1
    · skip
      refine lv_iconst (v := 3) hx hb d_Md_closes_37 (by decide) ?_
      refine lv_goto (tgt := 42) hx hb d_Md_closes_38 (by decide) ?_
      refine hb_iast hx hb hK hP hD hS f60 (vp_in_nI (by omega) (by omega)) d_Md_closes_42 (fun M64 H locs eM65 hP hD hS => ?_)
      rw [nI_clamp (show j < 2 ^ 31 by omega)] at eM65
      have f66 : M64 b9 = some (.inl (cI, 60, .inl (upd ds j 3))) := by rw [eM65]; exact hb_up_self
      have f67 : M64 b0 = some (.inl (cJ, 16, .inr (.inl (vp_updL bal ka ((bal ka) - 0))))) := by rw [eM65, hb_up_ne (hap.ne 0 9 (by decide) rfl rfl)]; exact f50
      have f68 : M64 y = some (.inr (4, [.int cd, .int ho, .int pa, .int tm, .int (nI na), .ref b0, .ref b1, .int (nI np), .ref b2, .ref b3, .ref b4, .ref b5, .ref b6, .ref b7, .ref b8, .ref b9, .ref b10, .ref b11])) := by rw [eM65, hb_up_ne (fun q9 => by rw [q9, f60] at f51; cases f51)]; exact f51
      have f69 : M64 b1 = some (.inl (cJ, 16, .inr (.inl mi))) := by rw [eM65, hb_up_ne (hap.ne 1 9 (by decide) rfl rfl)]; exact f52
      have f70 : M64 b2 = some (.inl (cI, 60, .inl ky)) := by rw [eM65, hb_up_ne (hap.ne 2 9 (by decide) rfl rfl)]; exact f53
      have f71 : M64 b3 = some (.inl (cI, 60, .inl ac)) := by rw [eM65, hb_up_ne (hap.ne 3 9 (by decide) rfl rfl)]; exact f54
      have f72 : M64 b4 = some (.inl (cI, 60, .inl st)) := by rw [eM65, hb_up_ne (hap.ne 4 9 (by decide) rfl rfl)]; exact f55
      have f73 : M64 b5 = some (.inl (cJ, 60, .inr (.inl he))) := by rw [eM65, hb_up_ne (hap.ne 5 9 (by decide) rfl rfl)]; exact f56
      have f74 : M64 b6 = some (.inl (cJ, 60, .inr (.inl cl))) := by rw [eM65, hb_up_ne (hap.ne 6 9 (by decide) rfl rfl)]; exact f57
      have f75 : M64 b7 = some (.inl (cI, 60, .inl un)) := by rw [eM65, hb_up_ne (hap.ne 7 9 (by decide) rfl rfl)]; exact f58
      have f76 : M64 b8 = some (.inl (cI, 60, .inl dn)) := by rw [eM65, hb_up_ne (hap.ne 8 9 (by decide) rfl rfl)]; exact f59
      have f77 : M64 b10 = some (.inl (cJ, 60, .inr (.inl dd))) := by rw [eM65, hb_up_ne (hap.ne 10 9 (by decide) rfl rfl)]; exact f61
      have f78 : M64 b11 = some (.inl (cI, 60, .inl dl)) := by rw [eM65, hb_up_ne (hap.ne 11 9 (by decide) rfl rfl)]; exact f62
      refine lv_aload_n hx hb d_Md_closes_43 rfl (lv_at hl 0 rfl) ?_
      refine hb_get hx hb hts hown hC_Md hK hP f68 17 (by decide) rfl fl_Md_44 rfl d_Md_closes_44 ?_
      refine lv_iload_n hx hb d_Md_closes_47 rfl (lv_at hl 1 rfl) ?_
      refine lv_iconst (v := (-1)) hx hb d_Md_closes_48 (by decide) ?_
      refine hb_iast hx hb hK hP hD hS f78 (vp_in_nI (by omega) (by omega)) d_Md_closes_49 (fun M79 H locs eM80 hP hD hS => ?_)
      rw [nI_clamp (show j < 2 ^ 31 by omega)] at eM80
      have f81 : M79 b11 = some (.inl (cI, 60, .inl (upd dl j (-1)))) := by rw [eM80]; exact hb_up_self
      have f82 : M79 b9 = some (.inl (cI, 60, .inl (upd ds j 3))) := by rw [eM80, hb_up_ne (hap.ne 9 11 (by decide) rfl rfl)]; exact f66
      have f83 : M79 b0 = some (.inl (cJ, 16, .inr (.inl (vp_updL bal ka ((bal ka) - 0))))) := by rw [eM80, hb_up_ne (hap.ne 0 11 (by decide) rfl rfl)]; exact f67
      have f84 : M79 y = some (.inr (4, [.int cd, .int ho, .int pa, .int tm, .int (nI na), .ref b0, .ref b1, .int (nI np), .ref b2, .ref b3, .ref b4, .ref b5, .ref b6, .ref b7, .ref b8, .ref b9, .ref b10, .ref b11])) := by rw [eM80, hb_up_ne (fun q9 => by rw [q9, f78] at f68; cases f68)]; exact f68
      have f85 : M79 b1 = some (.inl (cJ, 16, .inr (.inl mi))) := by rw [eM80, hb_up_ne (hap.ne 1 11 (by decide) rfl rfl)]; exact f69
      have f86 : M79 b2 = some (.inl (cI, 60, .inl ky)) := by rw [eM80, hb_up_ne (hap.ne 2 11 (by decide) rfl rfl)]; exact f70
      have f87 : M79 b3 = some (.inl (cI, 60, .inl ac)) := by rw [eM80, hb_up_ne (hap.ne 3 11 (by decide) rfl rfl)]; exact f71
      have f88 : M79 b4 = some (.inl (cI, 60, .inl st)) := by rw [eM80, hb_up_ne (hap.ne 4 11 (by decide) rfl rfl)]; exact f72
      have f89 : M79 b5 = some (.inl (cJ, 60, .inr (.inl he))) := by rw [eM80, hb_up_ne (hap.ne 5 11 (by decide) rfl rfl)]; exact f73
      have f90 : M79 b6 = some (.inl (cJ, 60, .inr (.inl cl))) := by rw [eM80, hb_up_ne (hap.ne 6 11 (by decide) rfl rfl)]; exact f74
      have f91 : M79 b7 = some (.inl (cI, 60, .inl un)) := by rw [eM80, hb_up_ne (hap.ne 7 11 (by decide) rfl rfl)]; exact f75
      have f92 : M79 b8 = some (.inl (cI, 60, .inl dn)) := by rw [eM80, hb_up_ne (hap.ne 8 11 (by decide) rfl rfl)]; exact f76
      have f93 : M79 b10 = some (.inl (cJ, 60, .inr (.inl dd))) := by rw [eM80, hb_up_ne (hap.ne 10 11 (by decide) rfl rfl)]; exact f77
      exact hb_vret hAe hx hb hr hlocks hP hD hS (Nat.le_of_ble_eq_true rfl) (Nat.le_of_ble_eq_true rfl) (⟨rfl, f84, by rw [if_neg c1]; exact f83, f85, f86, f87, f88, f89, f90, f91, f92, by rw [if_neg c1]; exact f82, f93, f81, hap⟩) d_Md_closes_50
set_option maxHeartbeats 4000000 in
set_option maxRecDepth 100000 in
/-- stays(j) -/
theorem c_Md_stays {l : Launch} {s0 : State} {D : va_G} {cI cJ cO : ClassId} {e0 mi : Nat} (hE : hb_E l s0 D cI cJ cO e0 mi) (M : hb_M) (y b0 b1 b2 b3 b4 b5 b6 b7 b8 b9 b10 b11 : Nat) (cd ho pa tm : Int32) (na np : Nat) (bal mi : Nat → Int64) (ky ac st : Nat → Int32) (he cl : Nat → Int64) (un dn ds : Nat → Int32) (dd : Nat → Int64) (dl : Nat → Int32) (h : mR cI cJ M y b0 b1 b2 b3 b4 b5 b6 b7 b8 b9 b10 b11 cd ho pa tm na np bal mi ky ac st he cl un dn ds dd dl) (hna : na ≤ 16) (hnp : np ≤ 60) (j : Nat) (hj : j < 60) : hb_Met l D hb_cl s0 y_Md_stays b_Md_stays 2 (some .boolean) { frames := 0, cells := 0, slots := 0, locals := 0 } [.ref y, .int (nI j)] M (fun v M1 => v = some (.int (if (if st j = 3 ∧ ds j = 0 then ¬ dn j + pa < tm else (st j = 1 ∨ ds j = 1 ∨ ds j = 2)) then 1 else 0)) ∧ M1 = M) := by
  refine hb_Met.of (by decide) (Nat.le_of_ble_eq_true rfl) ?_
  intro p e s m below meth c A hAe hX hz hP hD hA hS ls hl
  obtain ⟨hx, hb, hr, hml, hown, hlocks, hnm, hG, hnh⟩ := id hX
  have hown : s.vm.findClass "HoldBookModel" = some m.cls := hown
  have hts := hE.ts hG ([.ref y, .int (nI j)] : List Value).toArray
  have hK := hE.kn hG
  have hl : lv_has ls 2 [(0, .ref y), (1, .int (nI j))] := hl
  obtain ⟨fy, g0, g1, g2, g3, g4, g5, g6, g7, g8, g9, g10, g11, hap⟩ := id h
  refine lv_aload_n hx hb d_Md_stays_0 rfl (lv_at hl 0 rfl) ?_
  refine hb_get hx hb hts hown hC_Md hK hP fy 10 (by decide) rfl fl_Md_23 rfl d_Md_stays_1 ?_
  refine lv_iload_n hx hb d_Md_stays_4 rfl (lv_at hl 1 rfl) ?_
  refine va_iald hx hb hK (hP.one g4) 0 0 rfl rfl (vp_in_nI (by omega) (by omega)) d_Md_stays_5 ?_
  refine W.eq (g2 := F0 m 6 ls [.int (st j)]) (by rw [nI_clamp (show j < 2 ^ 31 by omega)]) ?_
  refine lv_iconst (v := 3) hx hb d_Md_stays_6 (by decide) ?_
  refine lv_icmp_ne (tgt := 43) hx hb d_Md_stays_7 (by decide) (fun c1 => ?_) (fun c1 => ?_)
  · skip
    refine lv_aload_n hx hb d_Md_stays_43 rfl (lv_at hl 0 rfl) ?_
    refine hb_get hx hb hts hown hC_Md hK hP fy 10 (by decide) rfl fl_Md_23 rfl d_Md_stays_44 ?_
    refine lv_iload_n hx hb d_Md_stays_47 rfl (lv_at hl 1 rfl) ?_
    refine va_iald hx hb hK (hP.one g4) 0 0 rfl rfl (vp_in_nI (by omega) (by omega)) d_Md_stays_48 ?_
    refine W.eq (g2 := F0 m 49 ls [.int (st j)]) (by rw [nI_clamp (show j < 2 ^ 31 by omega)]) ?_
    refine lv_iconst (v := 1) hx hb d_Md_stays_49 (by decide) ?_
    refine lv_icmp_eq (tgt := 73) hx hb d_Md_stays_50 (by decide) (fun c2 => ?_) (fun c2 => ?_)
    · skip
      refine lv_iconst (v := 1) hx hb d_Md_stays_73 (by decide) ?_
      refine lv_goto (tgt := 78) hx hb d_Md_stays_74 (by decide) ?_
      exact hb_zret hAe hx hb hr (by decide) hlocks hP hD hS (Nat.le_of_ble_eq_true rfl) (Nat.le_of_ble_eq_true rfl) (⟨by simp_all, rfl⟩) d_Md_stays_78
    · skip
      refine lv_aload_n hx hb d_Md_stays_53 rfl (lv_at hl 0 rfl) ?_
      refine hb_get hx hb hts hown hC_Md hK hP fy 15 (by decide) rfl fl_Md_38 rfl d_Md_stays_54 ?_
      refine lv_iload_n hx hb d_Md_stays_57 rfl (lv_at hl 1 rfl) ?_
      refine va_iald hx hb hK (hP.one g9) 0 0 rfl rfl (vp_in_nI (by omega) (by omega)) d_Md_stays_58 ?_
      refine W.eq (g2 := F0 m 59 ls [.int (ds j)]) (by rw [nI_clamp (show j < 2 ^ 31 by omega)]) ?_
      refine lv_iconst (v := 1) hx hb d_Md_stays_59 (by decide) ?_
      refine lv_icmp_eq (tgt := 73) hx hb d_Md_stays_60 (by decide) (fun c3 => ?_) (fun c3 => ?_)
      · skip
        refine lv_iconst (v := 1) hx hb d_Md_stays_73 (by decide) ?_
        refine lv_goto (tgt := 78) hx hb d_Md_stays_74 (by decide) ?_
        exact hb_zret hAe hx hb hr (by decide) hlocks hP hD hS (Nat.le_of_ble_eq_true rfl) (Nat.le_of_ble_eq_true rfl) (⟨by simp_all, rfl⟩) d_Md_stays_78
      · skip
        refine lv_aload_n hx hb d_Md_stays_63 rfl (lv_at hl 0 rfl) ?_
        refine hb_get hx hb hts hown hC_Md hK hP fy 15 (by decide) rfl fl_Md_38 rfl d_Md_stays_64 ?_
        refine lv_iload_n hx hb d_Md_stays_67 rfl (lv_at hl 1 rfl) ?_
        refine va_iald hx hb hK (hP.one g9) 0 0 rfl rfl (vp_in_nI (by omega) (by omega)) d_Md_stays_68 ?_
        refine W.eq (g2 := F0 m 69 ls [.int (ds j)]) (by rw [nI_clamp (show j < 2 ^ 31 by omega)]) ?_
        refine lv_iconst (v := 2) hx hb d_Md_stays_69 (by decide) ?_
        refine lv_icmp_ne (tgt := 77) hx hb d_Md_stays_70 (by decide) (fun c4 => ?_) (fun c4 => ?_)
        · skip
          refine lv_iconst (v := 0) hx hb d_Md_stays_77 (by decide) ?_
          exact hb_zret hAe hx hb hr (by decide) hlocks hP hD hS (Nat.le_of_ble_eq_true rfl) (Nat.le_of_ble_eq_true rfl) (⟨by simp_all, rfl⟩) d_Md_stays_78
        · skip
          refine lv_iconst (v := 1) hx hb d_Md_stays_73 (by decide) ?_
          refine lv_goto (tgt := 78) hx hb d_Md_stays_74 (by decide) ?_
          exact hb_zret hAe hx hb hr (by decide) hlocks hP hD hS (Nat.le_of_ble_eq_true rfl) (Nat.le_of_ble_eq_true rfl) (⟨by simp_all, rfl⟩) d_Md_stays_78
  · skip
    refine lv_aload_n hx hb d_Md_stays_10 rfl (lv_at hl 0 rfl) ?_
    refine hb_get hx hb hts hown hC_Md hK hP fy 15 (by decide) rfl fl_Md_38 rfl d_Md_stays_11 ?_
    refine lv_iload_n hx hb d_Md_stays_14 rfl (lv_at hl 1 rfl) ?_
    refine va_iald hx hb hK (hP.one g9) 0 0 rfl rfl (vp_in_nI (by omega) (by omega)) d_Md_stays_15 ?_
    refine W.eq (g2 := F0 m 16 ls [.int (ds j)]) (by rw [nI_clamp (show j < 2 ^ 31 by omega)]) ?_
    refine lv_if_ne (tgt := 43) hx hb d_Md_stays_16 (by decide) (fun c5 => ?_) (fun c5 => ?_)
    · skip
      refine lv_aload_n hx hb d_Md_stays_43 rfl (lv_at hl 0 rfl) ?_
      refine hb_get hx hb hts hown hC_Md hK hP fy 10 (by decide) rfl fl_Md_23 rfl d_Md_stays_44 ?_
      refine lv_iload_n hx hb d_Md_stays_47 rfl (lv_at hl 1 rfl) ?_
      refine va_iald hx hb hK (hP.one g4) 0 0 rfl rfl (vp_in_nI (by omega) (by omega)) d_Md_stays_48 ?_
      refine W.eq (g2 := F0 m 49 ls [.int (st j)]) (by rw [nI_clamp (show j < 2 ^ 31 by omega)]) ?_
      refine lv_iconst (v := 1) hx hb d_Md_stays_49 (by decide) ?_
      refine lv_icmp_eq (tgt := 73) hx hb d_Md_stays_50 (by decide) (fun c6 => ?_) (fun c6 => ?_)
      · skip
        refine lv_iconst (v := 1) hx hb d_Md_stays_73 (by decide) ?_
        refine lv_goto (tgt := 78) hx hb d_Md_stays_74 (by decide) ?_
        exact hb_zret hAe hx hb hr (by decide) hlocks hP hD hS (Nat.le_of_ble_eq_true rfl) (Nat.le_of_ble_eq_true rfl) (⟨by simp_all, rfl⟩) d_Md_stays_78
      · skip
        refine lv_aload_n hx hb d_Md_stays_53 rfl (lv_at hl 0 rfl) ?_
        refine hb_get hx hb hts hown hC_Md hK hP fy 15 (by decide) rfl fl_Md_38 rfl d_Md_stays_54 ?_
        refine lv_iload_n hx hb d_Md_stays_57 rfl (lv_at hl 1 rfl) ?_
        refine va_iald hx hb hK (hP.one g9) 0 0 rfl rfl (vp_in_nI (by omega) (by omega)) d_Md_stays_58 ?_
        refine W.eq (g2 := F0 m 59 ls [.int (ds j)]) (by rw [nI_clamp (show j < 2 ^ 31 by omega)]) ?_
        refine lv_iconst (v := 1) hx hb d_Md_stays_59 (by decide) ?_
        refine lv_icmp_eq (tgt := 73) hx hb d_Md_stays_60 (by decide) (fun c7 => ?_) (fun c7 => ?_)
        · skip
          refine lv_iconst (v := 1) hx hb d_Md_stays_73 (by decide) ?_
          refine lv_goto (tgt := 78) hx hb d_Md_stays_74 (by decide) ?_
          exact hb_zret hAe hx hb hr (by decide) hlocks hP hD hS (Nat.le_of_ble_eq_true rfl) (Nat.le_of_ble_eq_true rfl) (⟨by simp_all, rfl⟩) d_Md_stays_78
        · skip
          refine lv_aload_n hx hb d_Md_stays_63 rfl (lv_at hl 0 rfl) ?_
          refine hb_get hx hb hts hown hC_Md hK hP fy 15 (by decide) rfl fl_Md_38 rfl d_Md_stays_64 ?_
          refine lv_iload_n hx hb d_Md_stays_67 rfl (lv_at hl 1 rfl) ?_
          refine va_iald hx hb hK (hP.one g9) 0 0 rfl rfl (vp_in_nI (by omega) (by omega)) d_Md_stays_68 ?_
          refine W.eq (g2 := F0 m 69 ls [.int (ds j)]) (by rw [nI_clamp (show j < 2 ^ 31 by omega)]) ?_
          refine lv_iconst (v := 2) hx hb d_Md_stays_69 (by decide) ?_
          refine lv_icmp_ne (tgt := 77) hx hb d_Md_stays_70 (by decide) (fun c8 => ?_) (fun c8 => ?_)
          · skip
            refine lv_iconst (v := 0) hx hb d_Md_stays_77 (by decide) ?_
            exact hb_zret hAe hx hb hr (by decide) hlocks hP hD hS (Nat.le_of_ble_eq_true rfl) (Nat.le_of_ble_eq_true rfl) (⟨by simp_all, rfl⟩) d_Md_stays_78
          · skip
            refine lv_iconst (v := 1) hx hb d_Md_stays_73 (by decide) ?_
            refine lv_goto (tgt := 78) hx hb d_Md_stays_74 (by decide) ?_
            exact hb_zret hAe hx hb hr (by decide) hlocks hP hD hS (Nat.le_of_ble_eq_true rfl) (Nat.le_of_ble_eq_true rfl) (⟨by simp_all, rfl⟩) d_Md_stays_78
    · skip
      refine lv_aload_n hx hb d_Md_stays_19 rfl (lv_at hl 0 rfl) ?_
      refine hb_get hx hb hts hown hC_Md hK hP fy 3 (by decide) rfl fl_Md_104 rfl d_Md_stays_20 ?_
      refine lv_aload_n hx hb d_Md_stays_23 rfl (lv_at hl 0 rfl) ?_
      refine hb_get hx hb hts hown hC_Md hK hP fy 14 (by decide) rfl fl_Md_35 rfl d_Md_stays_24 ?_
      refine lv_iload_n hx hb d_Md_stays_27 rfl (lv_at hl 1 rfl) ?_
      refine va_iald hx hb hK (hP.one g8) 0 0 rfl rfl (vp_in_nI (by omega) (by omega)) d_Md_stays_28 ?_
      refine W.eq (g2 := F0 m 29 ls [.int (dn j), .int tm]) (by rw [nI_clamp (show j < 2 ^ 31 by omega)]) ?_
      refine lv_aload_n hx hb d_Md_stays_29 rfl (lv_at hl 0 rfl) ?_
      refine hb_get hx hb hts hown hC_Md hK hP fy 2 (by decide) rfl fl_Md_51 rfl d_Md_stays_30 ?_
      refine lv_iadd hx hb d_Md_stays_33 ?_
      refine lv_icmp_gt (tgt := 41) hx hb d_Md_stays_34 (by decide) (fun c9 => ?_) (fun c9 => ?_)
      · skip
        refine lv_iconst (v := 0) hx hb d_Md_stays_41 (by decide) ?_
        exact hb_zret hAe hx hb hr (by decide) hlocks hP hD hS (Nat.le_of_ble_eq_true rfl) (Nat.le_of_ble_eq_true rfl) (⟨by simp_all, rfl⟩) d_Md_stays_42
      · skip
        refine lv_iconst (v := 1) hx hb d_Md_stays_37 (by decide) ?_
        refine lv_goto (tgt := 42) hx hb d_Md_stays_38 (by decide) ?_
        exact hb_zret hAe hx hb hr (by decide) hlocks hP hD hS (Nat.le_of_ble_eq_true rfl) (Nat.le_of_ble_eq_true rfl) (⟨by simp_all, rfl⟩) d_Md_stays_42
