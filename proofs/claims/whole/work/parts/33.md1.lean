/-! THE REFERENCE'S STATE -/
def hb_ap (L : List Nat) : Prop := ∀ i j a : Nat, L[i]? = some a → L[j]? = some a → i = j
theorem hb_ap.ne {L : List Nat} (h : hb_ap L) (i j : Nat) (hij : i ≠ j) {a b : Nat} (ha : L[i]? = some a) (hb : L[j]? = some b) : a ≠ b := fun z => hij (h i j a ha (by rw [z]; exact hb))
def mR (cI cJ : ClassId) (M : hb_M) (y b0 b1 b2 b3 b4 b5 b6 b7 b8 b9 b10 b11 : Nat) (cd ho pa tm : Int32) (na np : Nat) (bal mi : Nat → Int64) (ky ac st : Nat → Int32) (he cl : Nat → Int64) (un dn ds : Nat → Int32) (dd : Nat → Int64) (dl : Nat → Int32) : Prop :=
  M y = some (.inr (4, [.int cd, .int ho, .int pa, .int tm, .int (nI na), .ref b0, .ref b1, .int (nI np), .ref b2, .ref b3, .ref b4, .ref b5, .ref b6, .ref b7, .ref b8, .ref b9, .ref b10, .ref b11])) ∧ M b0 = some (.inl (cJ, 16, .inr (.inl bal))) ∧ M b1 = some (.inl (cJ, 16, .inr (.inl mi))) ∧ M b2 = some (.inl (cI, 60, .inl ky)) ∧ M b3 = some (.inl (cI, 60, .inl ac)) ∧ M b4 = some (.inl (cI, 60, .inl st)) ∧ M b5 = some (.inl (cJ, 60, .inr (.inl he))) ∧ M b6 = some (.inl (cJ, 60, .inr (.inl cl))) ∧ M b7 = some (.inl (cI, 60, .inl un)) ∧ M b8 = some (.inl (cI, 60, .inl dn)) ∧ M b9 = some (.inl (cI, 60, .inl ds)) ∧ M b10 = some (.inl (cJ, 60, .inr (.inl dd))) ∧ M b11 = some (.inl (cI, 60, .inl dl)) ∧ hb_ap [b0, b1, b2, b3, b4, b5, b6, b7, b8, b9, b10, b11]
/-- the place that the reference finds for a key, over the first j payments -/
def hb_plc (ky : Nat → Int32) (k : Int32) : Nat → Int32
  | 0 => -1
  | j + 1 => if ky j = k then nI j else hb_plc ky k j
set_option maxHeartbeats 4000000 in
set_option maxRecDepth 100000 in
/-- thrown() -/
theorem c_Md_thrown {l : Launch} {s0 : State} {D : va_G} {cI cJ cO : ClassId} {e0 mi : Nat} (hE : hb_E l s0 D cI cJ cO e0 mi) (M : hb_M) (y b0 b1 b2 b3 b4 b5 b6 b7 b8 b9 b10 b11 : Nat) (cd ho pa tm : Int32) (na np : Nat) (bal mi : Nat → Int64) (ky ac st : Nat → Int32) (he cl : Nat → Int64) (un dn ds : Nat → Int32) (dd : Nat → Int64) (dl : Nat → Int32) (h : mR cI cJ M y b0 b1 b2 b3 b4 b5 b6 b7 b8 b9 b10 b11 cd ho pa tm na np bal mi ky ac st he cl un dn ds dd dl) (hna : na ≤ 16) (hnp : np ≤ 60) : hb_Met l D hb_cl s0 y_Md_thrown b_Md_thrown 1 (some .int) { frames := 0, cells := 0, slots := 0, locals := 0 } [.ref y] M (fun v M1 => v = some (.int cd) ∧ M1 = M) := by
  refine hb_Met.of (by decide) (Nat.le_of_ble_eq_true rfl) ?_
  intro p e s m below meth c A hAe hX hz hP hD hA hS ls hl
  obtain ⟨hx, hb, hr, hml, hown, hlocks, hnm, hG, hnh⟩ := id hX
  have hown : s.vm.findClass "HoldBookModel" = some m.cls := hown
  have hts := hE.ts hG ([.ref y] : List Value).toArray
  have hK := hE.kn hG
  have hl : lv_has ls 1 [(0, .ref y)] := hl
  obtain ⟨fy, g0, g1, g2, g3, g4, g5, g6, g7, g8, g9, g10, g11, hap⟩ := id h
  refine lv_aload_n hx hb d_Md_thrown_0 rfl (lv_at hl 0 rfl) ?_
  refine hb_get hx hb hts hown hC_Md hK hP fy 0 (by decide) rfl fl_Md_54 rfl d_Md_thrown_1 ?_
  exact hb_iret hAe hx hb hr hlocks hP hD hS (Nat.le_of_ble_eq_true rfl) (Nat.le_of_ble_eq_true rfl) (⟨rfl, rfl⟩) d_Md_thrown_4
set_option maxHeartbeats 4000000 in
set_option maxRecDepth 100000 in
/-- goes(z) -/
theorem c_Md_goes {l : Launch} {s0 : State} {D : va_G} {cI cJ cO : ClassId} {e0 mi : Nat} (hE : hb_E l s0 D cI cJ cO e0 mi) (M : hb_M) (y b0 b1 b2 b3 b4 b5 b6 b7 b8 b9 b10 b11 : Nat) (cd ho pa tm : Int32) (na np : Nat) (bal mi : Nat → Int64) (ky ac st : Nat → Int32) (he cl : Nat → Int64) (un dn ds : Nat → Int32) (dd : Nat → Int64) (dl : Nat → Int32) (h : mR cI cJ M y b0 b1 b2 b3 b4 b5 b6 b7 b8 b9 b10 b11 cd ho pa tm na np bal mi ky ac st he cl un dn ds dd dl) (hna : na ≤ 16) (hnp : np ≤ 60) (z : Int32) (hz1 : z = 0 ∨ z = 1) : hb_Met l D hb_cl s0 y_Md_goes b_Md_goes 2 (some .boolean) { frames := 0, cells := 0, slots := 0, locals := 0 } [.ref y, .int z] M (fun v M1 => v = some (.int z) ∧ mR cI cJ M1 y b0 b1 b2 b3 b4 b5 b6 b7 b8 b9 b10 b11 (if z = 0 then 1 else 0) ho pa tm na np bal mi ky ac st he cl un dn ds dd dl) := by
  refine hb_Met.of (by decide) (Nat.le_of_ble_eq_true rfl) ?_
  intro p e s m below meth c A hAe hX hz hP hD hA hS ls hl
  obtain ⟨hx, hb, hr, hml, hown, hlocks, hnm, hG, hnh⟩ := id hX
  have hown : s.vm.findClass "HoldBookModel" = some m.cls := hown
  have hts := hE.ts hG ([.ref y, .int z] : List Value).toArray
  have hK := hE.kn hG
  have hl : lv_has ls 2 [(0, .ref y), (1, .int z)] := hl
  obtain ⟨fy, g0, g1, g2, g3, g4, g5, g6, g7, g8, g9, g10, g11, hap⟩ := id h
  refine lv_aload_n hx hb d_Md_goes_0 rfl (lv_at hl 0 rfl) ?_
  refine lv_iload_n hx hb d_Md_goes_1 rfl (lv_at hl 1 rfl) ?_
  refine lv_if_eq (tgt := 9) hx hb d_Md_goes_2 (by decide) (fun c1 => ?_) (fun c1 => ?_)
  · skip
    refine lv_iconst (v := 1) hx hb d_Md_goes_9 (by decide) ?_
    refine hb_put (ty := .int) hx hb hts hown hC_Md hK hP hD hS fy 0 (by decide) rfl fl_Md_54 rfl rfl rfl rfl (Nat.le_of_ble_eq_true rfl) d_Md_goes_10 (fun M2 H locs eM3 hP hD hS => ?_)
    have f4 : M2 y = some (.inr (4, [.int 1, .int ho, .int pa, .int tm, .int (nI na), .ref b0, .ref b1, .int (nI np), .ref b2, .ref b3, .ref b4, .ref b5, .ref b6, .ref b7, .ref b8, .ref b9, .ref b10, .ref b11])) := by rw [eM3]; exact hb_up_self
    have f5 : M2 b0 = some (.inl (cJ, 16, .inr (.inl bal))) := by rw [eM3, hb_up_ne (fun q9 => by rw [q9, fy] at g0; cases g0)]; exact g0
    have f6 : M2 b1 = some (.inl (cJ, 16, .inr (.inl mi))) := by rw [eM3, hb_up_ne (fun q9 => by rw [q9, fy] at g1; cases g1)]; exact g1
    have f7 : M2 b2 = some (.inl (cI, 60, .inl ky)) := by rw [eM3, hb_up_ne (fun q9 => by rw [q9, fy] at g2; cases g2)]; exact g2
    have f8 : M2 b3 = some (.inl (cI, 60, .inl ac)) := by rw [eM3, hb_up_ne (fun q9 => by rw [q9, fy] at g3; cases g3)]; exact g3
    have f9 : M2 b4 = some (.inl (cI, 60, .inl st)) := by rw [eM3, hb_up_ne (fun q9 => by rw [q9, fy] at g4; cases g4)]; exact g4
    have f10 : M2 b5 = some (.inl (cJ, 60, .inr (.inl he))) := by rw [eM3, hb_up_ne (fun q9 => by rw [q9, fy] at g5; cases g5)]; exact g5
    have f11 : M2 b6 = some (.inl (cJ, 60, .inr (.inl cl))) := by rw [eM3, hb_up_ne (fun q9 => by rw [q9, fy] at g6; cases g6)]; exact g6
    have f12 : M2 b7 = some (.inl (cI, 60, .inl un)) := by rw [eM3, hb_up_ne (fun q9 => by rw [q9, fy] at g7; cases g7)]; exact g7
    have f13 : M2 b8 = some (.inl (cI, 60, .inl dn)) := by rw [eM3, hb_up_ne (fun q9 => by rw [q9, fy] at g8; cases g8)]; exact g8
    have f14 : M2 b9 = some (.inl (cI, 60, .inl ds)) := by rw [eM3, hb_up_ne (fun q9 => by rw [q9, fy] at g9; cases g9)]; exact g9
    have f15 : M2 b10 = some (.inl (cJ, 60, .inr (.inl dd))) := by rw [eM3, hb_up_ne (fun q9 => by rw [q9, fy] at g10; cases g10)]; exact g10
    have f16 : M2 b11 = some (.inl (cI, 60, .inl dl)) := by rw [eM3, hb_up_ne (fun q9 => by rw [q9, fy] at g11; cases g11)]; exact g11
    refine lv_iload_n hx hb d_Md_goes_13 rfl (lv_at hl 1 rfl) ?_
    exact hb_zret hAe hx hb hr (by rcases hz1 with rfl | rfl <;> decide) hlocks hP hD hS (Nat.le_of_ble_eq_true rfl) (Nat.le_of_ble_eq_true rfl) (⟨rfl, by first | (rw [if_pos (by assumption)]; exact f4) | (rw [if_neg (by assumption)]; exact f4), f5, f6, f7, f8, f9, f10, f11, f12, f13, f14, f15, f16, hap⟩) d_Md_goes_14
  · skip
    refine lv_iconst (v := 0) hx hb d_Md_goes_5 (by decide) ?_
    refine lv_goto (tgt := 10) hx hb d_Md_goes_6 (by decide) ?_
    refine hb_put (ty := .int) hx hb hts hown hC_Md hK hP hD hS fy 0 (by decide) rfl fl_Md_54 rfl rfl rfl rfl (Nat.le_of_ble_eq_true rfl) d_Md_goes_10 (fun M17 H locs eM18 hP hD hS => ?_)
    have f19 : M17 y = some (.inr (4, [.int 0, .int ho, .int pa, .int tm, .int (nI na), .ref b0, .ref b1, .int (nI np), .ref b2, .ref b3, .ref b4, .ref b5, .ref b6, .ref b7, .ref b8, .ref b9, .ref b10, .ref b11])) := by rw [eM18]; exact hb_up_self
    have f20 : M17 b0 = some (.inl (cJ, 16, .inr (.inl bal))) := by rw [eM18, hb_up_ne (fun q9 => by rw [q9, fy] at g0; cases g0)]; exact g0
    have f21 : M17 b1 = some (.inl (cJ, 16, .inr (.inl mi))) := by rw [eM18, hb_up_ne (fun q9 => by rw [q9, fy] at g1; cases g1)]; exact g1
    have f22 : M17 b2 = some (.inl (cI, 60, .inl ky)) := by rw [eM18, hb_up_ne (fun q9 => by rw [q9, fy] at g2; cases g2)]; exact g2
    have f23 : M17 b3 = some (.inl (cI, 60, .inl ac)) := by rw [eM18, hb_up_ne (fun q9 => by rw [q9, fy] at g3; cases g3)]; exact g3
    have f24 : M17 b4 = some (.inl (cI, 60, .inl st)) := by rw [eM18, hb_up_ne (fun q9 => by rw [q9, fy] at g4; cases g4)]; exact g4
    have f25 : M17 b5 = some (.inl (cJ, 60, .inr (.inl he))) := by rw [eM18, hb_up_ne (fun q9 => by rw [q9, fy] at g5; cases g5)]; exact g5
    have f26 : M17 b6 = some (.inl (cJ, 60, .inr (.inl cl))) := by rw [eM18, hb_up_ne (fun q9 => by rw [q9, fy] at g6; cases g6)]; exact g6
    have f27 : M17 b7 = some (.inl (cI, 60, .inl un)) := by rw [eM18, hb_up_ne (fun q9 => by rw [q9, fy] at g7; cases g7)]; exact g7
    have f28 : M17 b8 = some (.inl (cI, 60, .inl dn)) := by rw [eM18, hb_up_ne (fun q9 => by rw [q9, fy] at g8; cases g8)]; exact g8
    have f29 : M17 b9 = some (.inl (cI, 60, .inl ds)) := by rw [eM18, hb_up_ne (fun q9 => by rw [q9, fy] at g9; cases g9)]; exact g9
    have f30 : M17 b10 = some (.inl (cJ, 60, .inr (.inl dd))) := by rw [eM18, hb_up_ne (fun q9 => by rw [q9, fy] at g10; cases g10)]; exact g10
    have f31 : M17 b11 = some (.inl (cI, 60, .inl dl)) := by rw [eM18, hb_up_ne (fun q9 => by rw [q9, fy] at g11; cases g11)]; exact g11
    refine lv_iload_n hx hb d_Md_goes_13 rfl (lv_at hl 1 rfl) ?_
    exact hb_zret hAe hx hb hr (by rcases hz1 with rfl | rfl <;> decide) hlocks hP hD hS (Nat.le_of_ble_eq_true rfl) (Nat.le_of_ble_eq_true rfl) (⟨rfl, by first | (rw [if_pos (by assumption)]; exact f19) | (rw [if_neg (by assumption)]; exact f19), f20, f21, f22, f23, f24, f25, f26, f27, f28, f29, f30, f31, hap⟩) d_Md_goes_14
set_option maxHeartbeats 4000000 in
set_option maxRecDepth 100000 in
/-- isKey(k) -/
theorem c_Md_isKey {l : Launch} {s0 : State} {D : va_G} {cI cJ cO : ClassId} {e0 mi : Nat} (hE : hb_E l s0 D cI cJ cO e0 mi) (M : hb_M) (k : Int32) : hb_Met l D hb_cl s0 y_Md_isKey b_Md_isKey 1 (some .boolean) { frames := 0, cells := 0, slots := 0, locals := 0 } [.int k] M (fun v M1 => v = some (.int (if k < 0 ∨ 1000000 < k then 0 else 1)) ∧ M1 = M) := by
  refine hb_Met.of (by decide) (Nat.le_of_ble_eq_true rfl) ?_
  intro p e s m below meth c A hAe hX hz hP hD hA hS ls hl
  obtain ⟨hx, hb, hr, hml, hown, hlocks, hnm, hG, hnh⟩ := id hX
  have hown : s.vm.findClass "HoldBookModel" = some m.cls := hown
  have hts := hE.ts hG ([.int k] : List Value).toArray
  have hK := hE.kn hG
  have hl : lv_has ls 1 [(0, .int k)] := hl
  refine lv_iload_n hx hb d_Md_isKey_0 rfl (lv_at hl 0 rfl) ?_
  refine lv_if_lt (tgt := 14) hx hb d_Md_isKey_1 (by decide) (fun c1 => ?_) (fun c1 => ?_)
  · skip
    refine lv_iconst (v := 0) hx hb d_Md_isKey_14 (by decide) ?_
    exact hb_zret hAe hx hb hr (by decide) hlocks hP hD hS (Nat.le_of_ble_eq_true rfl) (Nat.le_of_ble_eq_true rfl) (⟨by first | rw [if_pos (Or.inl (by assumption))] | rw [if_pos (Or.inr (by assumption))] | rw [if_neg (not_or.mpr ⟨by assumption, by assumption⟩)], rfl⟩) d_Md_isKey_15
  · skip
    refine lv_iload_n hx hb d_Md_isKey_4 rfl (lv_at hl 0 rfl) ?_
    refine lv_ldc (v := 1000000) hx hb hown (hts _ kc_Md_57) d_Md_isKey_5 ?_
    refine lv_icmp_gt (tgt := 14) hx hb d_Md_isKey_7 (by decide) (fun c2 => ?_) (fun c2 => ?_)
    · skip
      refine lv_iconst (v := 0) hx hb d_Md_isKey_14 (by decide) ?_
      exact hb_zret hAe hx hb hr (by decide) hlocks hP hD hS (Nat.le_of_ble_eq_true rfl) (Nat.le_of_ble_eq_true rfl) (⟨by first | rw [if_pos (Or.inl (by assumption))] | rw [if_pos (Or.inr (by assumption))] | rw [if_neg (not_or.mpr ⟨by assumption, by assumption⟩)], rfl⟩) d_Md_isKey_15
    · skip
      refine lv_iconst (v := 1) hx hb d_Md_isKey_10 (by decide) ?_
      refine lv_goto (tgt := 15) hx hb d_Md_isKey_11 (by decide) ?_
      exact hb_zret hAe hx hb hr (by decide) hlocks hP hD hS (Nat.le_of_ble_eq_true rfl) (Nat.le_of_ble_eq_true rfl) (⟨by first | rw [if_pos (Or.inl (by assumption))] | rw [if_pos (Or.inr (by assumption))] | rw [if_neg (not_or.mpr ⟨by assumption, by assumption⟩)], rfl⟩) d_Md_isKey_15
set_option maxHeartbeats 4000000 in
set_option maxRecDepth 100000 in
/-- isAmount(k) -/
theorem c_Md_isAmount {l : Launch} {s0 : State} {D : va_G} {cI cJ cO : ClassId} {e0 mi : Nat} (hE : hb_E l s0 D cI cJ cO e0 mi) (M : hb_M) (k : Int64) : hb_Met l D hb_cl s0 y_Md_isAmount b_Md_isAmount 2 (some .boolean) { frames := 0, cells := 0, slots := 0, locals := 0 } [.long k] M (fun v M1 => v = some (.int (if k < 1 ∨ 1000000000000 < k then 0 else 1)) ∧ M1 = M) := by
  refine hb_Met.of (by decide) (Nat.le_of_ble_eq_true rfl) ?_
  intro p e s m below meth c A hAe hX hz hP hD hA hS ls hl
  obtain ⟨hx, hb, hr, hml, hown, hlocks, hnm, hG, hnh⟩ := id hX
  have hown : s.vm.findClass "HoldBookModel" = some m.cls := hown
  have hts := hE.ts hG ([.long k] : List Value).toArray
  have hK := hE.kn hG
  have hl : lv_has ls 2 [(0, .long k)] := hl
  refine lv_lload_n hx hb d_Md_isAmount_0 rfl (lv_at hl 0 rfl) ?_
  refine lv_lconst (v := 1) hx hb d_Md_isAmount_1 (by decide) ?_
  refine hb_lc_lt (tgt := 18) hx hb d_Md_isAmount_2 d_Md_isAmount_3 (by decide) (fun c1 => ?_) (fun c1 => ?_)
  · skip
    refine lv_iconst (v := 0) hx hb d_Md_isAmount_18 (by decide) ?_
    exact hb_zret hAe hx hb hr (by decide) hlocks hP hD hS (Nat.le_of_ble_eq_true rfl) (Nat.le_of_ble_eq_true rfl) (⟨by first | rw [if_pos (Or.inl (by assumption))] | rw [if_pos (Or.inr (by assumption))] | rw [if_neg (not_or.mpr ⟨by assumption, by assumption⟩)], rfl⟩) d_Md_isAmount_19
  · skip
    refine lv_lload_n hx hb d_Md_isAmount_6 rfl (lv_at hl 0 rfl) ?_
    refine lv_ldc2 (v := 1000000000000) hx hb hown (hts _ kc_Md_58) d_Md_isAmount_7 ?_
    refine hb_lc_gt (tgt := 18) hx hb d_Md_isAmount_10 d_Md_isAmount_11 (by decide) (fun c2 => ?_) (fun c2 => ?_)
    · skip
      refine lv_iconst (v := 0) hx hb d_Md_isAmount_18 (by decide) ?_
      exact hb_zret hAe hx hb hr (by decide) hlocks hP hD hS (Nat.le_of_ble_eq_true rfl) (Nat.le_of_ble_eq_true rfl) (⟨by first | rw [if_pos (Or.inl (by assumption))] | rw [if_pos (Or.inr (by assumption))] | rw [if_neg (not_or.mpr ⟨by assumption, by assumption⟩)], rfl⟩) d_Md_isAmount_19
    · skip
      refine lv_iconst (v := 1) hx hb d_Md_isAmount_14 (by decide) ?_
      refine lv_goto (tgt := 19) hx hb d_Md_isAmount_15 (by decide) ?_
      exact hb_zret hAe hx hb hr (by decide) hlocks hP hD hS (Nat.le_of_ble_eq_true rfl) (Nat.le_of_ble_eq_true rfl) (⟨by first | rw [if_pos (Or.inl (by assumption))] | rw [if_pos (Or.inr (by assumption))] | rw [if_neg (not_or.mpr ⟨by assumption, by assumption⟩)], rfl⟩) d_Md_isAmount_19
set_option maxHeartbeats 4000000 in
set_option maxRecDepth 100000 in
/-- place(k) -/
theorem c_Md_place {l : Launch} {s0 : State} {D : va_G} {cI cJ cO : ClassId} {e0 mi : Nat} (hE : hb_E l s0 D cI cJ cO e0 mi) (M : hb_M) (y b0 b1 b2 b3 b4 b5 b6 b7 b8 b9 b10 b11 : Nat) (cd ho pa tm : Int32) (na np : Nat) (bal mi : Nat → Int64) (ky ac st : Nat → Int32) (he cl : Nat → Int64) (un dn ds : Nat → Int32) (dd : Nat → Int64) (dl : Nat → Int32) (h : mR cI cJ M y b0 b1 b2 b3 b4 b5 b6 b7 b8 b9 b10 b11 cd ho pa tm na np bal mi ky ac st he cl un dn ds dd dl) (hna : na ≤ 16) (hnp : np ≤ 60) (k : Int32) : hb_Met l D hb_cl s0 y_Md_place b_Md_place 4 (some .int) { frames := 0, cells := 0, slots := 0, locals := 0 } [.ref y, .int k] M (fun v M1 => v = some (.int (hb_plc ky k np)) ∧ M1 = M) := by
  refine hb_Met.of (by decide) (Nat.le_of_ble_eq_true rfl) ?_
  intro p e s m below meth c A hAe hX hz hP hD hA hS ls hl
  obtain ⟨hx, hb, hr, hml, hown, hlocks, hnm, hG, hnh⟩ := id hX
  have hown : s.vm.findClass "HoldBookModel" = some m.cls := hown
  have hts := hE.ts hG ([.ref y, .int k] : List Value).toArray
  have hK := hE.kn hG
  have hl : lv_has ls 4 [(0, .ref y), (1, .int k)] := hl
  obtain ⟨fy, g0, g1, g2, g3, g4, g5, g6, g7, g8, g9, g10, g11, hap⟩ := id h
  refine lv_iconst (v := (-1)) hx hb d_Md_place_0 (by decide) ?_
  refine lv_istore_n (lv' := [(2, .int (-1)), (0, .ref y), (1, .int k)]) hx hb d_Md_place_1 rfl hl (by decide) rfl (fun ls hl => ?_)
  refine lv_iconst (v := 0) hx hb d_Md_place_2 (by decide) ?_
  refine lv_istore_n (lv' := [(3, .int 0), (2, .int (-1)), (0, .ref y), (1, .int k)]) hx hb d_Md_place_3 rfl hl (by decide) rfl (fun ls hl => ?_)
  have loop : ∀ (d j : Nat), np - j < d → j ≤ np → True → ∀ (H : Heap) (locs : List Loc), hb_P D hb_cl M H → hb_D A M → va_S A s.heap H locs → ∀ ls : Array Slot, lv_has ls 4 [(3, .int (nI j)), (2, .int (hb_plc ky k j)), (0, .ref y), (1, .int k)] → W p l e ({ frames := 0, cells := 0, slots := 0, locals := 0 } : Room) s m ([.ref y, .int k] : List Value).toArray below meth c H locs 0 0 (MQ below (hb_Post D hb_cl s.heap.size M (fun v M1 => v = some (.int (hb_plc ky k np)) ∧ M1 = M)) ([.ref y, .int k] : List Value).toArray s 0 0 A) (F0 m 4 ls []) := by
    intro d
    induction d with
    | zero => intro j h9; exact absurd h9 (by omega)
    | succ d ih =>
      intro j hd hjn hinv H locs hP hD hS ls hl
      refine lv_iload_n hx hb d_Md_place_4 rfl (lv_at hl 0 rfl) ?_
      refine lv_aload_n hx hb d_Md_place_5 rfl (lv_at hl 2 rfl) ?_
      refine hb_get hx hb hts hown hC_Md hK hP fy 7 (by decide) rfl fl_Md_60 rfl d_Md_place_6 ?_
      refine lv_icmp_ge (tgt := 34) hx hb d_Md_place_9 (by decide) (fun c1 => ?_) (fun c1 => ?_)
      · skip
        have c1n := hb_ngti c1
        have hje : j = np := Nat.le_antisymm hjn (by have := (nI_leI (by omega) (by omega)).mp c1; omega)
        refine lv_iload_n hx hb d_Md_place_34 rfl (lv_at hl 1 rfl) ?_
        exact hb_iret hAe hx hb hr hlocks hP hD hS (Nat.le_of_ble_eq_true rfl) (Nat.le_of_ble_eq_true rfl) (⟨by rw [hje], rfl⟩) d_Md_place_35
      · skip
        have c1n := hb_gti c1
        have hjlt : j < np := Nat.lt_of_not_le (fun z => c1 (nI_le z (by omega)))
        refine lv_aload_n hx hb d_Md_place_12 rfl (lv_at hl 2 rfl) ?_
        refine hb_get hx hb hts hown hC_Md hK hP fy 8 (by decide) rfl fl_Md_16 rfl d_Md_place_13 ?_
        refine lv_iload_n hx hb d_Md_place_16 rfl (lv_at hl 0 rfl) ?_
        refine va_iald hx hb hK (hP.one g2) 0 0 rfl rfl (vp_in_nI (by omega) (by omega)) d_Md_place_17 ?_
        refine W.eq (g2 := F0 m 18 ls [.int (ky j)]) (by rw [nI_clamp (show j < 2 ^ 31 by omega)]) ?_
        refine lv_iload_n hx hb d_Md_place_18 rfl (lv_at hl 3 rfl) ?_
        refine lv_icmp_ne (tgt := 26) hx hb d_Md_place_19 (by decide) (fun c2 => ?_) (fun c2 => ?_)
        · skip
          refine lv_iload_n hx hb d_Md_place_26 rfl (lv_at hl 1 rfl) ?_
          refine lv_istore_n (lv' := [(2, .int (hb_plc ky k j)), (3, .int (nI j)), (0, .ref y), (1, .int k)]) hx hb d_Md_place_27 rfl hl (by decide) rfl (fun ls hl => ?_)
          refine lv_iinc (v := (nI j) + 1) (lv' := [(3, .int ((nI j) + 1)), (2, .int (hb_plc ky k j)), (0, .ref y), (1, .int k)]) hx hb d_Md_place_28 hl (k := 1) rfl (by rfl) (by decide) rfl (fun ls hl => ?_)
          refine lv_goto (tgt := 4) hx hb d_Md_place_31 (by decide) ?_
          have hl : lv_has ls 4 [(3, .int (nI (j + 1))), (2, .int (hb_plc ky k (j + 1))), (0, .ref y), (1, .int k)] := by rw [← nI_1, show hb_plc ky k (j + 1) = (if ky j = k then nI j else hb_plc ky k j) from rfl, if_neg c2]; exact lv_sub hl [0, 1, 2, 3] rfl
          exact ih (j + 1) (by omega) (by omega) trivial _ _ hP hD hS _ hl
        · skip
          refine lv_iload_n hx hb d_Md_place_22 rfl (lv_at hl 0 rfl) ?_
          refine lv_goto (tgt := 27) hx hb d_Md_place_23 (by decide) ?_
          refine lv_istore_n (lv' := [(2, .int (nI j)), (3, .int (nI j)), (0, .ref y), (1, .int k)]) hx hb d_Md_place_27 rfl hl (by decide) rfl (fun ls hl => ?_)
          refine lv_iinc (v := (nI j) + 1) (lv' := [(3, .int ((nI j) + 1)), (2, .int (nI j)), (0, .ref y), (1, .int k)]) hx hb d_Md_place_28 hl (k := 1) rfl (by rfl) (by decide) rfl (fun ls hl => ?_)
          refine lv_goto (tgt := 4) hx hb d_Md_place_31 (by decide) ?_
          have hl : lv_has ls 4 [(3, .int (nI (j + 1))), (2, .int (hb_plc ky k (j + 1))), (0, .ref y), (1, .int k)] := by rw [← nI_1, show hb_plc ky k (j + 1) = (if ky j = k then nI j else hb_plc ky k j) from rfl, if_pos c2]; exact lv_sub hl [0, 1, 2, 3] rfl
          exact ih (j + 1) (by omega) (by omega) trivial _ _ hP hD hS _ hl
  exact loop (np + 1) 0 (by omega) (by omega) trivial _ _ hP hD hS _ (lv_sub hl [0, 1, 2, 3] rfl)
set_option maxHeartbeats 4000000 in
set_option maxRecDepth 100000 in
/-- heldOf(k) -/
theorem c_Md_heldOf {l : Launch} {s0 : State} {D : va_G} {cI cJ cO : ClassId} {e0 mi : Nat} (hE : hb_E l s0 D cI cJ cO e0 mi) (M : hb_M) (y b0 b1 b2 b3 b4 b5 b6 b7 b8 b9 b10 b11 : Nat) (cd ho pa tm : Int32) (na np : Nat) (bal mi : Nat → Int64) (ky ac st : Nat → Int32) (he cl : Nat → Int64) (un dn ds : Nat → Int32) (dd : Nat → Int64) (dl : Nat → Int32) (h : mR cI cJ M y b0 b1 b2 b3 b4 b5 b6 b7 b8 b9 b10 b11 cd ho pa tm na np bal mi ky ac st he cl un dn ds dd dl) (hna : na ≤ 16) (hnp : np ≤ 60) (k : Int32) : hb_Met l D hb_cl s0 y_Md_heldOf b_Md_heldOf 5 (some .long) { frames := 0, cells := 0, slots := 0, locals := 0 } [.ref y, .int k] M (fun v M1 => v = some (.long (hb_sm (fun p => if ac p = k then he p else 0) np)) ∧ M1 = M) := by
  refine hb_Met.of (by decide) (Nat.le_of_ble_eq_true rfl) ?_
  intro p e s m below meth c A hAe hX hz hP hD hA hS ls hl
  obtain ⟨hx, hb, hr, hml, hown, hlocks, hnm, hG, hnh⟩ := id hX
  have hown : s.vm.findClass "HoldBookModel" = some m.cls := hown
  have hts := hE.ts hG ([.ref y, .int k] : List Value).toArray
  have hK := hE.kn hG
  have hl : lv_has ls 5 [(0, .ref y), (1, .int k)] := hl
  obtain ⟨fy, g0, g1, g2, g3, g4, g5, g6, g7, g8, g9, g10, g11, hap⟩ := id h
  refine lv_lconst (v := 0) hx hb d_Md_heldOf_0 (by decide) ?_
  refine lv_lstore_n (lv' := [(2, .long 0), (0, .ref y), (1, .int k)]) hx hb d_Md_heldOf_1 rfl hl (by decide) rfl (fun ls hl => ?_)
  refine lv_iconst (v := 0) hx hb d_Md_heldOf_2 (by decide) ?_
  refine lv_istore (lv' := [(4, .int 0), (2, .long 0), (0, .ref y), (1, .int k)]) hx hb d_Md_heldOf_3 hl (by decide) rfl (fun ls hl => ?_)
  have loop : ∀ (d j : Nat), np - j < d → j ≤ np → True → ∀ (H : Heap) (locs : List Loc), hb_P D hb_cl M H → hb_D A M → va_S A s.heap H locs → ∀ ls : Array Slot, lv_has ls 5 [(4, .int (nI j)), (2, .long (hb_sm (fun p => if ac p = k then he p else 0) j)), (0, .ref y), (1, .int k)] → W p l e ({ frames := 0, cells := 0, slots := 0, locals := 0 } : Room) s m ([.ref y, .int k] : List Value).toArray below meth c H locs 0 0 (MQ below (hb_Post D hb_cl s.heap.size M (fun v M1 => v = some (.long (hb_sm (fun p => if ac p = k then he p else 0) np)) ∧ M1 = M)) ([.ref y, .int k] : List Value).toArray s 0 0 A) (F0 m 5 ls []) := by
    intro d
    induction d with
    | zero => intro j h9; exact absurd h9 (by omega)
    | succ d ih =>
      intro j hd hjn hinv H locs hP hD hS ls hl
      refine lv_iload hx hb d_Md_heldOf_5 (lv_at hl 0 rfl) ?_
      refine lv_aload_n hx hb d_Md_heldOf_7 rfl (lv_at hl 2 rfl) ?_
      refine hb_get hx hb hts hown hC_Md hK hP fy 7 (by decide) rfl fl_Md_60 rfl d_Md_heldOf_8 ?_
      refine lv_icmp_ge (tgt := 45) hx hb d_Md_heldOf_11 (by decide) (fun c1 => ?_) (fun c1 => ?_)
      · skip
        have c1n := hb_ngti c1
        have hje : j = np := Nat.le_antisymm hjn (by have := (nI_leI (by omega) (by omega)).mp c1; omega)
        refine lv_lload_n hx hb d_Md_heldOf_45 rfl (lv_at hl 1 rfl) ?_
        exact hb_lret hAe hx hb hr hlocks hP hD hS (Nat.le_of_ble_eq_true rfl) (Nat.le_of_ble_eq_true rfl) (⟨by rw [hje], rfl⟩) d_Md_heldOf_46
      · skip
        have c1n := hb_gti c1
        have hjlt : j < np := Nat.lt_of_not_le (fun z => c1 (nI_le z (by omega)))
        refine lv_lload_n hx hb d_Md_heldOf_14 rfl (lv_at hl 1 rfl) ?_
        refine lv_aload_n hx hb d_Md_heldOf_15 rfl (lv_at hl 2 rfl) ?_
        refine hb_get hx hb hts hown hC_Md hK hP fy 9 (by decide) rfl fl_Md_20 rfl d_Md_heldOf_16 ?_
        refine lv_iload hx hb d_Md_heldOf_19 (lv_at hl 0 rfl) ?_
        refine va_iald hx hb hK (hP.one g3) 0 0 rfl rfl (vp_in_nI (by omega) (by omega)) d_Md_heldOf_21 ?_
        refine W.eq (g2 := F0 m 22 ls [.int (ac j), .long (hb_sm (fun p => if ac p = k then he p else 0) j)]) (by rw [nI_clamp (show j < 2 ^ 31 by omega)]) ?_
        refine lv_iload_n hx hb d_Md_heldOf_22 rfl (lv_at hl 3 rfl) ?_
        refine lv_icmp_ne (tgt := 36) hx hb d_Md_heldOf_23 (by decide) (fun c2 => ?_) (fun c2 => ?_)
        · skip
          have e_h : (fun p => if ac p = k then he p else 0) j = 0 := if_neg c2
          refine lv_lconst (v := 0) hx hb d_Md_heldOf_36 (by decide) ?_
          refine lv_ladd hx hb d_Md_heldOf_37 ?_
          refine lv_lstore_n (lv' := [(2, .long ((hb_sm (fun p => if ac p = k then he p else 0) j) + 0)), (4, .int (nI j)), (0, .ref y), (1, .int k)]) hx hb d_Md_heldOf_38 rfl hl (by decide) rfl (fun ls hl => ?_)
          refine lv_iinc (v := (nI j) + 1) (lv' := [(4, .int ((nI j) + 1)), (2, .long ((hb_sm (fun p => if ac p = k then he p else 0) j) + 0)), (0, .ref y), (1, .int k)]) hx hb d_Md_heldOf_39 hl (k := 1) rfl (by rfl) (by decide) rfl (fun ls hl => ?_)
          refine lv_goto (tgt := 5) hx hb d_Md_heldOf_42 (by decide) ?_
          have hl : lv_has ls 5 [(4, .int (nI (j + 1))), (2, .long (hb_sm (fun p => if ac p = k then he p else 0) (j + 1))), (0, .ref y), (1, .int k)] := by rw [← nI_1, show hb_sm (fun p => if ac p = k then he p else 0) (j + 1) = hb_sm (fun p => if ac p = k then he p else 0) j + (fun p => if ac p = k then he p else 0) j from rfl, e_h]; exact lv_sub hl [0, 1, 2, 3] rfl
          exact ih (j + 1) (by omega) (by omega) trivial _ _ hP hD hS _ hl
        · skip
          have e_h : (fun p => if ac p = k then he p else 0) j = he j := if_pos c2
          refine lv_aload_n hx hb d_Md_heldOf_26 rfl (lv_at hl 2 rfl) ?_
          refine hb_get hx hb hts hown hC_Md hK hP fy 11 (by decide) rfl fl_Md_26 rfl d_Md_heldOf_27 ?_
          refine lv_iload hx hb d_Md_heldOf_30 (lv_at hl 0 rfl) ?_
          refine va_lald hx hb hK (hP.one g5) 0 1 rfl rfl (vp_in_nI (by omega) (by omega)) d_Md_heldOf_32 ?_
          refine W.eq (g2 := F0 m 33 ls [.long (he j), .long (hb_sm (fun p => if ac p = k then he p else 0) j)]) (by rw [nI_clamp (show j < 2 ^ 31 by omega)]) ?_
          refine lv_goto (tgt := 37) hx hb d_Md_heldOf_33 (by decide) ?_
          refine lv_ladd hx hb d_Md_heldOf_37 ?_
          refine lv_lstore_n (lv' := [(2, .long ((hb_sm (fun p => if ac p = k then he p else 0) j) + (he j))), (4, .int (nI j)), (0, .ref y), (1, .int k)]) hx hb d_Md_heldOf_38 rfl hl (by decide) rfl (fun ls hl => ?_)
          refine lv_iinc (v := (nI j) + 1) (lv' := [(4, .int ((nI j) + 1)), (2, .long ((hb_sm (fun p => if ac p = k then he p else 0) j) + (he j))), (0, .ref y), (1, .int k)]) hx hb d_Md_heldOf_39 hl (k := 1) rfl (by rfl) (by decide) rfl (fun ls hl => ?_)
          refine lv_goto (tgt := 5) hx hb d_Md_heldOf_42 (by decide) ?_
          have hl : lv_has ls 5 [(4, .int (nI (j + 1))), (2, .long (hb_sm (fun p => if ac p = k then he p else 0) (j + 1))), (0, .ref y), (1, .int k)] := by rw [← nI_1, show hb_sm (fun p => if ac p = k then he p else 0) (j + 1) = hb_sm (fun p => if ac p = k then he p else 0) j + (fun p => if ac p = k then he p else 0) j from rfl, e_h]; exact lv_sub hl [0, 1, 2, 3] rfl
          exact ih (j + 1) (by omega) (by omega) trivial _ _ hP hD hS _ hl
  exact loop (np + 1) 0 (by omega) (by omega) trivial _ _ hP hD hS _ (lv_sub hl [0, 1, 2, 3] rfl)
set_option maxHeartbeats 4000000 in
set_option maxRecDepth 100000 in
/-- lockedOf(k) -/
theorem c_Md_lockedOf {l : Launch} {s0 : State} {D : va_G} {cI cJ cO : ClassId} {e0 mi : Nat} (hE : hb_E l s0 D cI cJ cO e0 mi) (M : hb_M) (y b0 b1 b2 b3 b4 b5 b6 b7 b8 b9 b10 b11 : Nat) (cd ho pa tm : Int32) (na np : Nat) (bal mi : Nat → Int64) (ky ac st : Nat → Int32) (he cl : Nat → Int64) (un dn ds : Nat → Int32) (dd : Nat → Int64) (dl : Nat → Int32) (h : mR cI cJ M y b0 b1 b2 b3 b4 b5 b6 b7 b8 b9 b10 b11 cd ho pa tm na np bal mi ky ac st he cl un dn ds dd dl) (hna : na ≤ 16) (hnp : np ≤ 60) (k : Int32) : hb_Met l D hb_cl s0 y_Md_lockedOf b_Md_lockedOf 5 (some .long) { frames := 0, cells := 0, slots := 0, locals := 0 } [.ref y, .int k] M (fun v M1 => v = some (.long (hb_sm (fun p => if ac p = k ∧ (ds p = 1 ∨ ds p = 2) then dd p else 0) np)) ∧ M1 = M) := by
  refine hb_Met.of (by decide) (Nat.le_of_ble_eq_true rfl) ?_
  intro p e s m below meth c A hAe hX hz hP hD hA hS ls hl
  obtain ⟨hx, hb, hr, hml, hown, hlocks, hnm, hG, hnh⟩ := id hX
  have hown : s.vm.findClass "HoldBookModel" = some m.cls := hown
  have hts := hE.ts hG ([.ref y, .int k] : List Value).toArray
  have hK := hE.kn hG
  have hl : lv_has ls 5 [(0, .ref y), (1, .int k)] := hl
  obtain ⟨fy, g0, g1, g2, g3, g4, g5, g6, g7, g8, g9, g10, g11, hap⟩ := id h
  refine lv_lconst (v := 0) hx hb d_Md_lockedOf_0 (by decide) ?_
  refine lv_lstore_n (lv' := [(2, .long 0), (0, .ref y), (1, .int k)]) hx hb d_Md_lockedOf_1 rfl hl (by decide) rfl (fun ls hl => ?_)
  refine lv_iconst (v := 0) hx hb d_Md_lockedOf_2 (by decide) ?_
  refine lv_istore (lv' := [(4, .int 0), (2, .long 0), (0, .ref y), (1, .int k)]) hx hb d_Md_lockedOf_3 hl (by decide) rfl (fun ls hl => ?_)
  have loop : ∀ (d j : Nat), np - j < d → j ≤ np → True → ∀ (H : Heap) (locs : List Loc), hb_P D hb_cl M H → hb_D A M → va_S A s.heap H locs → ∀ ls : Array Slot, lv_has ls 5 [(4, .int (nI j)), (2, .long (hb_sm (fun p => if ac p = k ∧ (ds p = 1 ∨ ds p = 2) then dd p else 0) j)), (0, .ref y), (1, .int k)] → W p l e ({ frames := 0, cells := 0, slots := 0, locals := 0 } : Room) s m ([.ref y, .int k] : List Value).toArray below meth c H locs 0 0 (MQ below (hb_Post D hb_cl s.heap.size M (fun v M1 => v = some (.long (hb_sm (fun p => if ac p = k ∧ (ds p = 1 ∨ ds p = 2) then dd p else 0) np)) ∧ M1 = M)) ([.ref y, .int k] : List Value).toArray s 0 0 A) (F0 m 5 ls []) := by
    intro d
    induction d with
    | zero => intro j h9; exact absurd h9 (by omega)
    | succ d ih =>
      intro j hd hjn hinv H locs hP hD hS ls hl
      refine lv_iload hx hb d_Md_lockedOf_5 (lv_at hl 0 rfl) ?_
      refine lv_aload_n hx hb d_Md_lockedOf_7 rfl (lv_at hl 2 rfl) ?_
      refine hb_get hx hb hts hown hC_Md hK hP fy 7 (by decide) rfl fl_Md_60 rfl d_Md_lockedOf_8 ?_
      refine lv_icmp_ge (tgt := 67) hx hb d_Md_lockedOf_11 (by decide) (fun c1 => ?_) (fun c1 => ?_)
      · skip
        have c1n := hb_ngti c1
        have hje : j = np := Nat.le_antisymm hjn (by have := (nI_leI (by omega) (by omega)).mp c1; omega)
        refine lv_lload_n hx hb d_Md_lockedOf_67 rfl (lv_at hl 1 rfl) ?_
        exact hb_lret hAe hx hb hr hlocks hP hD hS (Nat.le_of_ble_eq_true rfl) (Nat.le_of_ble_eq_true rfl) (⟨by rw [hje], rfl⟩) d_Md_lockedOf_68
      · skip
        have c1n := hb_gti c1
        have hjlt : j < np := Nat.lt_of_not_le (fun z => c1 (nI_le z (by omega)))
        refine lv_lload_n hx hb d_Md_lockedOf_14 rfl (lv_at hl 1 rfl) ?_
        refine lv_aload_n hx hb d_Md_lockedOf_15 rfl (lv_at hl 2 rfl) ?_
        refine hb_get hx hb hts hown hC_Md hK hP fy 9 (by decide) rfl fl_Md_20 rfl d_Md_lockedOf_16 ?_
        refine lv_iload hx hb d_Md_lockedOf_19 (lv_at hl 0 rfl) ?_
        refine va_iald hx hb hK (hP.one g3) 0 0 rfl rfl (vp_in_nI (by omega) (by omega)) d_Md_lockedOf_21 ?_
        refine W.eq (g2 := F0 m 22 ls [.int (ac j), .long (hb_sm (fun p => if ac p = k ∧ (ds p = 1 ∨ ds p = 2) then dd p else 0) j)]) (by rw [nI_clamp (show j < 2 ^ 31 by omega)]) ?_
        refine lv_iload_n hx hb d_Md_lockedOf_22 rfl (lv_at hl 3 rfl) ?_
        refine lv_icmp_ne (tgt := 58) hx hb d_Md_lockedOf_23 (by decide) (fun c2 => ?_) (fun c2 => ?_)
        · skip
          have e_h : (fun p => if ac p = k ∧ (ds p = 1 ∨ ds p = 2) then dd p else 0) j = 0 := if_neg (fun z => c2 z.1)
          refine lv_lconst (v := 0) hx hb d_Md_lockedOf_58 (by decide) ?_
          refine lv_ladd hx hb d_Md_lockedOf_59 ?_
          refine lv_lstore_n (lv' := [(2, .long ((hb_sm (fun p => if ac p = k ∧ (ds p = 1 ∨ ds p = 2) then dd p else 0) j) + 0)), (4, .int (nI j)), (0, .ref y), (1, .int k)]) hx hb d_Md_lockedOf_60 rfl hl (by decide) rfl (fun ls hl => ?_)
          refine lv_iinc (v := (nI j) + 1) (lv' := [(4, .int ((nI j) + 1)), (2, .long ((hb_sm (fun p => if ac p = k ∧ (ds p = 1 ∨ ds p = 2) then dd p else 0) j) + 0)), (0, .ref y), (1, .int k)]) hx hb d_Md_lockedOf_61 hl (k := 1) rfl (by rfl) (by decide) rfl (fun ls hl => ?_)
          refine lv_goto (tgt := 5) hx hb d_Md_lockedOf_64 (by decide) ?_
          have hl : lv_has ls 5 [(4, .int (nI (j + 1))), (2, .long (hb_sm (fun p => if ac p = k ∧ (ds p = 1 ∨ ds p = 2) then dd p else 0) (j + 1))), (0, .ref y), (1, .int k)] := by rw [← nI_1, show hb_sm (fun p => if ac p = k ∧ (ds p = 1 ∨ ds p = 2) then dd p else 0) (j + 1) = hb_sm (fun p => if ac p = k ∧ (ds p = 1 ∨ ds p = 2) then dd p else 0) j + (fun p => if ac p = k ∧ (ds p = 1 ∨ ds p = 2) then dd p else 0) j from rfl, e_h]; exact lv_sub hl [0, 1, 2, 3] rfl
          exact ih (j + 1) (by omega) (by omega) trivial _ _ hP hD hS _ hl
        · skip
          refine lv_aload_n hx hb d_Md_lockedOf_26 rfl (lv_at hl 2 rfl) ?_
          refine hb_get hx hb hts hown hC_Md hK hP fy 15 (by decide) rfl fl_Md_38 rfl d_Md_lockedOf_27 ?_
          refine lv_iload hx hb d_Md_lockedOf_30 (lv_at hl 0 rfl) ?_
          refine va_iald hx hb hK (hP.one g9) 0 0 rfl rfl (vp_in_nI (by omega) (by omega)) d_Md_lockedOf_32 ?_
          refine W.eq (g2 := F0 m 33 ls [.int (ds j), .long (hb_sm (fun p => if ac p = k ∧ (ds p = 1 ∨ ds p = 2) then dd p else 0) j)]) (by rw [nI_clamp (show j < 2 ^ 31 by omega)]) ?_
          refine lv_iconst (v := 1) hx hb d_Md_lockedOf_33 (by decide) ?_
          refine lv_icmp_eq (tgt := 48) hx hb d_Md_lockedOf_34 (by decide) (fun c3 => ?_) (fun c3 => ?_)
          · skip
            have e_h : (fun p => if ac p = k ∧ (ds p = 1 ∨ ds p = 2) then dd p else 0) j = dd j := if_pos ⟨c2, Or.inl c3⟩
            refine lv_aload_n hx hb d_Md_lockedOf_48 rfl (lv_at hl 2 rfl) ?_
            refine hb_get hx hb hts hown hC_Md hK hP fy 16 (by decide) rfl fl_Md_41 rfl d_Md_lockedOf_49 ?_
            refine lv_iload hx hb d_Md_lockedOf_52 (lv_at hl 0 rfl) ?_
            refine va_lald hx hb hK (hP.one g10) 0 1 rfl rfl (vp_in_nI (by omega) (by omega)) d_Md_lockedOf_54 ?_
            refine W.eq (g2 := F0 m 55 ls [.long (dd j), .long (hb_sm (fun p => if ac p = k ∧ (ds p = 1 ∨ ds p = 2) then dd p else 0) j)]) (by rw [nI_clamp (show j < 2 ^ 31 by omega)]) ?_
            refine lv_goto (tgt := 59) hx hb d_Md_lockedOf_55 (by decide) ?_
            refine lv_ladd hx hb d_Md_lockedOf_59 ?_
            refine lv_lstore_n (lv' := [(2, .long ((hb_sm (fun p => if ac p = k ∧ (ds p = 1 ∨ ds p = 2) then dd p else 0) j) + (dd j))), (4, .int (nI j)), (0, .ref y), (1, .int k)]) hx hb d_Md_lockedOf_60 rfl hl (by decide) rfl (fun ls hl => ?_)
            refine lv_iinc (v := (nI j) + 1) (lv' := [(4, .int ((nI j) + 1)), (2, .long ((hb_sm (fun p => if ac p = k ∧ (ds p = 1 ∨ ds p = 2) then dd p else 0) j) + (dd j))), (0, .ref y), (1, .int k)]) hx hb d_Md_lockedOf_61 hl (k := 1) rfl (by rfl) (by decide) rfl (fun ls hl => ?_)
            refine lv_goto (tgt := 5) hx hb d_Md_lockedOf_64 (by decide) ?_
            have hl : lv_has ls 5 [(4, .int (nI (j + 1))), (2, .long (hb_sm (fun p => if ac p = k ∧ (ds p = 1 ∨ ds p = 2) then dd p else 0) (j + 1))), (0, .ref y), (1, .int k)] := by rw [← nI_1, show hb_sm (fun p => if ac p = k ∧ (ds p = 1 ∨ ds p = 2) then dd p else 0) (j + 1) = hb_sm (fun p => if ac p = k ∧ (ds p = 1 ∨ ds p = 2) then dd p else 0) j + (fun p => if ac p = k ∧ (ds p = 1 ∨ ds p = 2) then dd p else 0) j from rfl, e_h]; exact lv_sub hl [0, 1, 2, 3] rfl
            exact ih (j + 1) (by omega) (by omega) trivial _ _ hP hD hS _ hl
          · skip
            refine lv_aload_n hx hb d_Md_lockedOf_37 rfl (lv_at hl 2 rfl) ?_
            refine hb_get hx hb hts hown hC_Md hK hP fy 15 (by decide) rfl fl_Md_38 rfl d_Md_lockedOf_38 ?_
            refine lv_iload hx hb d_Md_lockedOf_41 (lv_at hl 0 rfl) ?_
            refine va_iald hx hb hK (hP.one g9) 0 0 rfl rfl (vp_in_nI (by omega) (by omega)) d_Md_lockedOf_43 ?_
            refine W.eq (g2 := F0 m 44 ls [.int (ds j), .long (hb_sm (fun p => if ac p = k ∧ (ds p = 1 ∨ ds p = 2) then dd p else 0) j)]) (by rw [nI_clamp (show j < 2 ^ 31 by omega)]) ?_
            refine lv_iconst (v := 2) hx hb d_Md_lockedOf_44 (by decide) ?_
            refine lv_icmp_ne (tgt := 58) hx hb d_Md_lockedOf_45 (by decide) (fun c4 => ?_) (fun c4 => ?_)
            · skip
              have e_h : (fun p => if ac p = k ∧ (ds p = 1 ∨ ds p = 2) then dd p else 0) j = 0 := if_neg (fun z => by rcases z.2 with y9 | y9; exact c3 y9; exact c4 y9)
              refine lv_lconst (v := 0) hx hb d_Md_lockedOf_58 (by decide) ?_
              refine lv_ladd hx hb d_Md_lockedOf_59 ?_
              refine lv_lstore_n (lv' := [(2, .long ((hb_sm (fun p => if ac p = k ∧ (ds p = 1 ∨ ds p = 2) then dd p else 0) j) + 0)), (4, .int (nI j)), (0, .ref y), (1, .int k)]) hx hb d_Md_lockedOf_60 rfl hl (by decide) rfl (fun ls hl => ?_)
              refine lv_iinc (v := (nI j) + 1) (lv' := [(4, .int ((nI j) + 1)), (2, .long ((hb_sm (fun p => if ac p = k ∧ (ds p = 1 ∨ ds p = 2) then dd p else 0) j) + 0)), (0, .ref y), (1, .int k)]) hx hb d_Md_lockedOf_61 hl (k := 1) rfl (by rfl) (by decide) rfl (fun ls hl => ?_)
              refine lv_goto (tgt := 5) hx hb d_Md_lockedOf_64 (by decide) ?_
              have hl : lv_has ls 5 [(4, .int (nI (j + 1))), (2, .long (hb_sm (fun p => if ac p = k ∧ (ds p = 1 ∨ ds p = 2) then dd p else 0) (j + 1))), (0, .ref y), (1, .int k)] := by rw [← nI_1, show hb_sm (fun p => if ac p = k ∧ (ds p = 1 ∨ ds p = 2) then dd p else 0) (j + 1) = hb_sm (fun p => if ac p = k ∧ (ds p = 1 ∨ ds p = 2) then dd p else 0) j + (fun p => if ac p = k ∧ (ds p = 1 ∨ ds p = 2) then dd p else 0) j from rfl, e_h]; exact lv_sub hl [0, 1, 2, 3] rfl
              exact ih (j + 1) (by omega) (by omega) trivial _ _ hP hD hS _ hl
            · skip
              have e_h : (fun p => if ac p = k ∧ (ds p = 1 ∨ ds p = 2) then dd p else 0) j = dd j := if_pos ⟨c2, Or.inr c4⟩
              refine lv_aload_n hx hb d_Md_lockedOf_48 rfl (lv_at hl 2 rfl) ?_
              refine hb_get hx hb hts hown hC_Md hK hP fy 16 (by decide) rfl fl_Md_41 rfl d_Md_lockedOf_49 ?_
              refine lv_iload hx hb d_Md_lockedOf_52 (lv_at hl 0 rfl) ?_
              refine va_lald hx hb hK (hP.one g10) 0 1 rfl rfl (vp_in_nI (by omega) (by omega)) d_Md_lockedOf_54 ?_
              refine W.eq (g2 := F0 m 55 ls [.long (dd j), .long (hb_sm (fun p => if ac p = k ∧ (ds p = 1 ∨ ds p = 2) then dd p else 0) j)]) (by rw [nI_clamp (show j < 2 ^ 31 by omega)]) ?_
              refine lv_goto (tgt := 59) hx hb d_Md_lockedOf_55 (by decide) ?_
              refine lv_ladd hx hb d_Md_lockedOf_59 ?_
              refine lv_lstore_n (lv' := [(2, .long ((hb_sm (fun p => if ac p = k ∧ (ds p = 1 ∨ ds p = 2) then dd p else 0) j) + (dd j))), (4, .int (nI j)), (0, .ref y), (1, .int k)]) hx hb d_Md_lockedOf_60 rfl hl (by decide) rfl (fun ls hl => ?_)
              refine lv_iinc (v := (nI j) + 1) (lv' := [(4, .int ((nI j) + 1)), (2, .long ((hb_sm (fun p => if ac p = k ∧ (ds p = 1 ∨ ds p = 2) then dd p else 0) j) + (dd j))), (0, .ref y), (1, .int k)]) hx hb d_Md_lockedOf_61 hl (k := 1) rfl (by rfl) (by decide) rfl (fun ls hl => ?_)
              refine lv_goto (tgt := 5) hx hb d_Md_lockedOf_64 (by decide) ?_
              have hl : lv_has ls 5 [(4, .int (nI (j + 1))), (2, .long (hb_sm (fun p => if ac p = k ∧ (ds p = 1 ∨ ds p = 2) then dd p else 0) (j + 1))), (0, .ref y), (1, .int k)] := by rw [← nI_1, show hb_sm (fun p => if ac p = k ∧ (ds p = 1 ∨ ds p = 2) then dd p else 0) (j + 1) = hb_sm (fun p => if ac p = k ∧ (ds p = 1 ∨ ds p = 2) then dd p else 0) j + (fun p => if ac p = k ∧ (ds p = 1 ∨ ds p = 2) then dd p else 0) j from rfl, e_h]; exact lv_sub hl [0, 1, 2, 3] rfl
              exact ih (j + 1) (by omega) (by omega) trivial _ _ hP hD hS _ hl
  exact loop (np + 1) 0 (by omega) (by omega) trivial _ _ hP hD hS _ (lv_sub hl [0, 1, 2, 3] rfl)
set_option maxHeartbeats 4000000 in
set_option maxRecDepth 100000 in
/-- freeOf(ka) -/
theorem c_Md_freeOf {l : Launch} {s0 : State} {D : va_G} {cI cJ cO : ClassId} {e0 mi : Nat} (hE : hb_E l s0 D cI cJ cO e0 mi) (M : hb_M) (y b0 b1 b2 b3 b4 b5 b6 b7 b8 b9 b10 b11 : Nat) (cd ho pa tm : Int32) (na np : Nat) (bal mi : Nat → Int64) (ky ac st : Nat → Int32) (he cl : Nat → Int64) (un dn ds : Nat → Int32) (dd : Nat → Int64) (dl : Nat → Int32) (h : mR cI cJ M y b0 b1 b2 b3 b4 b5 b6 b7 b8 b9 b10 b11 cd ho pa tm na np bal mi ky ac st he cl un dn ds dd dl) (hna : na ≤ 16) (hnp : np ≤ 60) (ka : Nat) (hka : ka < 16) : hb_Met l D hb_cl s0 y_Md_freeOf b_Md_freeOf 2 (some .long) { frames := 1, cells := 0, slots := 0, locals := 24 } [.ref y, .int (nI ka)] M (fun v M1 => v = some (.long (bal ka - mi ka - hb_sm (fun p => if ac p = (nI ka) then he p else 0) np - hb_sm (fun p => if ac p = (nI ka) ∧ (ds p = 1 ∨ ds p = 2) then dd p else 0) np)) ∧ M1 = M) := by
  refine hb_Met.of (by decide) (Nat.le_of_ble_eq_true rfl) ?_
  intro p e s m below meth c A hAe hX hz hP hD hA hS ls hl
  obtain ⟨hx, hb, hr, hml, hown, hlocks, hnm, hG, hnh⟩ := id hX
  have hown : s.vm.findClass "HoldBookModel" = some m.cls := hown
  have hts := hE.ts hG ([.ref y, .int (nI ka)] : List Value).toArray
  have hK := hE.kn hG
  have hl : lv_has ls 2 [(0, .ref y), (1, .int (nI ka))] := hl
  obtain ⟨fy, g0, g1, g2, g3, g4, g5, g6, g7, g8, g9, g10, g11, hap⟩ := id h
  refine lv_aload_n hx hb d_Md_freeOf_0 rfl (lv_at hl 0 rfl) ?_
  refine hb_get hx hb hts hown hC_Md hK hP fy 5 (by decide) rfl fl_Md_7 rfl d_Md_freeOf_1 ?_
  refine lv_iload_n hx hb d_Md_freeOf_4 rfl (lv_at hl 1 rfl) ?_
  refine va_lald hx hb hK (hP.one g0) 0 1 rfl rfl (vp_in_nI (by omega) (by omega)) d_Md_freeOf_5 ?_
  refine W.eq (g2 := F0 m 6 ls [.long (bal ka)]) (by rw [nI_clamp (show ka < 2 ^ 31 by omega)]) ?_
  refine lv_aload_n hx hb d_Md_freeOf_6 rfl (lv_at hl 0 rfl) ?_
  refine hb_get hx hb hts hown hC_Md hK hP fy 6 (by decide) rfl fl_Md_13 rfl d_Md_freeOf_7 ?_
  refine lv_iload_n hx hb d_Md_freeOf_10 rfl (lv_at hl 1 rfl) ?_
  refine va_lald hx hb hK (hP.one g1) 0 1 rfl rfl (vp_in_nI (by omega) (by omega)) d_Md_freeOf_11 ?_
  refine W.eq (g2 := F0 m 12 ls [.long (mi ka), .long (bal ka)]) (by rw [nI_clamp (show ka < 2 ^ 31 by omega)]) ?_
  refine lv_lsub hx hb d_Md_freeOf_12 ?_
  refine lv_aload_n hx hb d_Md_freeOf_13 rfl (lv_at hl 0 rfl) ?_
  refine lv_iload_n hx hb d_Md_freeOf_14 rfl (lv_at hl 1 rfl) ?_
  refine hb_callV (rest := [.long ((bal ka) - (mi ka))]) hX hts hb_gd Y_Md_heldOf (c_Md_heldOf hE M y b0 b1 b2 b3 b4 b5 b6 b7 b8 b9 b10 b11 cd ho pa tm na np bal mi ky ac st he cl un dn ds dd dl h hna hnp (nI ka)) ml_Md_63 im_Md_heldOf se_Md_heldOf hK fy hC_Md.1 hz hP hD hS hA rfl hl.1 rfl (Nat.le_of_ble_eq_true rfl) ⟨Nat.le_of_ble_eq_true rfl, Nat.le_of_ble_eq_true rfl⟩ ⟨Nat.le_of_ble_eq_true rfl, Nat.le_of_ble_eq_true rfl⟩ d_Md_freeOf_15 (fun v3 M1 H locs hq2 hP hD hS _ hkp => ?_)
  obtain ⟨ev4, eM5⟩ := hq2
  subst ev4
  rw [eM5] at hP hD
  refine W.eq (g2 := F0 m 18 ls [.long (hb_sm (fun p => if ac p = (nI ka) then he p else 0) np), .long ((bal ka) - (mi ka))]) rfl ?_
  refine lv_lsub hx hb d_Md_freeOf_18 ?_
  refine lv_aload_n hx hb d_Md_freeOf_19 rfl (lv_at hl 0 rfl) ?_
  refine lv_iload_n hx hb d_Md_freeOf_20 rfl (lv_at hl 1 rfl) ?_
  refine hb_callV (rest := [.long (((bal ka) - (mi ka)) - (hb_sm (fun p => if ac p = (nI ka) then he p else 0) np))]) hX hts hb_gd Y_Md_lockedOf (c_Md_lockedOf hE M y b0 b1 b2 b3 b4 b5 b6 b7 b8 b9 b10 b11 cd ho pa tm na np bal mi ky ac st he cl un dn ds dd dl h hna hnp (nI ka)) ml_Md_67 im_Md_lockedOf se_Md_lockedOf hK fy hC_Md.1 hz hP hD hS hA rfl hl.1 rfl (Nat.le_of_ble_eq_true rfl) ⟨Nat.le_of_ble_eq_true rfl, Nat.le_of_ble_eq_true rfl⟩ ⟨Nat.le_of_ble_eq_true rfl, Nat.le_of_ble_eq_true rfl⟩ d_Md_freeOf_21 (fun v8 M6 H locs hq7 hP hD hS _ hkp => ?_)
  obtain ⟨ev9, eM10⟩ := hq7
  subst ev9
  rw [eM10] at hP hD
  refine W.eq (g2 := F0 m 24 ls [.long (hb_sm (fun p => if ac p = (nI ka) ∧ (ds p = 1 ∨ ds p = 2) then dd p else 0) np), .long (((bal ka) - (mi ka)) - (hb_sm (fun p => if ac p = (nI ka) then he p else 0) np))]) rfl ?_
  refine lv_lsub hx hb d_Md_freeOf_24 ?_
  exact hb_lret hAe hx hb hr hlocks hP hD hS (Nat.le_of_ble_eq_true rfl) (Nat.le_of_ble_eq_true rfl) (⟨rfl, rfl⟩) d_Md_freeOf_25
