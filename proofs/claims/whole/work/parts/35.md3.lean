/-! THE REFERENCE: public methods -/
theorem hb_ud {f : Nat → Int32} {k : Nat} {x : Int32} : upd f k x k = x := if_pos rfl
theorem hb_ul {f : Nat → Int64} {k : Nat} {x : Int64} : vp_updL f k x k = x := if_pos rfl
set_option maxHeartbeats 4000000 in
set_option maxRecDepth 100000 in
/-- ask: bad -/
theorem c_Md_ask_bad {l : Launch} {s0 : State} {D : va_G} {cI cJ cO : ClassId} {e0 mi : Nat} (hE : hb_E l s0 D cI cJ cO e0 mi) (M : hb_M) (y b0 b1 b2 b3 b4 b5 b6 b7 b8 b9 b10 b11 : Nat) (cd ho pa tm : Int32) (na np : Nat) (bal mi : Nat → Int64) (ky ac st : Nat → Int32) (he cl : Nat → Int64) (un dn ds : Nat → Int32) (dd : Nat → Int64) (dl : Nat → Int32) (h : mR cI cJ M y b0 b1 b2 b3 b4 b5 b6 b7 b8 b9 b10 b11 cd ho pa tm na np bal mi ky ac st he cl un dn ds dd dl) (hna : na ≤ 16) (hnp : np ≤ 60) (k a : Int32) (am : Int64) (pt9 : Int32) (hbad : (k < 0 ∨ 1000000 < k) ∨ (a < 0 ∨ nI na ≤ a) ∨ (am < 1 ∨ 1000000000000 < am)) : hb_Met l D hb_cl s0 y_Md_ask b_Md_ask 10 (some .long) { frames := 3, cells := 0, slots := 0, locals := 100 } [.ref y, .int k, .int a, .long am, .int pt9] M (fun v M1 => v = some (.long 0) ∧ mR cI cJ M1 y b0 b1 b2 b3 b4 b5 b6 b7 b8 b9 b10 b11 1 ho pa tm na np bal mi ky ac st he cl un dn ds dd dl) := by
  refine hb_Met.of (by decide) (Nat.le_of_ble_eq_true rfl) ?_
  intro p e s m below meth c A hAe hX hz hP hD hA hS ls hl
  obtain ⟨hx, hb, hr, hml, hown, hlocks, hnm, hG, hnh⟩ := id hX
  have hown : s.vm.findClass "HoldBookModel" = some m.cls := hown
  have hts := hE.ts hG ([.ref y, .int k, .int a, .long am, .int pt9] : List Value).toArray
  have hK := hE.kn hG
  have hl : lv_has ls 10 [(0, .ref y), (1, .int k), (2, .int a), (3, .long am), (5, .int pt9)] := hl
  obtain ⟨fy, g0, g1, g2, g3, g4, g5, g6, g7, g8, g9, g10, g11, hap⟩ := id h
  refine lv_aload_n hx hb d_Md_ask_0 rfl (lv_at hl 0 rfl) ?_
  refine lv_iload_n hx hb d_Md_ask_1 rfl (lv_at hl 1 rfl) ?_
  refine hb_callS (rest := [.ref y]) hX hts hb_gd Y_Md_isKey (c_Md_isKey hE M k) ml_Md_75 st_Md_isKey hz hP hD hS hA rfl hl.1 rfl (Nat.le_of_ble_eq_true rfl) ⟨Nat.le_of_ble_eq_true rfl, Nat.le_of_ble_eq_true rfl⟩ ⟨Nat.le_of_ble_eq_true rfl, Nat.le_of_ble_eq_true rfl⟩ d_Md_ask_2 (fun v3 M1 H locs hq2 hP hD hS _ hkp => ?_)
  obtain ⟨ev4, eM5⟩ := hq2
  subst ev4
  rw [eM5] at hP hD
  refine W.eq (g2 := F0 m 5 ls [.int (if k < 0 ∨ 1000000 < k then 0 else 1), .ref y]) rfl ?_
  refine lv_if_eq (tgt := 31) hx hb d_Md_ask_5 (by decide) (fun c6 => ?_) (fun c6 => ?_)
  · skip
    refine lv_iconst (v := 0) hx hb d_Md_ask_31 (by decide) ?_
    have hm7 : mR cI cJ M y b0 b1 b2 b3 b4 b5 b6 b7 b8 b9 b10 b11 cd ho pa tm na np bal mi ky ac st he cl un dn ds dd dl := ⟨fy, g0, g1, g2, g3, g4, g5, g6, g7, g8, g9, g10, g11, hap⟩
    refine hb_callV (rest := []) hX hts hb_gd Y_Md_goes (c_Md_goes hE M y b0 b1 b2 b3 b4 b5 b6 b7 b8 b9 b10 b11 cd ho pa tm na np bal mi ky ac st he cl un dn ds dd dl hm7 (by omega) (by omega) 0 (by decide)) ml_Md_83 im_Md_goes se_Md_goes hK fy hC_Md.1 hz hP hD hS hA rfl hl.1 rfl (Nat.le_of_ble_eq_true rfl) ⟨Nat.le_of_ble_eq_true rfl, Nat.le_of_ble_eq_true rfl⟩ ⟨Nat.le_of_ble_eq_true rfl, Nat.le_of_ble_eq_true rfl⟩ d_Md_ask_32 (fun v10 M8 H locs hq9 hP hD hS _ hkp => ?_)
    obtain ⟨ev11, h12⟩ := hq9
    subst ev11
    rw [if_pos (rfl : (0 : Int32) = 0)] at h12
    obtain ⟨fy13, g14, g15, g16, g17, g18, g19, g20, g21, g22, g23, g24, g25, -⟩ := id h12
    refine W.eq (g2 := F0 m 35 ls [.int 0]) rfl ?_
    refine lv_if_ne (tgt := 40) hx hb d_Md_ask_35 (by decide) (fun c26 => ?_) (fun c26 => ?_)
    · skip
      exfalso; revert c26; decide
    · skip
      refine lv_lconst (v := 0) hx hb d_Md_ask_38 (by decide) ?_
      exact hb_lret hAe hx hb hr hlocks hP hD hS (Nat.le_of_ble_eq_true rfl) (Nat.le_of_ble_eq_true rfl) (⟨rfl, ⟨fy13, g14, g15, g16, g17, g18, g19, g20, g21, g22, g23, g24, g25, hap⟩⟩) d_Md_ask_39
  · skip
    refine lv_iload_n hx hb d_Md_ask_8 rfl (lv_at hl 2 rfl) ?_
    refine lv_if_lt (tgt := 31) hx hb d_Md_ask_9 (by decide) (fun c27 => ?_) (fun c27 => ?_)
    · skip
      refine lv_iconst (v := 0) hx hb d_Md_ask_31 (by decide) ?_
      have hm28 : mR cI cJ M y b0 b1 b2 b3 b4 b5 b6 b7 b8 b9 b10 b11 cd ho pa tm na np bal mi ky ac st he cl un dn ds dd dl := ⟨fy, g0, g1, g2, g3, g4, g5, g6, g7, g8, g9, g10, g11, hap⟩
      refine hb_callV (rest := []) hX hts hb_gd Y_Md_goes (c_Md_goes hE M y b0 b1 b2 b3 b4 b5 b6 b7 b8 b9 b10 b11 cd ho pa tm na np bal mi ky ac st he cl un dn ds dd dl hm28 (by omega) (by omega) 0 (by decide)) ml_Md_83 im_Md_goes se_Md_goes hK fy hC_Md.1 hz hP hD hS hA rfl hl.1 rfl (Nat.le_of_ble_eq_true rfl) ⟨Nat.le_of_ble_eq_true rfl, Nat.le_of_ble_eq_true rfl⟩ ⟨Nat.le_of_ble_eq_true rfl, Nat.le_of_ble_eq_true rfl⟩ d_Md_ask_32 (fun v31 M29 H locs hq30 hP hD hS _ hkp => ?_)
      obtain ⟨ev32, h33⟩ := hq30
      subst ev32
      rw [if_pos (rfl : (0 : Int32) = 0)] at h33
      obtain ⟨fy34, g35, g36, g37, g38, g39, g40, g41, g42, g43, g44, g45, g46, -⟩ := id h33
      refine W.eq (g2 := F0 m 35 ls [.int 0]) rfl ?_
      refine lv_if_ne (tgt := 40) hx hb d_Md_ask_35 (by decide) (fun c47 => ?_) (fun c47 => ?_)
      · skip
        exfalso; revert c47; decide
      · skip
        refine lv_lconst (v := 0) hx hb d_Md_ask_38 (by decide) ?_
        exact hb_lret hAe hx hb hr hlocks hP hD hS (Nat.le_of_ble_eq_true rfl) (Nat.le_of_ble_eq_true rfl) (⟨rfl, ⟨fy34, g35, g36, g37, g38, g39, g40, g41, g42, g43, g44, g45, g46, hap⟩⟩) d_Md_ask_39
    · skip
      refine lv_iload_n hx hb d_Md_ask_12 rfl (lv_at hl 2 rfl) ?_
      refine lv_aload_n hx hb d_Md_ask_13 rfl (lv_at hl 0 rfl) ?_
      refine hb_get hx hb hts hown hC_Md hK hP fy 4 (by decide) rfl fl_Md_72 rfl d_Md_ask_14 ?_
      refine lv_icmp_ge (tgt := 31) hx hb d_Md_ask_17 (by decide) (fun c48 => ?_) (fun c48 => ?_)
      · skip
        have c48n := hb_ngti c48
        refine lv_iconst (v := 0) hx hb d_Md_ask_31 (by decide) ?_
        have hm49 : mR cI cJ M y b0 b1 b2 b3 b4 b5 b6 b7 b8 b9 b10 b11 cd ho pa tm na np bal mi ky ac st he cl un dn ds dd dl := ⟨fy, g0, g1, g2, g3, g4, g5, g6, g7, g8, g9, g10, g11, hap⟩
        refine hb_callV (rest := []) hX hts hb_gd Y_Md_goes (c_Md_goes hE M y b0 b1 b2 b3 b4 b5 b6 b7 b8 b9 b10 b11 cd ho pa tm na np bal mi ky ac st he cl un dn ds dd dl hm49 (by omega) (by omega) 0 (by decide)) ml_Md_83 im_Md_goes se_Md_goes hK fy hC_Md.1 hz hP hD hS hA rfl hl.1 rfl (Nat.le_of_ble_eq_true rfl) ⟨Nat.le_of_ble_eq_true rfl, Nat.le_of_ble_eq_true rfl⟩ ⟨Nat.le_of_ble_eq_true rfl, Nat.le_of_ble_eq_true rfl⟩ d_Md_ask_32 (fun v52 M50 H locs hq51 hP hD hS _ hkp => ?_)
        obtain ⟨ev53, h54⟩ := hq51
        subst ev53
        rw [if_pos (rfl : (0 : Int32) = 0)] at h54
        obtain ⟨fy55, g56, g57, g58, g59, g60, g61, g62, g63, g64, g65, g66, g67, -⟩ := id h54
        refine W.eq (g2 := F0 m 35 ls [.int 0]) rfl ?_
        refine lv_if_ne (tgt := 40) hx hb d_Md_ask_35 (by decide) (fun c68 => ?_) (fun c68 => ?_)
        · skip
          exfalso; revert c68; decide
        · skip
          refine lv_lconst (v := 0) hx hb d_Md_ask_38 (by decide) ?_
          exact hb_lret hAe hx hb hr hlocks hP hD hS (Nat.le_of_ble_eq_true rfl) (Nat.le_of_ble_eq_true rfl) (⟨rfl, ⟨fy55, g56, g57, g58, g59, g60, g61, g62, g63, g64, g65, g66, g67, hap⟩⟩) d_Md_ask_39
      · skip
        have c48n := hb_gti c48
        refine lv_lload_n hx hb d_Md_ask_20 rfl (lv_at hl 3 rfl) ?_
        refine hb_callS (rest := [.ref y]) hX hts hb_gd Y_Md_isAmount (c_Md_isAmount hE M am) ml_Md_79 st_Md_isAmount hz hP hD hS hA rfl hl.1 rfl (Nat.le_of_ble_eq_true rfl) ⟨Nat.le_of_ble_eq_true rfl, Nat.le_of_ble_eq_true rfl⟩ ⟨Nat.le_of_ble_eq_true rfl, Nat.le_of_ble_eq_true rfl⟩ d_Md_ask_21 (fun v71 M69 H locs hq70 hP hD hS _ hkp => ?_)
        obtain ⟨ev72, eM73⟩ := hq70
        subst ev72
        rw [eM73] at hP hD
        refine W.eq (g2 := F0 m 24 ls [.int (if am < 1 ∨ 1000000000000 < am then 0 else 1), .ref y]) rfl ?_
        refine lv_if_eq (tgt := 31) hx hb d_Md_ask_24 (by decide) (fun c74 => ?_) (fun c74 => ?_)
        · skip
          refine lv_iconst (v := 0) hx hb d_Md_ask_31 (by decide) ?_
          have hm75 : mR cI cJ M y b0 b1 b2 b3 b4 b5 b6 b7 b8 b9 b10 b11 cd ho pa tm na np bal mi ky ac st he cl un dn ds dd dl := ⟨fy, g0, g1, g2, g3, g4, g5, g6, g7, g8, g9, g10, g11, hap⟩
          refine hb_callV (rest := []) hX hts hb_gd Y_Md_goes (c_Md_goes hE M y b0 b1 b2 b3 b4 b5 b6 b7 b8 b9 b10 b11 cd ho pa tm na np bal mi ky ac st he cl un dn ds dd dl hm75 (by omega) (by omega) 0 (by decide)) ml_Md_83 im_Md_goes se_Md_goes hK fy hC_Md.1 hz hP hD hS hA rfl hl.1 rfl (Nat.le_of_ble_eq_true rfl) ⟨Nat.le_of_ble_eq_true rfl, Nat.le_of_ble_eq_true rfl⟩ ⟨Nat.le_of_ble_eq_true rfl, Nat.le_of_ble_eq_true rfl⟩ d_Md_ask_32 (fun v78 M76 H locs hq77 hP hD hS _ hkp => ?_)
          obtain ⟨ev79, h80⟩ := hq77
          subst ev79
          rw [if_pos (rfl : (0 : Int32) = 0)] at h80
          obtain ⟨fy81, g82, g83, g84, g85, g86, g87, g88, g89, g90, g91, g92, g93, -⟩ := id h80
          refine W.eq (g2 := F0 m 35 ls [.int 0]) rfl ?_
          refine lv_if_ne (tgt := 40) hx hb d_Md_ask_35 (by decide) (fun c94 => ?_) (fun c94 => ?_)
          · skip
            exfalso; revert c94; decide
          · skip
            refine lv_lconst (v := 0) hx hb d_Md_ask_38 (by decide) ?_
            exact hb_lret hAe hx hb hr hlocks hP hD hS (Nat.le_of_ble_eq_true rfl) (Nat.le_of_ble_eq_true rfl) (⟨rfl, ⟨fy81, g82, g83, g84, g85, g86, g87, g88, g89, g90, g91, g92, g93, hap⟩⟩) d_Md_ask_39
        · skip
          exfalso
          revert hbad
          simp_all
set_option maxHeartbeats 4000000 in
set_option maxRecDepth 100000 in
/-- clear: bad -/
theorem c_Md_clear_bad {l : Launch} {s0 : State} {D : va_G} {cI cJ cO : ClassId} {e0 mi : Nat} (hE : hb_E l s0 D cI cJ cO e0 mi) (M : hb_M) (y b0 b1 b2 b3 b4 b5 b6 b7 b8 b9 b10 b11 : Nat) (cd ho pa tm : Int32) (na np : Nat) (bal mi : Nat → Int64) (ky ac st : Nat → Int32) (he cl : Nat → Int64) (un dn ds : Nat → Int32) (dd : Nat → Int64) (dl : Nat → Int32) (h : mR cI cJ M y b0 b1 b2 b3 b4 b5 b6 b7 b8 b9 b10 b11 cd ho pa tm na np bal mi ky ac st he cl un dn ds dd dl) (hna : na ≤ 16) (hnp : np ≤ 60) (k : Int32) (am : Int64) (mo : Int32) (hbad : (k < 0 ∨ 1000000 < k) ∨ (am < 1 ∨ 1000000000000 < am)) : hb_Met l D hb_cl s0 y_Md_clear b_Md_clear 6 (some .long) { frames := 3, cells := 0, slots := 0, locals := 100 } [.ref y, .int k, .long am, .int mo] M (fun v M1 => v = some (.long 0) ∧ mR cI cJ M1 y b0 b1 b2 b3 b4 b5 b6 b7 b8 b9 b10 b11 1 ho pa tm na np bal mi ky ac st he cl un dn ds dd dl) := by
  refine hb_Met.of (by decide) (Nat.le_of_ble_eq_true rfl) ?_
  intro p e s m below meth c A hAe hX hz hP hD hA hS ls hl
  obtain ⟨hx, hb, hr, hml, hown, hlocks, hnm, hG, hnh⟩ := id hX
  have hown : s.vm.findClass "HoldBookModel" = some m.cls := hown
  have hts := hE.ts hG ([.ref y, .int k, .long am, .int mo] : List Value).toArray
  have hK := hE.kn hG
  have hl : lv_has ls 6 [(0, .ref y), (1, .int k), (2, .long am), (4, .int mo)] := hl
  obtain ⟨fy, g0, g1, g2, g3, g4, g5, g6, g7, g8, g9, g10, g11, hap⟩ := id h
  refine lv_aload_n hx hb d_Md_clear_0 rfl (lv_at hl 0 rfl) ?_
  refine lv_iload_n hx hb d_Md_clear_1 rfl (lv_at hl 1 rfl) ?_
  refine hb_callS (rest := [.ref y]) hX hts hb_gd Y_Md_isKey (c_Md_isKey hE M k) ml_Md_75 st_Md_isKey hz hP hD hS hA rfl hl.1 rfl (Nat.le_of_ble_eq_true rfl) ⟨Nat.le_of_ble_eq_true rfl, Nat.le_of_ble_eq_true rfl⟩ ⟨Nat.le_of_ble_eq_true rfl, Nat.le_of_ble_eq_true rfl⟩ d_Md_clear_2 (fun v3 M1 H locs hq2 hP hD hS _ hkp => ?_)
  obtain ⟨ev4, eM5⟩ := hq2
  subst ev4
  rw [eM5] at hP hD
  refine W.eq (g2 := F0 m 5 ls [.int (if k < 0 ∨ 1000000 < k then 0 else 1), .ref y]) rfl ?_
  refine lv_if_eq (tgt := 19) hx hb d_Md_clear_5 (by decide) (fun c6 => ?_) (fun c6 => ?_)
  · skip
    refine lv_iconst (v := 0) hx hb d_Md_clear_19 (by decide) ?_
    have hm7 : mR cI cJ M y b0 b1 b2 b3 b4 b5 b6 b7 b8 b9 b10 b11 cd ho pa tm na np bal mi ky ac st he cl un dn ds dd dl := ⟨fy, g0, g1, g2, g3, g4, g5, g6, g7, g8, g9, g10, g11, hap⟩
    refine hb_callV (rest := []) hX hts hb_gd Y_Md_goes (c_Md_goes hE M y b0 b1 b2 b3 b4 b5 b6 b7 b8 b9 b10 b11 cd ho pa tm na np bal mi ky ac st he cl un dn ds dd dl hm7 (by omega) (by omega) 0 (by decide)) ml_Md_83 im_Md_goes se_Md_goes hK fy hC_Md.1 hz hP hD hS hA rfl hl.1 rfl (Nat.le_of_ble_eq_true rfl) ⟨Nat.le_of_ble_eq_true rfl, Nat.le_of_ble_eq_true rfl⟩ ⟨Nat.le_of_ble_eq_true rfl, Nat.le_of_ble_eq_true rfl⟩ d_Md_clear_20 (fun v10 M8 H locs hq9 hP hD hS _ hkp => ?_)
    obtain ⟨ev11, h12⟩ := hq9
    subst ev11
    rw [if_pos (rfl : (0 : Int32) = 0)] at h12
    obtain ⟨fy13, g14, g15, g16, g17, g18, g19, g20, g21, g22, g23, g24, g25, -⟩ := id h12
    refine W.eq (g2 := F0 m 23 ls [.int 0]) rfl ?_
    refine lv_if_ne (tgt := 28) hx hb d_Md_clear_23 (by decide) (fun c26 => ?_) (fun c26 => ?_)
    · skip
      exfalso; revert c26; decide
    · skip
      refine lv_lconst (v := 0) hx hb d_Md_clear_26 (by decide) ?_
      exact hb_lret hAe hx hb hr hlocks hP hD hS (Nat.le_of_ble_eq_true rfl) (Nat.le_of_ble_eq_true rfl) (⟨rfl, ⟨fy13, g14, g15, g16, g17, g18, g19, g20, g21, g22, g23, g24, g25, hap⟩⟩) d_Md_clear_27
  · skip
    refine lv_lload_n hx hb d_Md_clear_8 rfl (lv_at hl 2 rfl) ?_
    refine hb_callS (rest := [.ref y]) hX hts hb_gd Y_Md_isAmount (c_Md_isAmount hE M am) ml_Md_79 st_Md_isAmount hz hP hD hS hA rfl hl.1 rfl (Nat.le_of_ble_eq_true rfl) ⟨Nat.le_of_ble_eq_true rfl, Nat.le_of_ble_eq_true rfl⟩ ⟨Nat.le_of_ble_eq_true rfl, Nat.le_of_ble_eq_true rfl⟩ d_Md_clear_9 (fun v29 M27 H locs hq28 hP hD hS _ hkp => ?_)
    obtain ⟨ev30, eM31⟩ := hq28
    subst ev30
    rw [eM31] at hP hD
    refine W.eq (g2 := F0 m 12 ls [.int (if am < 1 ∨ 1000000000000 < am then 0 else 1), .ref y]) rfl ?_
    refine lv_if_eq (tgt := 19) hx hb d_Md_clear_12 (by decide) (fun c32 => ?_) (fun c32 => ?_)
    · skip
      refine lv_iconst (v := 0) hx hb d_Md_clear_19 (by decide) ?_
      have hm33 : mR cI cJ M y b0 b1 b2 b3 b4 b5 b6 b7 b8 b9 b10 b11 cd ho pa tm na np bal mi ky ac st he cl un dn ds dd dl := ⟨fy, g0, g1, g2, g3, g4, g5, g6, g7, g8, g9, g10, g11, hap⟩
      refine hb_callV (rest := []) hX hts hb_gd Y_Md_goes (c_Md_goes hE M y b0 b1 b2 b3 b4 b5 b6 b7 b8 b9 b10 b11 cd ho pa tm na np bal mi ky ac st he cl un dn ds dd dl hm33 (by omega) (by omega) 0 (by decide)) ml_Md_83 im_Md_goes se_Md_goes hK fy hC_Md.1 hz hP hD hS hA rfl hl.1 rfl (Nat.le_of_ble_eq_true rfl) ⟨Nat.le_of_ble_eq_true rfl, Nat.le_of_ble_eq_true rfl⟩ ⟨Nat.le_of_ble_eq_true rfl, Nat.le_of_ble_eq_true rfl⟩ d_Md_clear_20 (fun v36 M34 H locs hq35 hP hD hS _ hkp => ?_)
      obtain ⟨ev37, h38⟩ := hq35
      subst ev37
      rw [if_pos (rfl : (0 : Int32) = 0)] at h38
      obtain ⟨fy39, g40, g41, g42, g43, g44, g45, g46, g47, g48, g49, g50, g51, -⟩ := id h38
      refine W.eq (g2 := F0 m 23 ls [.int 0]) rfl ?_
      refine lv_if_ne (tgt := 28) hx hb d_Md_clear_23 (by decide) (fun c52 => ?_) (fun c52 => ?_)
      · skip
        exfalso; revert c52; decide
      · skip
        refine lv_lconst (v := 0) hx hb d_Md_clear_26 (by decide) ?_
        exact hb_lret hAe hx hb hr hlocks hP hD hS (Nat.le_of_ble_eq_true rfl) (Nat.le_of_ble_eq_true rfl) (⟨rfl, ⟨fy39, g40, g41, g42, g43, g44, g45, g46, g47, g48, g49, g50, g51, hap⟩⟩) d_Md_clear_27
    · skip
      exfalso
      revert hbad
      simp_all
set_option maxHeartbeats 4000000 in
set_option maxRecDepth 100000 in
/-- undo: bad -/
theorem c_Md_undo_bad {l : Launch} {s0 : State} {D : va_G} {cI cJ cO : ClassId} {e0 mi : Nat} (hE : hb_E l s0 D cI cJ cO e0 mi) (M : hb_M) (y b0 b1 b2 b3 b4 b5 b6 b7 b8 b9 b10 b11 : Nat) (cd ho pa tm : Int32) (na np : Nat) (bal mi : Nat → Int64) (ky ac st : Nat → Int32) (he cl : Nat → Int64) (un dn ds : Nat → Int32) (dd : Nat → Int64) (dl : Nat → Int32) (h : mR cI cJ M y b0 b1 b2 b3 b4 b5 b6 b7 b8 b9 b10 b11 cd ho pa tm na np bal mi ky ac st he cl un dn ds dd dl) (hna : na ≤ 16) (hnp : np ≤ 60) (k : Int32) (le : Int64) (to : Int32) (hbad : (k < 0 ∨ 1000000 < k) ∨ le < 0) : hb_Met l D hb_cl s0 y_Md_undo b_Md_undo 6 (some .long) { frames := 3, cells := 0, slots := 0, locals := 100 } [.ref y, .int k, .long le, .int to] M (fun v M1 => v = some (.long 0) ∧ mR cI cJ M1 y b0 b1 b2 b3 b4 b5 b6 b7 b8 b9 b10 b11 1 ho pa tm na np bal mi ky ac st he cl un dn ds dd dl) := by
  refine hb_Met.of (by decide) (Nat.le_of_ble_eq_true rfl) ?_
  intro p e s m below meth c A hAe hX hz hP hD hA hS ls hl
  obtain ⟨hx, hb, hr, hml, hown, hlocks, hnm, hG, hnh⟩ := id hX
  have hown : s.vm.findClass "HoldBookModel" = some m.cls := hown
  have hts := hE.ts hG ([.ref y, .int k, .long le, .int to] : List Value).toArray
  have hK := hE.kn hG
  have hl : lv_has ls 6 [(0, .ref y), (1, .int k), (2, .long le), (4, .int to)] := hl
  obtain ⟨fy, g0, g1, g2, g3, g4, g5, g6, g7, g8, g9, g10, g11, hap⟩ := id h
  refine lv_aload_n hx hb d_Md_undo_0 rfl (lv_at hl 0 rfl) ?_
  refine lv_iload_n hx hb d_Md_undo_1 rfl (lv_at hl 1 rfl) ?_
  refine hb_callS (rest := [.ref y]) hX hts hb_gd Y_Md_isKey (c_Md_isKey hE M k) ml_Md_75 st_Md_isKey hz hP hD hS hA rfl hl.1 rfl (Nat.le_of_ble_eq_true rfl) ⟨Nat.le_of_ble_eq_true rfl, Nat.le_of_ble_eq_true rfl⟩ ⟨Nat.le_of_ble_eq_true rfl, Nat.le_of_ble_eq_true rfl⟩ d_Md_undo_2 (fun v3 M1 H locs hq2 hP hD hS _ hkp => ?_)
  obtain ⟨ev4, eM5⟩ := hq2
  subst ev4
  rw [eM5] at hP hD
  refine W.eq (g2 := F0 m 5 ls [.int (if k < 0 ∨ 1000000 < k then 0 else 1), .ref y]) rfl ?_
  refine lv_if_eq (tgt := 18) hx hb d_Md_undo_5 (by decide) (fun c6 => ?_) (fun c6 => ?_)
  · skip
    refine lv_iconst (v := 0) hx hb d_Md_undo_18 (by decide) ?_
    have hm7 : mR cI cJ M y b0 b1 b2 b3 b4 b5 b6 b7 b8 b9 b10 b11 cd ho pa tm na np bal mi ky ac st he cl un dn ds dd dl := ⟨fy, g0, g1, g2, g3, g4, g5, g6, g7, g8, g9, g10, g11, hap⟩
    refine hb_callV (rest := []) hX hts hb_gd Y_Md_goes (c_Md_goes hE M y b0 b1 b2 b3 b4 b5 b6 b7 b8 b9 b10 b11 cd ho pa tm na np bal mi ky ac st he cl un dn ds dd dl hm7 (by omega) (by omega) 0 (by decide)) ml_Md_83 im_Md_goes se_Md_goes hK fy hC_Md.1 hz hP hD hS hA rfl hl.1 rfl (Nat.le_of_ble_eq_true rfl) ⟨Nat.le_of_ble_eq_true rfl, Nat.le_of_ble_eq_true rfl⟩ ⟨Nat.le_of_ble_eq_true rfl, Nat.le_of_ble_eq_true rfl⟩ d_Md_undo_19 (fun v10 M8 H locs hq9 hP hD hS _ hkp => ?_)
    obtain ⟨ev11, h12⟩ := hq9
    subst ev11
    rw [if_pos (rfl : (0 : Int32) = 0)] at h12
    obtain ⟨fy13, g14, g15, g16, g17, g18, g19, g20, g21, g22, g23, g24, g25, -⟩ := id h12
    refine W.eq (g2 := F0 m 22 ls [.int 0]) rfl ?_
    refine lv_if_ne (tgt := 27) hx hb d_Md_undo_22 (by decide) (fun c26 => ?_) (fun c26 => ?_)
    · skip
      exfalso; revert c26; decide
    · skip
      refine lv_lconst (v := 0) hx hb d_Md_undo_25 (by decide) ?_
      exact hb_lret hAe hx hb hr hlocks hP hD hS (Nat.le_of_ble_eq_true rfl) (Nat.le_of_ble_eq_true rfl) (⟨rfl, ⟨fy13, g14, g15, g16, g17, g18, g19, g20, g21, g22, g23, g24, g25, hap⟩⟩) d_Md_undo_26
  · skip
    refine lv_lload_n hx hb d_Md_undo_8 rfl (lv_at hl 2 rfl) ?_
    refine lv_lconst (v := 0) hx hb d_Md_undo_9 (by decide) ?_
    refine hb_lc_lt (tgt := 18) hx hb d_Md_undo_10 d_Md_undo_11 (by decide) (fun c27 => ?_) (fun c27 => ?_)
    · skip
      refine lv_iconst (v := 0) hx hb d_Md_undo_18 (by decide) ?_
      have hm28 : mR cI cJ M y b0 b1 b2 b3 b4 b5 b6 b7 b8 b9 b10 b11 cd ho pa tm na np bal mi ky ac st he cl un dn ds dd dl := ⟨fy, g0, g1, g2, g3, g4, g5, g6, g7, g8, g9, g10, g11, hap⟩
      refine hb_callV (rest := []) hX hts hb_gd Y_Md_goes (c_Md_goes hE M y b0 b1 b2 b3 b4 b5 b6 b7 b8 b9 b10 b11 cd ho pa tm na np bal mi ky ac st he cl un dn ds dd dl hm28 (by omega) (by omega) 0 (by decide)) ml_Md_83 im_Md_goes se_Md_goes hK fy hC_Md.1 hz hP hD hS hA rfl hl.1 rfl (Nat.le_of_ble_eq_true rfl) ⟨Nat.le_of_ble_eq_true rfl, Nat.le_of_ble_eq_true rfl⟩ ⟨Nat.le_of_ble_eq_true rfl, Nat.le_of_ble_eq_true rfl⟩ d_Md_undo_19 (fun v31 M29 H locs hq30 hP hD hS _ hkp => ?_)
      obtain ⟨ev32, h33⟩ := hq30
      subst ev32
      rw [if_pos (rfl : (0 : Int32) = 0)] at h33
      obtain ⟨fy34, g35, g36, g37, g38, g39, g40, g41, g42, g43, g44, g45, g46, -⟩ := id h33
      refine W.eq (g2 := F0 m 22 ls [.int 0]) rfl ?_
      refine lv_if_ne (tgt := 27) hx hb d_Md_undo_22 (by decide) (fun c47 => ?_) (fun c47 => ?_)
      · skip
        exfalso; revert c47; decide
      · skip
        refine lv_lconst (v := 0) hx hb d_Md_undo_25 (by decide) ?_
        exact hb_lret hAe hx hb hr hlocks hP hD hS (Nat.le_of_ble_eq_true rfl) (Nat.le_of_ble_eq_true rfl) (⟨rfl, ⟨fy34, g35, g36, g37, g38, g39, g40, g41, g42, g43, g44, g45, g46, hap⟩⟩) d_Md_undo_26
    · skip
      exfalso
      revert hbad
      simp_all
set_option maxHeartbeats 4000000 in
set_option maxRecDepth 100000 in
/-- charge: bad -/
theorem c_Md_charge_bad {l : Launch} {s0 : State} {D : va_G} {cI cJ cO : ClassId} {e0 mi : Nat} (hE : hb_E l s0 D cI cJ cO e0 mi) (M : hb_M) (y b0 b1 b2 b3 b4 b5 b6 b7 b8 b9 b10 b11 : Nat) (cd ho pa tm : Int32) (na np : Nat) (bal mi : Nat → Int64) (ky ac st : Nat → Int32) (he cl : Nat → Int64) (un dn ds : Nat → Int32) (dd : Nat → Int64) (dl : Nat → Int32) (h : mR cI cJ M y b0 b1 b2 b3 b4 b5 b6 b7 b8 b9 b10 b11 cd ho pa tm na np bal mi ky ac st he cl un dn ds dd dl) (hna : na ≤ 16) (hnp : np ≤ 60) (k : Int32) (am : Int64) (hbad : (k < 0 ∨ 1000000 < k) ∨ am < 1) : hb_Met l D hb_cl s0 y_Md_charge b_Md_charge 5 (some .int) { frames := 3, cells := 0, slots := 0, locals := 100 } [.ref y, .int k, .long am] M (fun v M1 => v = some (.int 0) ∧ mR cI cJ M1 y b0 b1 b2 b3 b4 b5 b6 b7 b8 b9 b10 b11 1 ho pa tm na np bal mi ky ac st he cl un dn ds dd dl) := by
  refine hb_Met.of (by decide) (Nat.le_of_ble_eq_true rfl) ?_
  intro p e s m below meth c A hAe hX hz hP hD hA hS ls hl
  obtain ⟨hx, hb, hr, hml, hown, hlocks, hnm, hG, hnh⟩ := id hX
  have hown : s.vm.findClass "HoldBookModel" = some m.cls := hown
  have hts := hE.ts hG ([.ref y, .int k, .long am] : List Value).toArray
  have hK := hE.kn hG
  have hl : lv_has ls 5 [(0, .ref y), (1, .int k), (2, .long am)] := hl
  obtain ⟨fy, g0, g1, g2, g3, g4, g5, g6, g7, g8, g9, g10, g11, hap⟩ := id h
  refine lv_aload_n hx hb d_Md_charge_0 rfl (lv_at hl 0 rfl) ?_
  refine lv_iload_n hx hb d_Md_charge_1 rfl (lv_at hl 1 rfl) ?_
  refine hb_callS (rest := [.ref y]) hX hts hb_gd Y_Md_isKey (c_Md_isKey hE M k) ml_Md_75 st_Md_isKey hz hP hD hS hA rfl hl.1 rfl (Nat.le_of_ble_eq_true rfl) ⟨Nat.le_of_ble_eq_true rfl, Nat.le_of_ble_eq_true rfl⟩ ⟨Nat.le_of_ble_eq_true rfl, Nat.le_of_ble_eq_true rfl⟩ d_Md_charge_2 (fun v3 M1 H locs hq2 hP hD hS _ hkp => ?_)
  obtain ⟨ev4, eM5⟩ := hq2
  subst ev4
  rw [eM5] at hP hD
  refine W.eq (g2 := F0 m 5 ls [.int (if k < 0 ∨ 1000000 < k then 0 else 1), .ref y]) rfl ?_
  refine lv_if_eq (tgt := 18) hx hb d_Md_charge_5 (by decide) (fun c6 => ?_) (fun c6 => ?_)
  · skip
    refine lv_iconst (v := 0) hx hb d_Md_charge_18 (by decide) ?_
    have hm7 : mR cI cJ M y b0 b1 b2 b3 b4 b5 b6 b7 b8 b9 b10 b11 cd ho pa tm na np bal mi ky ac st he cl un dn ds dd dl := ⟨fy, g0, g1, g2, g3, g4, g5, g6, g7, g8, g9, g10, g11, hap⟩
    refine hb_callV (rest := []) hX hts hb_gd Y_Md_goes (c_Md_goes hE M y b0 b1 b2 b3 b4 b5 b6 b7 b8 b9 b10 b11 cd ho pa tm na np bal mi ky ac st he cl un dn ds dd dl hm7 (by omega) (by omega) 0 (by decide)) ml_Md_83 im_Md_goes se_Md_goes hK fy hC_Md.1 hz hP hD hS hA rfl hl.1 rfl (Nat.le_of_ble_eq_true rfl) ⟨Nat.le_of_ble_eq_true rfl, Nat.le_of_ble_eq_true rfl⟩ ⟨Nat.le_of_ble_eq_true rfl, Nat.le_of_ble_eq_true rfl⟩ d_Md_charge_19 (fun v10 M8 H locs hq9 hP hD hS _ hkp => ?_)
    obtain ⟨ev11, h12⟩ := hq9
    subst ev11
    rw [if_pos (rfl : (0 : Int32) = 0)] at h12
    obtain ⟨fy13, g14, g15, g16, g17, g18, g19, g20, g21, g22, g23, g24, g25, -⟩ := id h12
    refine W.eq (g2 := F0 m 22 ls [.int 0]) rfl ?_
    refine lv_if_ne (tgt := 27) hx hb d_Md_charge_22 (by decide) (fun c26 => ?_) (fun c26 => ?_)
    · skip
      exfalso; revert c26; decide
    · skip
      refine lv_iconst (v := 0) hx hb d_Md_charge_25 (by decide) ?_
      exact hb_iret hAe hx hb hr hlocks hP hD hS (Nat.le_of_ble_eq_true rfl) (Nat.le_of_ble_eq_true rfl) (⟨rfl, ⟨fy13, g14, g15, g16, g17, g18, g19, g20, g21, g22, g23, g24, g25, hap⟩⟩) d_Md_charge_26
  · skip
    refine lv_lload_n hx hb d_Md_charge_8 rfl (lv_at hl 2 rfl) ?_
    refine lv_lconst (v := 1) hx hb d_Md_charge_9 (by decide) ?_
    refine hb_lc_lt (tgt := 18) hx hb d_Md_charge_10 d_Md_charge_11 (by decide) (fun c27 => ?_) (fun c27 => ?_)
    · skip
      refine lv_iconst (v := 0) hx hb d_Md_charge_18 (by decide) ?_
      have hm28 : mR cI cJ M y b0 b1 b2 b3 b4 b5 b6 b7 b8 b9 b10 b11 cd ho pa tm na np bal mi ky ac st he cl un dn ds dd dl := ⟨fy, g0, g1, g2, g3, g4, g5, g6, g7, g8, g9, g10, g11, hap⟩
      refine hb_callV (rest := []) hX hts hb_gd Y_Md_goes (c_Md_goes hE M y b0 b1 b2 b3 b4 b5 b6 b7 b8 b9 b10 b11 cd ho pa tm na np bal mi ky ac st he cl un dn ds dd dl hm28 (by omega) (by omega) 0 (by decide)) ml_Md_83 im_Md_goes se_Md_goes hK fy hC_Md.1 hz hP hD hS hA rfl hl.1 rfl (Nat.le_of_ble_eq_true rfl) ⟨Nat.le_of_ble_eq_true rfl, Nat.le_of_ble_eq_true rfl⟩ ⟨Nat.le_of_ble_eq_true rfl, Nat.le_of_ble_eq_true rfl⟩ d_Md_charge_19 (fun v31 M29 H locs hq30 hP hD hS _ hkp => ?_)
      obtain ⟨ev32, h33⟩ := hq30
      subst ev32
      rw [if_pos (rfl : (0 : Int32) = 0)] at h33
      obtain ⟨fy34, g35, g36, g37, g38, g39, g40, g41, g42, g43, g44, g45, g46, -⟩ := id h33
      refine W.eq (g2 := F0 m 22 ls [.int 0]) rfl ?_
      refine lv_if_ne (tgt := 27) hx hb d_Md_charge_22 (by decide) (fun c47 => ?_) (fun c47 => ?_)
      · skip
        exfalso; revert c47; decide
      · skip
        refine lv_iconst (v := 0) hx hb d_Md_charge_25 (by decide) ?_
        exact hb_iret hAe hx hb hr hlocks hP hD hS (Nat.le_of_ble_eq_true rfl) (Nat.le_of_ble_eq_true rfl) (⟨rfl, ⟨fy34, g35, g36, g37, g38, g39, g40, g41, g42, g43, g44, g45, g46, hap⟩⟩) d_Md_charge_26
    · skip
      exfalso
      revert hbad
      simp_all
set_option maxHeartbeats 4000000 in
set_option maxRecDepth 100000 in
/-- represent: bad -/
theorem c_Md_represent_bad {l : Launch} {s0 : State} {D : va_G} {cI cJ cO : ClassId} {e0 mi : Nat} (hE : hb_E l s0 D cI cJ cO e0 mi) (M : hb_M) (y b0 b1 b2 b3 b4 b5 b6 b7 b8 b9 b10 b11 : Nat) (cd ho pa tm : Int32) (na np : Nat) (bal mi : Nat → Int64) (ky ac st : Nat → Int32) (he cl : Nat → Int64) (un dn ds : Nat → Int32) (dd : Nat → Int64) (dl : Nat → Int32) (h : mR cI cJ M y b0 b1 b2 b3 b4 b5 b6 b7 b8 b9 b10 b11 cd ho pa tm na np bal mi ky ac st he cl un dn ds dd dl) (hna : na ≤ 16) (hnp : np ≤ 60) (k : Int32) (hbad : k < 0 ∨ 1000000 < k) : hb_Met l D hb_cl s0 y_Md_represent b_Md_represent 3 (some .int) { frames := 3, cells := 0, slots := 0, locals := 100 } [.ref y, .int k] M (fun v M1 => v = some (.int 0) ∧ mR cI cJ M1 y b0 b1 b2 b3 b4 b5 b6 b7 b8 b9 b10 b11 1 ho pa tm na np bal mi ky ac st he cl un dn ds dd dl) := by
  refine hb_Met.of (by decide) (Nat.le_of_ble_eq_true rfl) ?_
  intro p e s m below meth c A hAe hX hz hP hD hA hS ls hl
  obtain ⟨hx, hb, hr, hml, hown, hlocks, hnm, hG, hnh⟩ := id hX
  have hown : s.vm.findClass "HoldBookModel" = some m.cls := hown
  have hts := hE.ts hG ([.ref y, .int k] : List Value).toArray
  have hK := hE.kn hG
  have hl : lv_has ls 3 [(0, .ref y), (1, .int k)] := hl
  obtain ⟨fy, g0, g1, g2, g3, g4, g5, g6, g7, g8, g9, g10, g11, hap⟩ := id h
  refine lv_aload_n hx hb d_Md_represent_0 rfl (lv_at hl 0 rfl) ?_
  refine lv_iload_n hx hb d_Md_represent_1 rfl (lv_at hl 1 rfl) ?_
  refine hb_callS (rest := [.ref y]) hX hts hb_gd Y_Md_isKey (c_Md_isKey hE M k) ml_Md_75 st_Md_isKey hz hP hD hS hA rfl hl.1 rfl (Nat.le_of_ble_eq_true rfl) ⟨Nat.le_of_ble_eq_true rfl, Nat.le_of_ble_eq_true rfl⟩ ⟨Nat.le_of_ble_eq_true rfl, Nat.le_of_ble_eq_true rfl⟩ d_Md_represent_2 (fun v3 M1 H locs hq2 hP hD hS _ hkp => ?_)
  obtain ⟨ev4, eM5⟩ := hq2
  rw [if_pos hbad] at ev4
  subst ev4
  rw [eM5] at hP hD
  refine W.eq (g2 := F0 m 5 ls [.int 0, .ref y]) rfl ?_
  have hm6 : mR cI cJ M y b0 b1 b2 b3 b4 b5 b6 b7 b8 b9 b10 b11 cd ho pa tm na np bal mi ky ac st he cl un dn ds dd dl := ⟨fy, g0, g1, g2, g3, g4, g5, g6, g7, g8, g9, g10, g11, hap⟩
  refine hb_callV (rest := []) hX hts hb_gd Y_Md_goes (c_Md_goes hE M y b0 b1 b2 b3 b4 b5 b6 b7 b8 b9 b10 b11 cd ho pa tm na np bal mi ky ac st he cl un dn ds dd dl hm6 (by omega) (by omega) 0 (by decide)) ml_Md_83 im_Md_goes se_Md_goes hK fy hC_Md.1 hz hP hD hS hA rfl hl.1 rfl (Nat.le_of_ble_eq_true rfl) ⟨Nat.le_of_ble_eq_true rfl, Nat.le_of_ble_eq_true rfl⟩ ⟨Nat.le_of_ble_eq_true rfl, Nat.le_of_ble_eq_true rfl⟩ d_Md_represent_5 (fun v9 M7 H locs hq8 hP hD hS _ hkp => ?_)
  obtain ⟨ev10, h11⟩ := hq8
  subst ev10
  rw [if_pos (rfl : (0 : Int32) = 0)] at h11
  obtain ⟨fy12, g13, g14, g15, g16, g17, g18, g19, g20, g21, g22, g23, g24, -⟩ := id h11
  refine W.eq (g2 := F0 m 8 ls [.int 0]) rfl ?_
  refine lv_if_ne (tgt := 13) hx hb d_Md_represent_8 (by decide) (fun c25 => ?_) (fun c25 => ?_)
  · skip
    exfalso; revert c25; decide
  · skip
    refine lv_iconst (v := 0) hx hb d_Md_represent_11 (by decide) ?_
    exact hb_iret hAe hx hb hr hlocks hP hD hS (Nat.le_of_ble_eq_true rfl) (Nat.le_of_ble_eq_true rfl) (⟨rfl, ⟨fy12, g13, g14, g15, g16, g17, g18, g19, g20, g21, g22, g23, g24, hap⟩⟩) d_Md_represent_12
set_option maxHeartbeats 4000000 in
set_option maxRecDepth 100000 in
/-- decide: bad -/
theorem c_Md_decide_bad {l : Launch} {s0 : State} {D : va_G} {cI cJ cO : ClassId} {e0 mi : Nat} (hE : hb_E l s0 D cI cJ cO e0 mi) (M : hb_M) (y b0 b1 b2 b3 b4 b5 b6 b7 b8 b9 b10 b11 : Nat) (cd ho pa tm : Int32) (na np : Nat) (bal mi : Nat → Int64) (ky ac st : Nat → Int32) (he cl : Nat → Int64) (un dn ds : Nat → Int32) (dd : Nat → Int64) (dl : Nat → Int32) (h : mR cI cJ M y b0 b1 b2 b3 b4 b5 b6 b7 b8 b9 b10 b11 cd ho pa tm na np bal mi ky ac st he cl un dn ds dd dl) (hna : na ≤ 16) (hnp : np ≤ 60) (k w : Int32) (hbad : k < 0 ∨ 1000000 < k) : hb_Met l D hb_cl s0 y_Md_decide b_Md_decide 4 (some .int) { frames := 3, cells := 0, slots := 0, locals := 100 } [.ref y, .int k, .int w] M (fun v M1 => v = some (.int 0) ∧ mR cI cJ M1 y b0 b1 b2 b3 b4 b5 b6 b7 b8 b9 b10 b11 1 ho pa tm na np bal mi ky ac st he cl un dn ds dd dl) := by
  refine hb_Met.of (by decide) (Nat.le_of_ble_eq_true rfl) ?_
  intro p e s m below meth c A hAe hX hz hP hD hA hS ls hl
  obtain ⟨hx, hb, hr, hml, hown, hlocks, hnm, hG, hnh⟩ := id hX
  have hown : s.vm.findClass "HoldBookModel" = some m.cls := hown
  have hts := hE.ts hG ([.ref y, .int k, .int w] : List Value).toArray
  have hK := hE.kn hG
  have hl : lv_has ls 4 [(0, .ref y), (1, .int k), (2, .int w)] := hl
  obtain ⟨fy, g0, g1, g2, g3, g4, g5, g6, g7, g8, g9, g10, g11, hap⟩ := id h
  refine lv_aload_n hx hb d_Md_decide_0 rfl (lv_at hl 0 rfl) ?_
  refine lv_iload_n hx hb d_Md_decide_1 rfl (lv_at hl 1 rfl) ?_
  refine hb_callS (rest := [.ref y]) hX hts hb_gd Y_Md_isKey (c_Md_isKey hE M k) ml_Md_75 st_Md_isKey hz hP hD hS hA rfl hl.1 rfl (Nat.le_of_ble_eq_true rfl) ⟨Nat.le_of_ble_eq_true rfl, Nat.le_of_ble_eq_true rfl⟩ ⟨Nat.le_of_ble_eq_true rfl, Nat.le_of_ble_eq_true rfl⟩ d_Md_decide_2 (fun v3 M1 H locs hq2 hP hD hS _ hkp => ?_)
  obtain ⟨ev4, eM5⟩ := hq2
  rw [if_pos hbad] at ev4
  subst ev4
  rw [eM5] at hP hD
  refine W.eq (g2 := F0 m 5 ls [.int 0, .ref y]) rfl ?_
  have hm6 : mR cI cJ M y b0 b1 b2 b3 b4 b5 b6 b7 b8 b9 b10 b11 cd ho pa tm na np bal mi ky ac st he cl un dn ds dd dl := ⟨fy, g0, g1, g2, g3, g4, g5, g6, g7, g8, g9, g10, g11, hap⟩
  refine hb_callV (rest := []) hX hts hb_gd Y_Md_goes (c_Md_goes hE M y b0 b1 b2 b3 b4 b5 b6 b7 b8 b9 b10 b11 cd ho pa tm na np bal mi ky ac st he cl un dn ds dd dl hm6 (by omega) (by omega) 0 (by decide)) ml_Md_83 im_Md_goes se_Md_goes hK fy hC_Md.1 hz hP hD hS hA rfl hl.1 rfl (Nat.le_of_ble_eq_true rfl) ⟨Nat.le_of_ble_eq_true rfl, Nat.le_of_ble_eq_true rfl⟩ ⟨Nat.le_of_ble_eq_true rfl, Nat.le_of_ble_eq_true rfl⟩ d_Md_decide_5 (fun v9 M7 H locs hq8 hP hD hS _ hkp => ?_)
  obtain ⟨ev10, h11⟩ := hq8
  subst ev10
  rw [if_pos (rfl : (0 : Int32) = 0)] at h11
  obtain ⟨fy12, g13, g14, g15, g16, g17, g18, g19, g20, g21, g22, g23, g24, -⟩ := id h11
  refine W.eq (g2 := F0 m 8 ls [.int 0]) rfl ?_
  refine lv_if_ne (tgt := 13) hx hb d_Md_decide_8 (by decide) (fun c25 => ?_) (fun c25 => ?_)
  · skip
    exfalso; revert c25; decide
  · skip
    refine lv_iconst (v := 0) hx hb d_Md_decide_11 (by decide) ?_
    exact hb_iret hAe hx hb hr hlocks hP hD hS (Nat.le_of_ble_eq_true rfl) (Nat.le_of_ble_eq_true rfl) (⟨rfl, ⟨fy12, g13, g14, g15, g16, g17, g18, g19, g20, g21, g22, g23, g24, hap⟩⟩) d_Md_decide_12
set_option maxHeartbeats 4000000 in
set_option maxRecDepth 100000 in
/-- funds: bad -/
theorem c_Md_funds_bad {l : Launch} {s0 : State} {D : va_G} {cI cJ cO : ClassId} {e0 mi : Nat} (hE : hb_E l s0 D cI cJ cO e0 mi) (M : hb_M) (y b0 b1 b2 b3 b4 b5 b6 b7 b8 b9 b10 b11 : Nat) (cd ho pa tm : Int32) (na np : Nat) (bal mi : Nat → Int64) (ky ac st : Nat → Int32) (he cl : Nat → Int64) (un dn ds : Nat → Int32) (dd : Nat → Int64) (dl : Nat → Int32) (h : mR cI cJ M y b0 b1 b2 b3 b4 b5 b6 b7 b8 b9 b10 b11 cd ho pa tm na np bal mi ky ac st he cl un dn ds dd dl) (hna : na ≤ 16) (hnp : np ≤ 60) (a wh : Int32) (hbad : (a < 0 ∨ nI na ≤ a) ∨ (wh < 0 ∨ 3 < wh)) : hb_Met l D hb_cl s0 y_Md_funds b_Md_funds 3 (some .long) { frames := 3, cells := 0, slots := 0, locals := 100 } [.ref y, .int a, .int wh] M (fun v M1 => v = some (.long 0) ∧ mR cI cJ M1 y b0 b1 b2 b3 b4 b5 b6 b7 b8 b9 b10 b11 1 ho pa tm na np bal mi ky ac st he cl un dn ds dd dl) := by
  refine hb_Met.of (by decide) (Nat.le_of_ble_eq_true rfl) ?_
  intro p e s m below meth c A hAe hX hz hP hD hA hS ls hl
  obtain ⟨hx, hb, hr, hml, hown, hlocks, hnm, hG, hnh⟩ := id hX
  have hown : s.vm.findClass "HoldBookModel" = some m.cls := hown
  have hts := hE.ts hG ([.ref y, .int a, .int wh] : List Value).toArray
  have hK := hE.kn hG
  have hl : lv_has ls 3 [(0, .ref y), (1, .int a), (2, .int wh)] := hl
  obtain ⟨fy, g0, g1, g2, g3, g4, g5, g6, g7, g8, g9, g10, g11, hap⟩ := id h
  refine lv_aload_n hx hb d_Md_funds_0 rfl (lv_at hl 0 rfl) ?_
  refine lv_iload_n hx hb d_Md_funds_1 rfl (lv_at hl 1 rfl) ?_
  refine lv_if_lt (tgt := 26) hx hb d_Md_funds_2 (by decide) (fun c1 => ?_) (fun c1 => ?_)
  · skip
    refine lv_iconst (v := 0) hx hb d_Md_funds_26 (by decide) ?_
    have hm2 : mR cI cJ M y b0 b1 b2 b3 b4 b5 b6 b7 b8 b9 b10 b11 cd ho pa tm na np bal mi ky ac st he cl un dn ds dd dl := ⟨fy, g0, g1, g2, g3, g4, g5, g6, g7, g8, g9, g10, g11, hap⟩
    refine hb_callV (rest := []) hX hts hb_gd Y_Md_goes (c_Md_goes hE M y b0 b1 b2 b3 b4 b5 b6 b7 b8 b9 b10 b11 cd ho pa tm na np bal mi ky ac st he cl un dn ds dd dl hm2 (by omega) (by omega) 0 (by decide)) ml_Md_83 im_Md_goes se_Md_goes hK fy hC_Md.1 hz hP hD hS hA rfl hl.1 rfl (Nat.le_of_ble_eq_true rfl) ⟨Nat.le_of_ble_eq_true rfl, Nat.le_of_ble_eq_true rfl⟩ ⟨Nat.le_of_ble_eq_true rfl, Nat.le_of_ble_eq_true rfl⟩ d_Md_funds_27 (fun v5 M3 H locs hq4 hP hD hS _ hkp => ?_)
    obtain ⟨ev6, h7⟩ := hq4
    subst ev6
    rw [if_pos (rfl : (0 : Int32) = 0)] at h7
    obtain ⟨fy8, g9, g10, g11, g12, g13, g14, g15, g16, g17, g18, g19, g20, -⟩ := id h7
    refine W.eq (g2 := F0 m 30 ls [.int 0]) rfl ?_
    refine lv_if_ne (tgt := 35) hx hb d_Md_funds_30 (by decide) (fun c21 => ?_) (fun c21 => ?_)
    · skip
      exfalso; revert c21; decide
    · skip
      refine lv_lconst (v := 0) hx hb d_Md_funds_33 (by decide) ?_
      exact hb_lret hAe hx hb hr hlocks hP hD hS (Nat.le_of_ble_eq_true rfl) (Nat.le_of_ble_eq_true rfl) (⟨rfl, ⟨fy8, g9, g10, g11, g12, g13, g14, g15, g16, g17, g18, g19, g20, hap⟩⟩) d_Md_funds_34
  · skip
    refine lv_iload_n hx hb d_Md_funds_5 rfl (lv_at hl 1 rfl) ?_
    refine lv_aload_n hx hb d_Md_funds_6 rfl (lv_at hl 0 rfl) ?_
    refine hb_get hx hb hts hown hC_Md hK hP fy 4 (by decide) rfl fl_Md_72 rfl d_Md_funds_7 ?_
    refine lv_icmp_ge (tgt := 26) hx hb d_Md_funds_10 (by decide) (fun c22 => ?_) (fun c22 => ?_)
    · skip
      have c22n := hb_ngti c22
      refine lv_iconst (v := 0) hx hb d_Md_funds_26 (by decide) ?_
      have hm23 : mR cI cJ M y b0 b1 b2 b3 b4 b5 b6 b7 b8 b9 b10 b11 cd ho pa tm na np bal mi ky ac st he cl un dn ds dd dl := ⟨fy, g0, g1, g2, g3, g4, g5, g6, g7, g8, g9, g10, g11, hap⟩
      refine hb_callV (rest := []) hX hts hb_gd Y_Md_goes (c_Md_goes hE M y b0 b1 b2 b3 b4 b5 b6 b7 b8 b9 b10 b11 cd ho pa tm na np bal mi ky ac st he cl un dn ds dd dl hm23 (by omega) (by omega) 0 (by decide)) ml_Md_83 im_Md_goes se_Md_goes hK fy hC_Md.1 hz hP hD hS hA rfl hl.1 rfl (Nat.le_of_ble_eq_true rfl) ⟨Nat.le_of_ble_eq_true rfl, Nat.le_of_ble_eq_true rfl⟩ ⟨Nat.le_of_ble_eq_true rfl, Nat.le_of_ble_eq_true rfl⟩ d_Md_funds_27 (fun v26 M24 H locs hq25 hP hD hS _ hkp => ?_)
      obtain ⟨ev27, h28⟩ := hq25
      subst ev27
      rw [if_pos (rfl : (0 : Int32) = 0)] at h28
      obtain ⟨fy29, g30, g31, g32, g33, g34, g35, g36, g37, g38, g39, g40, g41, -⟩ := id h28
      refine W.eq (g2 := F0 m 30 ls [.int 0]) rfl ?_
      refine lv_if_ne (tgt := 35) hx hb d_Md_funds_30 (by decide) (fun c42 => ?_) (fun c42 => ?_)
      · skip
        exfalso; revert c42; decide
      · skip
        refine lv_lconst (v := 0) hx hb d_Md_funds_33 (by decide) ?_
        exact hb_lret hAe hx hb hr hlocks hP hD hS (Nat.le_of_ble_eq_true rfl) (Nat.le_of_ble_eq_true rfl) (⟨rfl, ⟨fy29, g30, g31, g32, g33, g34, g35, g36, g37, g38, g39, g40, g41, hap⟩⟩) d_Md_funds_34
    · skip
      have c22n := hb_gti c22
      refine lv_iload_n hx hb d_Md_funds_13 rfl (lv_at hl 2 rfl) ?_
      refine lv_if_lt (tgt := 26) hx hb d_Md_funds_14 (by decide) (fun c43 => ?_) (fun c43 => ?_)
      · skip
        refine lv_iconst (v := 0) hx hb d_Md_funds_26 (by decide) ?_
        have hm44 : mR cI cJ M y b0 b1 b2 b3 b4 b5 b6 b7 b8 b9 b10 b11 cd ho pa tm na np bal mi ky ac st he cl un dn ds dd dl := ⟨fy, g0, g1, g2, g3, g4, g5, g6, g7, g8, g9, g10, g11, hap⟩
        refine hb_callV (rest := []) hX hts hb_gd Y_Md_goes (c_Md_goes hE M y b0 b1 b2 b3 b4 b5 b6 b7 b8 b9 b10 b11 cd ho pa tm na np bal mi ky ac st he cl un dn ds dd dl hm44 (by omega) (by omega) 0 (by decide)) ml_Md_83 im_Md_goes se_Md_goes hK fy hC_Md.1 hz hP hD hS hA rfl hl.1 rfl (Nat.le_of_ble_eq_true rfl) ⟨Nat.le_of_ble_eq_true rfl, Nat.le_of_ble_eq_true rfl⟩ ⟨Nat.le_of_ble_eq_true rfl, Nat.le_of_ble_eq_true rfl⟩ d_Md_funds_27 (fun v47 M45 H locs hq46 hP hD hS _ hkp => ?_)
        obtain ⟨ev48, h49⟩ := hq46
        subst ev48
        rw [if_pos (rfl : (0 : Int32) = 0)] at h49
        obtain ⟨fy50, g51, g52, g53, g54, g55, g56, g57, g58, g59, g60, g61, g62, -⟩ := id h49
        refine W.eq (g2 := F0 m 30 ls [.int 0]) rfl ?_
        refine lv_if_ne (tgt := 35) hx hb d_Md_funds_30 (by decide) (fun c63 => ?_) (fun c63 => ?_)
        · skip
          exfalso; revert c63; decide
        · skip
          refine lv_lconst (v := 0) hx hb d_Md_funds_33 (by decide) ?_
          exact hb_lret hAe hx hb hr hlocks hP hD hS (Nat.le_of_ble_eq_true rfl) (Nat.le_of_ble_eq_true rfl) (⟨rfl, ⟨fy50, g51, g52, g53, g54, g55, g56, g57, g58, g59, g60, g61, g62, hap⟩⟩) d_Md_funds_34
      · skip
        refine lv_iload_n hx hb d_Md_funds_17 rfl (lv_at hl 2 rfl) ?_
        refine lv_iconst (v := 3) hx hb d_Md_funds_18 (by decide) ?_
        refine lv_icmp_gt (tgt := 26) hx hb d_Md_funds_19 (by decide) (fun c64 => ?_) (fun c64 => ?_)
        · skip
          refine lv_iconst (v := 0) hx hb d_Md_funds_26 (by decide) ?_
          have hm65 : mR cI cJ M y b0 b1 b2 b3 b4 b5 b6 b7 b8 b9 b10 b11 cd ho pa tm na np bal mi ky ac st he cl un dn ds dd dl := ⟨fy, g0, g1, g2, g3, g4, g5, g6, g7, g8, g9, g10, g11, hap⟩
          refine hb_callV (rest := []) hX hts hb_gd Y_Md_goes (c_Md_goes hE M y b0 b1 b2 b3 b4 b5 b6 b7 b8 b9 b10 b11 cd ho pa tm na np bal mi ky ac st he cl un dn ds dd dl hm65 (by omega) (by omega) 0 (by decide)) ml_Md_83 im_Md_goes se_Md_goes hK fy hC_Md.1 hz hP hD hS hA rfl hl.1 rfl (Nat.le_of_ble_eq_true rfl) ⟨Nat.le_of_ble_eq_true rfl, Nat.le_of_ble_eq_true rfl⟩ ⟨Nat.le_of_ble_eq_true rfl, Nat.le_of_ble_eq_true rfl⟩ d_Md_funds_27 (fun v68 M66 H locs hq67 hP hD hS _ hkp => ?_)
          obtain ⟨ev69, h70⟩ := hq67
          subst ev69
          rw [if_pos (rfl : (0 : Int32) = 0)] at h70
          obtain ⟨fy71, g72, g73, g74, g75, g76, g77, g78, g79, g80, g81, g82, g83, -⟩ := id h70
          refine W.eq (g2 := F0 m 30 ls [.int 0]) rfl ?_
          refine lv_if_ne (tgt := 35) hx hb d_Md_funds_30 (by decide) (fun c84 => ?_) (fun c84 => ?_)
          · skip
            exfalso; revert c84; decide
          · skip
            refine lv_lconst (v := 0) hx hb d_Md_funds_33 (by decide) ?_
            exact hb_lret hAe hx hb hr hlocks hP hD hS (Nat.le_of_ble_eq_true rfl) (Nat.le_of_ble_eq_true rfl) (⟨rfl, ⟨fy71, g72, g73, g74, g75, g76, g77, g78, g79, g80, g81, g82, g83, hap⟩⟩) d_Md_funds_34
        · skip
          exfalso
          revert hbad
          simp_all
set_option maxHeartbeats 4000000 in
set_option maxRecDepth 100000 in
/-- payment: bad -/
theorem c_Md_payment_bad {l : Launch} {s0 : State} {D : va_G} {cI cJ cO : ClassId} {e0 mi : Nat} (hE : hb_E l s0 D cI cJ cO e0 mi) (M : hb_M) (y b0 b1 b2 b3 b4 b5 b6 b7 b8 b9 b10 b11 : Nat) (cd ho pa tm : Int32) (na np : Nat) (bal mi : Nat → Int64) (ky ac st : Nat → Int32) (he cl : Nat → Int64) (un dn ds : Nat → Int32) (dd : Nat → Int64) (dl : Nat → Int32) (h : mR cI cJ M y b0 b1 b2 b3 b4 b5 b6 b7 b8 b9 b10 b11 cd ho pa tm na np bal mi ky ac st he cl un dn ds dd dl) (hna : na ≤ 16) (hnp : np ≤ 60) (k wh : Int32) (hbad : (k < 0 ∨ 1000000 < k) ∨ (wh < 0 ∨ 8 < wh)) : hb_Met l D hb_cl s0 y_Md_payment b_Md_payment 4 (some .long) { frames := 3, cells := 0, slots := 0, locals := 100 } [.ref y, .int k, .int wh] M (fun v M1 => v = some (.long 0) ∧ mR cI cJ M1 y b0 b1 b2 b3 b4 b5 b6 b7 b8 b9 b10 b11 1 ho pa tm na np bal mi ky ac st he cl un dn ds dd dl) := by
  refine hb_Met.of (by decide) (Nat.le_of_ble_eq_true rfl) ?_
  intro p e s m below meth c A hAe hX hz hP hD hA hS ls hl
  obtain ⟨hx, hb, hr, hml, hown, hlocks, hnm, hG, hnh⟩ := id hX
  have hown : s.vm.findClass "HoldBookModel" = some m.cls := hown
  have hts := hE.ts hG ([.ref y, .int k, .int wh] : List Value).toArray
  have hK := hE.kn hG
  have hl : lv_has ls 4 [(0, .ref y), (1, .int k), (2, .int wh)] := hl
  obtain ⟨fy, g0, g1, g2, g3, g4, g5, g6, g7, g8, g9, g10, g11, hap⟩ := id h
  refine lv_aload_n hx hb d_Md_payment_0 rfl (lv_at hl 0 rfl) ?_
  refine lv_iload_n hx hb d_Md_payment_1 rfl (lv_at hl 1 rfl) ?_
  refine hb_callS (rest := [.ref y]) hX hts hb_gd Y_Md_isKey (c_Md_isKey hE M k) ml_Md_75 st_Md_isKey hz hP hD hS hA rfl hl.1 rfl (Nat.le_of_ble_eq_true rfl) ⟨Nat.le_of_ble_eq_true rfl, Nat.le_of_ble_eq_true rfl⟩ ⟨Nat.le_of_ble_eq_true rfl, Nat.le_of_ble_eq_true rfl⟩ d_Md_payment_2 (fun v3 M1 H locs hq2 hP hD hS _ hkp => ?_)
  obtain ⟨ev4, eM5⟩ := hq2
  subst ev4
  rw [eM5] at hP hD
  refine W.eq (g2 := F0 m 5 ls [.int (if k < 0 ∨ 1000000 < k then 0 else 1), .ref y]) rfl ?_
  refine lv_if_eq (tgt := 22) hx hb d_Md_payment_5 (by decide) (fun c6 => ?_) (fun c6 => ?_)
  · skip
    refine lv_iconst (v := 0) hx hb d_Md_payment_22 (by decide) ?_
    have hm7 : mR cI cJ M y b0 b1 b2 b3 b4 b5 b6 b7 b8 b9 b10 b11 cd ho pa tm na np bal mi ky ac st he cl un dn ds dd dl := ⟨fy, g0, g1, g2, g3, g4, g5, g6, g7, g8, g9, g10, g11, hap⟩
    refine hb_callV (rest := []) hX hts hb_gd Y_Md_goes (c_Md_goes hE M y b0 b1 b2 b3 b4 b5 b6 b7 b8 b9 b10 b11 cd ho pa tm na np bal mi ky ac st he cl un dn ds dd dl hm7 (by omega) (by omega) 0 (by decide)) ml_Md_83 im_Md_goes se_Md_goes hK fy hC_Md.1 hz hP hD hS hA rfl hl.1 rfl (Nat.le_of_ble_eq_true rfl) ⟨Nat.le_of_ble_eq_true rfl, Nat.le_of_ble_eq_true rfl⟩ ⟨Nat.le_of_ble_eq_true rfl, Nat.le_of_ble_eq_true rfl⟩ d_Md_payment_23 (fun v10 M8 H locs hq9 hP hD hS _ hkp => ?_)
    obtain ⟨ev11, h12⟩ := hq9
    subst ev11
    rw [if_pos (rfl : (0 : Int32) = 0)] at h12
    obtain ⟨fy13, g14, g15, g16, g17, g18, g19, g20, g21, g22, g23, g24, g25, -⟩ := id h12
    refine W.eq (g2 := F0 m 26 ls [.int 0]) rfl ?_
    refine lv_if_ne (tgt := 31) hx hb d_Md_payment_26 (by decide) (fun c26 => ?_) (fun c26 => ?_)
    · skip
      exfalso; revert c26; decide
    · skip
      refine lv_lconst (v := 0) hx hb d_Md_payment_29 (by decide) ?_
      exact hb_lret hAe hx hb hr hlocks hP hD hS (Nat.le_of_ble_eq_true rfl) (Nat.le_of_ble_eq_true rfl) (⟨rfl, ⟨fy13, g14, g15, g16, g17, g18, g19, g20, g21, g22, g23, g24, g25, hap⟩⟩) d_Md_payment_30
  · skip
    refine lv_iload_n hx hb d_Md_payment_8 rfl (lv_at hl 2 rfl) ?_
    refine lv_if_lt (tgt := 22) hx hb d_Md_payment_9 (by decide) (fun c27 => ?_) (fun c27 => ?_)
    · skip
      refine lv_iconst (v := 0) hx hb d_Md_payment_22 (by decide) ?_
      have hm28 : mR cI cJ M y b0 b1 b2 b3 b4 b5 b6 b7 b8 b9 b10 b11 cd ho pa tm na np bal mi ky ac st he cl un dn ds dd dl := ⟨fy, g0, g1, g2, g3, g4, g5, g6, g7, g8, g9, g10, g11, hap⟩
      refine hb_callV (rest := []) hX hts hb_gd Y_Md_goes (c_Md_goes hE M y b0 b1 b2 b3 b4 b5 b6 b7 b8 b9 b10 b11 cd ho pa tm na np bal mi ky ac st he cl un dn ds dd dl hm28 (by omega) (by omega) 0 (by decide)) ml_Md_83 im_Md_goes se_Md_goes hK fy hC_Md.1 hz hP hD hS hA rfl hl.1 rfl (Nat.le_of_ble_eq_true rfl) ⟨Nat.le_of_ble_eq_true rfl, Nat.le_of_ble_eq_true rfl⟩ ⟨Nat.le_of_ble_eq_true rfl, Nat.le_of_ble_eq_true rfl⟩ d_Md_payment_23 (fun v31 M29 H locs hq30 hP hD hS _ hkp => ?_)
      obtain ⟨ev32, h33⟩ := hq30
      subst ev32
      rw [if_pos (rfl : (0 : Int32) = 0)] at h33
      obtain ⟨fy34, g35, g36, g37, g38, g39, g40, g41, g42, g43, g44, g45, g46, -⟩ := id h33
      refine W.eq (g2 := F0 m 26 ls [.int 0]) rfl ?_
      refine lv_if_ne (tgt := 31) hx hb d_Md_payment_26 (by decide) (fun c47 => ?_) (fun c47 => ?_)
      · skip
        exfalso; revert c47; decide
      · skip
        refine lv_lconst (v := 0) hx hb d_Md_payment_29 (by decide) ?_
        exact hb_lret hAe hx hb hr hlocks hP hD hS (Nat.le_of_ble_eq_true rfl) (Nat.le_of_ble_eq_true rfl) (⟨rfl, ⟨fy34, g35, g36, g37, g38, g39, g40, g41, g42, g43, g44, g45, g46, hap⟩⟩) d_Md_payment_30
    · skip
      refine lv_iload_n hx hb d_Md_payment_12 rfl (lv_at hl 2 rfl) ?_
      refine lv_bipush (v := 8) hx hb d_Md_payment_13 (by decide) ?_
      refine lv_icmp_gt (tgt := 22) hx hb d_Md_payment_15 (by decide) (fun c48 => ?_) (fun c48 => ?_)
      · skip
        refine lv_iconst (v := 0) hx hb d_Md_payment_22 (by decide) ?_
        have hm49 : mR cI cJ M y b0 b1 b2 b3 b4 b5 b6 b7 b8 b9 b10 b11 cd ho pa tm na np bal mi ky ac st he cl un dn ds dd dl := ⟨fy, g0, g1, g2, g3, g4, g5, g6, g7, g8, g9, g10, g11, hap⟩
        refine hb_callV (rest := []) hX hts hb_gd Y_Md_goes (c_Md_goes hE M y b0 b1 b2 b3 b4 b5 b6 b7 b8 b9 b10 b11 cd ho pa tm na np bal mi ky ac st he cl un dn ds dd dl hm49 (by omega) (by omega) 0 (by decide)) ml_Md_83 im_Md_goes se_Md_goes hK fy hC_Md.1 hz hP hD hS hA rfl hl.1 rfl (Nat.le_of_ble_eq_true rfl) ⟨Nat.le_of_ble_eq_true rfl, Nat.le_of_ble_eq_true rfl⟩ ⟨Nat.le_of_ble_eq_true rfl, Nat.le_of_ble_eq_true rfl⟩ d_Md_payment_23 (fun v52 M50 H locs hq51 hP hD hS _ hkp => ?_)
        obtain ⟨ev53, h54⟩ := hq51
        subst ev53
        rw [if_pos (rfl : (0 : Int32) = 0)] at h54
        obtain ⟨fy55, g56, g57, g58, g59, g60, g61, g62, g63, g64, g65, g66, g67, -⟩ := id h54
        refine W.eq (g2 := F0 m 26 ls [.int 0]) rfl ?_
        refine lv_if_ne (tgt := 31) hx hb d_Md_payment_26 (by decide) (fun c68 => ?_) (fun c68 => ?_)
        · skip
          exfalso; revert c68; decide
        · skip
          refine lv_lconst (v := 0) hx hb d_Md_payment_29 (by decide) ?_
          exact hb_lret hAe hx hb hr hlocks hP hD hS (Nat.le_of_ble_eq_true rfl) (Nat.le_of_ble_eq_true rfl) (⟨rfl, ⟨fy55, g56, g57, g58, g59, g60, g61, g62, g63, g64, g65, g66, g67, hap⟩⟩) d_Md_payment_30
      · skip
        exfalso
        revert hbad
        simp_all
set_option maxHeartbeats 4000000 in
set_option maxRecDepth 100000 in
/-- key: bad -/
theorem c_Md_key_bad {l : Launch} {s0 : State} {D : va_G} {cI cJ cO : ClassId} {e0 mi : Nat} (hE : hb_E l s0 D cI cJ cO e0 mi) (M : hb_M) (y b0 b1 b2 b3 b4 b5 b6 b7 b8 b9 b10 b11 : Nat) (cd ho pa tm : Int32) (na np : Nat) (bal mi : Nat → Int64) (ky ac st : Nat → Int32) (he cl : Nat → Int64) (un dn ds : Nat → Int32) (dd : Nat → Int64) (dl : Nat → Int32) (h : mR cI cJ M y b0 b1 b2 b3 b4 b5 b6 b7 b8 b9 b10 b11 cd ho pa tm na np bal mi ky ac st he cl un dn ds dd dl) (hna : na ≤ 16) (hnp : np ≤ 60) (k : Int32) (hbad : k < 0) : hb_Met l D hb_cl s0 y_Md_key b_Md_key 5 (some .int) { frames := 3, cells := 0, slots := 0, locals := 100 } [.ref y, .int k] M (fun v M1 => v = some (.int 0) ∧ mR cI cJ M1 y b0 b1 b2 b3 b4 b5 b6 b7 b8 b9 b10 b11 1 ho pa tm na np bal mi ky ac st he cl un dn ds dd dl) := by
  refine hb_Met.of (by decide) (Nat.le_of_ble_eq_true rfl) ?_
  intro p e s m below meth c A hAe hX hz hP hD hA hS ls hl
  obtain ⟨hx, hb, hr, hml, hown, hlocks, hnm, hG, hnh⟩ := id hX
  have hown : s.vm.findClass "HoldBookModel" = some m.cls := hown
  have hts := hE.ts hG ([.ref y, .int k] : List Value).toArray
  have hK := hE.kn hG
  have hl : lv_has ls 5 [(0, .ref y), (1, .int k)] := hl
  obtain ⟨fy, g0, g1, g2, g3, g4, g5, g6, g7, g8, g9, g10, g11, hap⟩ := id h
  refine lv_aload_n hx hb d_Md_key_0 rfl (lv_at hl 0 rfl) ?_
  refine lv_iload_n hx hb d_Md_key_1 rfl (lv_at hl 1 rfl) ?_
  refine lv_if_lt (tgt := 9) hx hb d_Md_key_2 (by decide) (fun c1 => ?_) (fun c1 => ?_)
  · skip
    refine lv_iconst (v := 0) hx hb d_Md_key_9 (by decide) ?_
    have hm2 : mR cI cJ M y b0 b1 b2 b3 b4 b5 b6 b7 b8 b9 b10 b11 cd ho pa tm na np bal mi ky ac st he cl un dn ds dd dl := ⟨fy, g0, g1, g2, g3, g4, g5, g6, g7, g8, g9, g10, g11, hap⟩
    refine hb_callV (rest := []) hX hts hb_gd Y_Md_goes (c_Md_goes hE M y b0 b1 b2 b3 b4 b5 b6 b7 b8 b9 b10 b11 cd ho pa tm na np bal mi ky ac st he cl un dn ds dd dl hm2 (by omega) (by omega) 0 (by decide)) ml_Md_83 im_Md_goes se_Md_goes hK fy hC_Md.1 hz hP hD hS hA rfl hl.1 rfl (Nat.le_of_ble_eq_true rfl) ⟨Nat.le_of_ble_eq_true rfl, Nat.le_of_ble_eq_true rfl⟩ ⟨Nat.le_of_ble_eq_true rfl, Nat.le_of_ble_eq_true rfl⟩ d_Md_key_10 (fun v5 M3 H locs hq4 hP hD hS _ hkp => ?_)
    obtain ⟨ev6, h7⟩ := hq4
    subst ev6
    rw [if_pos (rfl : (0 : Int32) = 0)] at h7
    obtain ⟨fy8, g9, g10, g11, g12, g13, g14, g15, g16, g17, g18, g19, g20, -⟩ := id h7
    refine W.eq (g2 := F0 m 13 ls [.int 0]) rfl ?_
    refine lv_if_ne (tgt := 18) hx hb d_Md_key_13 (by decide) (fun c21 => ?_) (fun c21 => ?_)
    · skip
      exfalso; revert c21; decide
    · skip
      refine lv_iconst (v := 0) hx hb d_Md_key_16 (by decide) ?_
      exact hb_iret hAe hx hb hr hlocks hP hD hS (Nat.le_of_ble_eq_true rfl) (Nat.le_of_ble_eq_true rfl) (⟨rfl, ⟨fy8, g9, g10, g11, g12, g13, g14, g15, g16, g17, g18, g19, g20, hap⟩⟩) d_Md_key_17
  · skip
    exfalso
    revert hbad
    simp_all
set_option maxHeartbeats 4000000 in
set_option maxRecDepth 100000 in
/-- account: bad -/
theorem c_Md_account_bad {l : Launch} {s0 : State} {D : va_G} {cI cJ cO : ClassId} {e0 mi : Nat} (hE : hb_E l s0 D cI cJ cO e0 mi) (M : hb_M) (y b0 b1 b2 b3 b4 b5 b6 b7 b8 b9 b10 b11 : Nat) (cd ho pa tm : Int32) (na np : Nat) (bal mi : Nat → Int64) (ky ac st : Nat → Int32) (he cl : Nat → Int64) (un dn ds : Nat → Int32) (dd : Nat → Int64) (dl : Nat → Int32) (h : mR cI cJ M y b0 b1 b2 b3 b4 b5 b6 b7 b8 b9 b10 b11 cd ho pa tm na np bal mi ky ac st he cl un dn ds dd dl) (hna : na ≤ 16) (hnp : np ≤ 60) (b mn : Int64) (hbad : ¬ ((¬ b < -1000000000000 ∧ ¬ 1000000000000 < b) ∧ (¬ mn < -1000000000000 ∧ ¬ 0 < mn))) : hb_Met l D hb_cl s0 y_Md_account b_Md_account 6 (some .int) { frames := 3, cells := 0, slots := 0, locals := 100 } [.ref y, .long b, .long mn] M (fun v M1 => v = some (.int 0) ∧ mR cI cJ M1 y b0 b1 b2 b3 b4 b5 b6 b7 b8 b9 b10 b11 1 ho pa tm na np bal mi ky ac st he cl un dn ds dd dl) := by
  refine hb_Met.of (by decide) (Nat.le_of_ble_eq_true rfl) ?_
  intro p e s m below meth c A hAe hX hz hP hD hA hS ls hl
  obtain ⟨hx, hb, hr, hml, hown, hlocks, hnm, hG, hnh⟩ := id hX
  have hown : s.vm.findClass "HoldBookModel" = some m.cls := hown
  have hts := hE.ts hG ([.ref y, .long b, .long mn] : List Value).toArray
  have hK := hE.kn hG
  have hl : lv_has ls 6 [(0, .ref y), (1, .long b), (3, .long mn)] := hl
  obtain ⟨fy, g0, g1, g2, g3, g4, g5, g6, g7, g8, g9, g10, g11, hap⟩ := id h
  refine lv_lload_n hx hb d_Md_account_0 rfl (lv_at hl 1 rfl) ?_
  refine lv_ldc2 (v := (-1000000000000)) hx hb hown (hts _ kc_Md_70) d_Md_account_1 ?_
  refine hb_lc_lt (tgt := 34) hx hb d_Md_account_4 d_Md_account_5 (by decide) (fun c1 => ?_) (fun c1 => ?_)
  · skip
    refine lv_iconst (v := 0) hx hb d_Md_account_34 (by decide) ?_
    refine lv_istore (lv' := [(5, .int 0), (0, .ref y), (1, .long b), (3, .long mn)]) hx hb d_Md_account_35 hl (by decide) rfl (fun ls hl => ?_)
    refine lv_aload_n hx hb d_Md_account_37 rfl (lv_at hl 1 rfl) ?_
    refine lv_iload hx hb d_Md_account_38 (lv_at hl 0 rfl) ?_
    refine lv_if_ne (tgt := 47) hx hb d_Md_account_40 (by decide) (fun c2 => ?_) (fun c2 => ?_)
    · skip
      exfalso; revert c2; decide
    · skip
      refine lv_iconst (v := 1) hx hb d_Md_account_43 (by decide) ?_
      refine lv_goto (tgt := 61) hx hb d_Md_account_44 (by decide) ?_
      refine hb_put (ty := .int) hx hb hts hown hC_Md hK hP hD hS fy 0 (by decide) rfl fl_Md_54 rfl rfl rfl rfl (Nat.le_of_ble_eq_true rfl) d_Md_account_61 (fun M3 H locs eM4 hP hD hS => ?_)
      have f5 : M3 y = some (.inr (4, [.int 1, .int ho, .int pa, .int tm, .int (nI na), .ref b0, .ref b1, .int (nI np), .ref b2, .ref b3, .ref b4, .ref b5, .ref b6, .ref b7, .ref b8, .ref b9, .ref b10, .ref b11])) := by rw [eM4]; exact hb_up_self
      have f6 : M3 b0 = some (.inl (cJ, 16, .inr (.inl bal))) := by rw [eM4, hb_up_ne (fun q9 => by rw [q9, fy] at g0; cases g0)]; exact g0
      have f7 : M3 b1 = some (.inl (cJ, 16, .inr (.inl mi))) := by rw [eM4, hb_up_ne (fun q9 => by rw [q9, fy] at g1; cases g1)]; exact g1
      have f8 : M3 b2 = some (.inl (cI, 60, .inl ky)) := by rw [eM4, hb_up_ne (fun q9 => by rw [q9, fy] at g2; cases g2)]; exact g2
      have f9 : M3 b3 = some (.inl (cI, 60, .inl ac)) := by rw [eM4, hb_up_ne (fun q9 => by rw [q9, fy] at g3; cases g3)]; exact g3
      have f10 : M3 b4 = some (.inl (cI, 60, .inl st)) := by rw [eM4, hb_up_ne (fun q9 => by rw [q9, fy] at g4; cases g4)]; exact g4
      have f11 : M3 b5 = some (.inl (cJ, 60, .inr (.inl he))) := by rw [eM4, hb_up_ne (fun q9 => by rw [q9, fy] at g5; cases g5)]; exact g5
      have f12 : M3 b6 = some (.inl (cJ, 60, .inr (.inl cl))) := by rw [eM4, hb_up_ne (fun q9 => by rw [q9, fy] at g6; cases g6)]; exact g6
      have f13 : M3 b7 = some (.inl (cI, 60, .inl un)) := by rw [eM4, hb_up_ne (fun q9 => by rw [q9, fy] at g7; cases g7)]; exact g7
      have f14 : M3 b8 = some (.inl (cI, 60, .inl dn)) := by rw [eM4, hb_up_ne (fun q9 => by rw [q9, fy] at g8; cases g8)]; exact g8
      have f15 : M3 b9 = some (.inl (cI, 60, .inl ds)) := by rw [eM4, hb_up_ne (fun q9 => by rw [q9, fy] at g9; cases g9)]; exact g9
      have f16 : M3 b10 = some (.inl (cJ, 60, .inr (.inl dd))) := by rw [eM4, hb_up_ne (fun q9 => by rw [q9, fy] at g10; cases g10)]; exact g10
      have f17 : M3 b11 = some (.inl (cI, 60, .inl dl)) := by rw [eM4, hb_up_ne (fun q9 => by rw [q9, fy] at g11; cases g11)]; exact g11
      refine lv_aload_n hx hb d_Md_account_64 rfl (lv_at hl 1 rfl) ?_
      refine hb_get hx hb hts hown hC_Md hK hP f5 0 (by decide) rfl fl_Md_54 rfl d_Md_account_65 ?_
      refine lv_if_le (tgt := 73) hx hb d_Md_account_68 (by decide) (fun c18 => ?_) (fun c18 => ?_)
      · skip
        have c18n := hb_ngti c18
        exfalso; revert c18; decide
      · skip
        have c18n := hb_gti c18
        refine lv_iconst (v := 0) hx hb d_Md_account_71 (by decide) ?_
        exact hb_iret hAe hx hb hr hlocks hP hD hS (Nat.le_of_ble_eq_true rfl) (Nat.le_of_ble_eq_true rfl) (⟨rfl, ⟨f5, f6, f7, f8, f9, f10, f11, f12, f13, f14, f15, f16, f17, hap⟩⟩) d_Md_account_72
  · skip
    refine lv_lload_n hx hb d_Md_account_8 rfl (lv_at hl 1 rfl) ?_
    refine lv_ldc2 (v := 1000000000000) hx hb hown (hts _ kc_Md_58) d_Md_account_9 ?_
    refine hb_lc_gt (tgt := 34) hx hb d_Md_account_12 d_Md_account_13 (by decide) (fun c19 => ?_) (fun c19 => ?_)
    · skip
      refine lv_iconst (v := 0) hx hb d_Md_account_34 (by decide) ?_
      refine lv_istore (lv' := [(5, .int 0), (0, .ref y), (1, .long b), (3, .long mn)]) hx hb d_Md_account_35 hl (by decide) rfl (fun ls hl => ?_)
      refine lv_aload_n hx hb d_Md_account_37 rfl (lv_at hl 1 rfl) ?_
      refine lv_iload hx hb d_Md_account_38 (lv_at hl 0 rfl) ?_
      refine lv_if_ne (tgt := 47) hx hb d_Md_account_40 (by decide) (fun c20 => ?_) (fun c20 => ?_)
      · skip
        exfalso; revert c20; decide
      · skip
        refine lv_iconst (v := 1) hx hb d_Md_account_43 (by decide) ?_
        refine lv_goto (tgt := 61) hx hb d_Md_account_44 (by decide) ?_
        refine hb_put (ty := .int) hx hb hts hown hC_Md hK hP hD hS fy 0 (by decide) rfl fl_Md_54 rfl rfl rfl rfl (Nat.le_of_ble_eq_true rfl) d_Md_account_61 (fun M21 H locs eM22 hP hD hS => ?_)
        have f23 : M21 y = some (.inr (4, [.int 1, .int ho, .int pa, .int tm, .int (nI na), .ref b0, .ref b1, .int (nI np), .ref b2, .ref b3, .ref b4, .ref b5, .ref b6, .ref b7, .ref b8, .ref b9, .ref b10, .ref b11])) := by rw [eM22]; exact hb_up_self
        have f24 : M21 b0 = some (.inl (cJ, 16, .inr (.inl bal))) := by rw [eM22, hb_up_ne (fun q9 => by rw [q9, fy] at g0; cases g0)]; exact g0
        have f25 : M21 b1 = some (.inl (cJ, 16, .inr (.inl mi))) := by rw [eM22, hb_up_ne (fun q9 => by rw [q9, fy] at g1; cases g1)]; exact g1
        have f26 : M21 b2 = some (.inl (cI, 60, .inl ky)) := by rw [eM22, hb_up_ne (fun q9 => by rw [q9, fy] at g2; cases g2)]; exact g2
        have f27 : M21 b3 = some (.inl (cI, 60, .inl ac)) := by rw [eM22, hb_up_ne (fun q9 => by rw [q9, fy] at g3; cases g3)]; exact g3
        have f28 : M21 b4 = some (.inl (cI, 60, .inl st)) := by rw [eM22, hb_up_ne (fun q9 => by rw [q9, fy] at g4; cases g4)]; exact g4
        have f29 : M21 b5 = some (.inl (cJ, 60, .inr (.inl he))) := by rw [eM22, hb_up_ne (fun q9 => by rw [q9, fy] at g5; cases g5)]; exact g5
        have f30 : M21 b6 = some (.inl (cJ, 60, .inr (.inl cl))) := by rw [eM22, hb_up_ne (fun q9 => by rw [q9, fy] at g6; cases g6)]; exact g6
        have f31 : M21 b7 = some (.inl (cI, 60, .inl un)) := by rw [eM22, hb_up_ne (fun q9 => by rw [q9, fy] at g7; cases g7)]; exact g7
        have f32 : M21 b8 = some (.inl (cI, 60, .inl dn)) := by rw [eM22, hb_up_ne (fun q9 => by rw [q9, fy] at g8; cases g8)]; exact g8
        have f33 : M21 b9 = some (.inl (cI, 60, .inl ds)) := by rw [eM22, hb_up_ne (fun q9 => by rw [q9, fy] at g9; cases g9)]; exact g9
        have f34 : M21 b10 = some (.inl (cJ, 60, .inr (.inl dd))) := by rw [eM22, hb_up_ne (fun q9 => by rw [q9, fy] at g10; cases g10)]; exact g10
        have f35 : M21 b11 = some (.inl (cI, 60, .inl dl)) := by rw [eM22, hb_up_ne (fun q9 => by rw [q9, fy] at g11; cases g11)]; exact g11
        refine lv_aload_n hx hb d_Md_account_64 rfl (lv_at hl 1 rfl) ?_
        refine hb_get hx hb hts hown hC_Md hK hP f23 0 (by decide) rfl fl_Md_54 rfl d_Md_account_65 ?_
        refine lv_if_le (tgt := 73) hx hb d_Md_account_68 (by decide) (fun c36 => ?_) (fun c36 => ?_)
        · skip
          have c36n := hb_ngti c36
          exfalso; revert c36; decide
        · skip
          have c36n := hb_gti c36
          refine lv_iconst (v := 0) hx hb d_Md_account_71 (by decide) ?_
          exact hb_iret hAe hx hb hr hlocks hP hD hS (Nat.le_of_ble_eq_true rfl) (Nat.le_of_ble_eq_true rfl) (⟨rfl, ⟨f23, f24, f25, f26, f27, f28, f29, f30, f31, f32, f33, f34, f35, hap⟩⟩) d_Md_account_72
    · skip
      refine lv_lload_n hx hb d_Md_account_16 rfl (lv_at hl 2 rfl) ?_
      refine lv_ldc2 (v := (-1000000000000)) hx hb hown (hts _ kc_Md_70) d_Md_account_17 ?_
      refine hb_lc_lt (tgt := 34) hx hb d_Md_account_20 d_Md_account_21 (by decide) (fun c37 => ?_) (fun c37 => ?_)
      · skip
        refine lv_iconst (v := 0) hx hb d_Md_account_34 (by decide) ?_
        refine lv_istore (lv' := [(5, .int 0), (0, .ref y), (1, .long b), (3, .long mn)]) hx hb d_Md_account_35 hl (by decide) rfl (fun ls hl => ?_)
        refine lv_aload_n hx hb d_Md_account_37 rfl (lv_at hl 1 rfl) ?_
        refine lv_iload hx hb d_Md_account_38 (lv_at hl 0 rfl) ?_
        refine lv_if_ne (tgt := 47) hx hb d_Md_account_40 (by decide) (fun c38 => ?_) (fun c38 => ?_)
        · skip
          exfalso; revert c38; decide
        · skip
          refine lv_iconst (v := 1) hx hb d_Md_account_43 (by decide) ?_
          refine lv_goto (tgt := 61) hx hb d_Md_account_44 (by decide) ?_
          refine hb_put (ty := .int) hx hb hts hown hC_Md hK hP hD hS fy 0 (by decide) rfl fl_Md_54 rfl rfl rfl rfl (Nat.le_of_ble_eq_true rfl) d_Md_account_61 (fun M39 H locs eM40 hP hD hS => ?_)
          have f41 : M39 y = some (.inr (4, [.int 1, .int ho, .int pa, .int tm, .int (nI na), .ref b0, .ref b1, .int (nI np), .ref b2, .ref b3, .ref b4, .ref b5, .ref b6, .ref b7, .ref b8, .ref b9, .ref b10, .ref b11])) := by rw [eM40]; exact hb_up_self
          have f42 : M39 b0 = some (.inl (cJ, 16, .inr (.inl bal))) := by rw [eM40, hb_up_ne (fun q9 => by rw [q9, fy] at g0; cases g0)]; exact g0
          have f43 : M39 b1 = some (.inl (cJ, 16, .inr (.inl mi))) := by rw [eM40, hb_up_ne (fun q9 => by rw [q9, fy] at g1; cases g1)]; exact g1
          have f44 : M39 b2 = some (.inl (cI, 60, .inl ky)) := by rw [eM40, hb_up_ne (fun q9 => by rw [q9, fy] at g2; cases g2)]; exact g2
          have f45 : M39 b3 = some (.inl (cI, 60, .inl ac)) := by rw [eM40, hb_up_ne (fun q9 => by rw [q9, fy] at g3; cases g3)]; exact g3
          have f46 : M39 b4 = some (.inl (cI, 60, .inl st)) := by rw [eM40, hb_up_ne (fun q9 => by rw [q9, fy] at g4; cases g4)]; exact g4
          have f47 : M39 b5 = some (.inl (cJ, 60, .inr (.inl he))) := by rw [eM40, hb_up_ne (fun q9 => by rw [q9, fy] at g5; cases g5)]; exact g5
          have f48 : M39 b6 = some (.inl (cJ, 60, .inr (.inl cl))) := by rw [eM40, hb_up_ne (fun q9 => by rw [q9, fy] at g6; cases g6)]; exact g6
          have f49 : M39 b7 = some (.inl (cI, 60, .inl un)) := by rw [eM40, hb_up_ne (fun q9 => by rw [q9, fy] at g7; cases g7)]; exact g7
          have f50 : M39 b8 = some (.inl (cI, 60, .inl dn)) := by rw [eM40, hb_up_ne (fun q9 => by rw [q9, fy] at g8; cases g8)]; exact g8
          have f51 : M39 b9 = some (.inl (cI, 60, .inl ds)) := by rw [eM40, hb_up_ne (fun q9 => by rw [q9, fy] at g9; cases g9)]; exact g9
          have f52 : M39 b10 = some (.inl (cJ, 60, .inr (.inl dd))) := by rw [eM40, hb_up_ne (fun q9 => by rw [q9, fy] at g10; cases g10)]; exact g10
          have f53 : M39 b11 = some (.inl (cI, 60, .inl dl)) := by rw [eM40, hb_up_ne (fun q9 => by rw [q9, fy] at g11; cases g11)]; exact g11
          refine lv_aload_n hx hb d_Md_account_64 rfl (lv_at hl 1 rfl) ?_
          refine hb_get hx hb hts hown hC_Md hK hP f41 0 (by decide) rfl fl_Md_54 rfl d_Md_account_65 ?_
          refine lv_if_le (tgt := 73) hx hb d_Md_account_68 (by decide) (fun c54 => ?_) (fun c54 => ?_)
          · skip
            have c54n := hb_ngti c54
            exfalso; revert c54; decide
          · skip
            have c54n := hb_gti c54
            refine lv_iconst (v := 0) hx hb d_Md_account_71 (by decide) ?_
            exact hb_iret hAe hx hb hr hlocks hP hD hS (Nat.le_of_ble_eq_true rfl) (Nat.le_of_ble_eq_true rfl) (⟨rfl, ⟨f41, f42, f43, f44, f45, f46, f47, f48, f49, f50, f51, f52, f53, hap⟩⟩) d_Md_account_72
      · skip
        refine lv_lload_n hx hb d_Md_account_24 rfl (lv_at hl 2 rfl) ?_
        refine lv_lconst (v := 0) hx hb d_Md_account_25 (by decide) ?_
        refine hb_lc_gt (tgt := 34) hx hb d_Md_account_26 d_Md_account_27 (by decide) (fun c55 => ?_) (fun c55 => ?_)
        · skip
          refine lv_iconst (v := 0) hx hb d_Md_account_34 (by decide) ?_
          refine lv_istore (lv' := [(5, .int 0), (0, .ref y), (1, .long b), (3, .long mn)]) hx hb d_Md_account_35 hl (by decide) rfl (fun ls hl => ?_)
          refine lv_aload_n hx hb d_Md_account_37 rfl (lv_at hl 1 rfl) ?_
          refine lv_iload hx hb d_Md_account_38 (lv_at hl 0 rfl) ?_
          refine lv_if_ne (tgt := 47) hx hb d_Md_account_40 (by decide) (fun c56 => ?_) (fun c56 => ?_)
          · skip
            exfalso; revert c56; decide
          · skip
            refine lv_iconst (v := 1) hx hb d_Md_account_43 (by decide) ?_
            refine lv_goto (tgt := 61) hx hb d_Md_account_44 (by decide) ?_
            refine hb_put (ty := .int) hx hb hts hown hC_Md hK hP hD hS fy 0 (by decide) rfl fl_Md_54 rfl rfl rfl rfl (Nat.le_of_ble_eq_true rfl) d_Md_account_61 (fun M57 H locs eM58 hP hD hS => ?_)
            have f59 : M57 y = some (.inr (4, [.int 1, .int ho, .int pa, .int tm, .int (nI na), .ref b0, .ref b1, .int (nI np), .ref b2, .ref b3, .ref b4, .ref b5, .ref b6, .ref b7, .ref b8, .ref b9, .ref b10, .ref b11])) := by rw [eM58]; exact hb_up_self
            have f60 : M57 b0 = some (.inl (cJ, 16, .inr (.inl bal))) := by rw [eM58, hb_up_ne (fun q9 => by rw [q9, fy] at g0; cases g0)]; exact g0
            have f61 : M57 b1 = some (.inl (cJ, 16, .inr (.inl mi))) := by rw [eM58, hb_up_ne (fun q9 => by rw [q9, fy] at g1; cases g1)]; exact g1
            have f62 : M57 b2 = some (.inl (cI, 60, .inl ky)) := by rw [eM58, hb_up_ne (fun q9 => by rw [q9, fy] at g2; cases g2)]; exact g2
            have f63 : M57 b3 = some (.inl (cI, 60, .inl ac)) := by rw [eM58, hb_up_ne (fun q9 => by rw [q9, fy] at g3; cases g3)]; exact g3
            have f64 : M57 b4 = some (.inl (cI, 60, .inl st)) := by rw [eM58, hb_up_ne (fun q9 => by rw [q9, fy] at g4; cases g4)]; exact g4
            have f65 : M57 b5 = some (.inl (cJ, 60, .inr (.inl he))) := by rw [eM58, hb_up_ne (fun q9 => by rw [q9, fy] at g5; cases g5)]; exact g5
            have f66 : M57 b6 = some (.inl (cJ, 60, .inr (.inl cl))) := by rw [eM58, hb_up_ne (fun q9 => by rw [q9, fy] at g6; cases g6)]; exact g6
            have f67 : M57 b7 = some (.inl (cI, 60, .inl un)) := by rw [eM58, hb_up_ne (fun q9 => by rw [q9, fy] at g7; cases g7)]; exact g7
            have f68 : M57 b8 = some (.inl (cI, 60, .inl dn)) := by rw [eM58, hb_up_ne (fun q9 => by rw [q9, fy] at g8; cases g8)]; exact g8
            have f69 : M57 b9 = some (.inl (cI, 60, .inl ds)) := by rw [eM58, hb_up_ne (fun q9 => by rw [q9, fy] at g9; cases g9)]; exact g9
            have f70 : M57 b10 = some (.inl (cJ, 60, .inr (.inl dd))) := by rw [eM58, hb_up_ne (fun q9 => by rw [q9, fy] at g10; cases g10)]; exact g10
            have f71 : M57 b11 = some (.inl (cI, 60, .inl dl)) := by rw [eM58, hb_up_ne (fun q9 => by rw [q9, fy] at g11; cases g11)]; exact g11
            refine lv_aload_n hx hb d_Md_account_64 rfl (lv_at hl 1 rfl) ?_
            refine hb_get hx hb hts hown hC_Md hK hP f59 0 (by decide) rfl fl_Md_54 rfl d_Md_account_65 ?_
            refine lv_if_le (tgt := 73) hx hb d_Md_account_68 (by decide) (fun c72 => ?_) (fun c72 => ?_)
            · skip
              have c72n := hb_ngti c72
              exfalso; revert c72; decide
            · skip
              have c72n := hb_gti c72
              refine lv_iconst (v := 0) hx hb d_Md_account_71 (by decide) ?_
              exact hb_iret hAe hx hb hr hlocks hP hD hS (Nat.le_of_ble_eq_true rfl) (Nat.le_of_ble_eq_true rfl) (⟨rfl, ⟨f59, f60, f61, f62, f63, f64, f65, f66, f67, f68, f69, f70, f71, hap⟩⟩) d_Md_account_72
        · skip
          exact absurd ⟨⟨by assumption, by assumption⟩, ⟨by assumption, by assumption⟩⟩ hbad
set_option maxHeartbeats 4000000 in
set_option maxRecDepth 100000 in
/-- account: ise -/
theorem c_Md_account_ise {l : Launch} {s0 : State} {D : va_G} {cI cJ cO : ClassId} {e0 mi : Nat} (hE : hb_E l s0 D cI cJ cO e0 mi) (M : hb_M) (y b0 b1 b2 b3 b4 b5 b6 b7 b8 b9 b10 b11 : Nat) (cd ho pa tm : Int32) (na np : Nat) (bal mi : Nat → Int64) (ky ac st : Nat → Int32) (he cl : Nat → Int64) (un dn ds : Nat → Int32) (dd : Nat → Int64) (dl : Nat → Int32) (h : mR cI cJ M y b0 b1 b2 b3 b4 b5 b6 b7 b8 b9 b10 b11 cd ho pa tm na np bal mi ky ac st he cl un dn ds dd dl) (hna : na ≤ 16) (hnp : np ≤ 60) (b mn : Int64) (hb1 : ¬ b < -1000000000000 ∧ ¬ 1000000000000 < b) (hb2 : ¬ mn < -1000000000000 ∧ ¬ 0 < mn) (hl9 : 16 ≤ na) : hb_Met l D hb_cl s0 y_Md_account b_Md_account 6 (some .int) { frames := 3, cells := 0, slots := 0, locals := 100 } [.ref y, .long b, .long mn] M (fun v M1 => v = some (.int 0) ∧ mR cI cJ M1 y b0 b1 b2 b3 b4 b5 b6 b7 b8 b9 b10 b11 2 ho pa tm na np bal mi ky ac st he cl un dn ds dd dl) := by
  refine hb_Met.of (by decide) (Nat.le_of_ble_eq_true rfl) ?_
  intro p e s m below meth c A hAe hX hz hP hD hA hS ls hl
  obtain ⟨hx, hb, hr, hml, hown, hlocks, hnm, hG, hnh⟩ := id hX
  have hown : s.vm.findClass "HoldBookModel" = some m.cls := hown
  have hts := hE.ts hG ([.ref y, .long b, .long mn] : List Value).toArray
  have hK := hE.kn hG
  have hl : lv_has ls 6 [(0, .ref y), (1, .long b), (3, .long mn)] := hl
  obtain ⟨fy, g0, g1, g2, g3, g4, g5, g6, g7, g8, g9, g10, g11, hap⟩ := id h
  refine lv_lload_n hx hb d_Md_account_0 rfl (lv_at hl 1 rfl) ?_
  refine lv_ldc2 (v := (-1000000000000)) hx hb hown (hts _ kc_Md_70) d_Md_account_1 ?_
  refine hb_lc_lt (tgt := 34) hx hb d_Md_account_4 d_Md_account_5 (by decide) (fun c1 => ?_) (fun c1 => ?_)
  · skip
    exact absurd c1 hb1.1
  · skip
    refine lv_lload_n hx hb d_Md_account_8 rfl (lv_at hl 1 rfl) ?_
    refine lv_ldc2 (v := 1000000000000) hx hb hown (hts _ kc_Md_58) d_Md_account_9 ?_
    refine hb_lc_gt (tgt := 34) hx hb d_Md_account_12 d_Md_account_13 (by decide) (fun c2 => ?_) (fun c2 => ?_)
    · skip
      exact absurd c2 hb1.2
    · skip
      refine lv_lload_n hx hb d_Md_account_16 rfl (lv_at hl 2 rfl) ?_
      refine lv_ldc2 (v := (-1000000000000)) hx hb hown (hts _ kc_Md_70) d_Md_account_17 ?_
      refine hb_lc_lt (tgt := 34) hx hb d_Md_account_20 d_Md_account_21 (by decide) (fun c3 => ?_) (fun c3 => ?_)
      · skip
        exact absurd c3 hb2.1
      · skip
        refine lv_lload_n hx hb d_Md_account_24 rfl (lv_at hl 2 rfl) ?_
        refine lv_lconst (v := 0) hx hb d_Md_account_25 (by decide) ?_
        refine hb_lc_gt (tgt := 34) hx hb d_Md_account_26 d_Md_account_27 (by decide) (fun c4 => ?_) (fun c4 => ?_)
        · skip
          exact absurd c4 hb2.2
        · skip
          refine lv_iconst (v := 1) hx hb d_Md_account_30 (by decide) ?_
          refine lv_goto (tgt := 35) hx hb d_Md_account_31 (by decide) ?_
          refine lv_istore (lv' := [(5, .int 1), (0, .ref y), (1, .long b), (3, .long mn)]) hx hb d_Md_account_35 hl (by decide) rfl (fun ls hl => ?_)
          refine lv_aload_n hx hb d_Md_account_37 rfl (lv_at hl 1 rfl) ?_
          refine lv_iload hx hb d_Md_account_38 (lv_at hl 0 rfl) ?_
          refine lv_if_ne (tgt := 47) hx hb d_Md_account_40 (by decide) (fun c5 => ?_) (fun c5 => ?_)
          · skip
            refine lv_aload_n hx hb d_Md_account_47 rfl (lv_at hl 1 rfl) ?_
            refine hb_get hx hb hts hown hC_Md hK hP fy 4 (by decide) rfl fl_Md_72 rfl d_Md_account_48 ?_
            refine lv_bipush (v := 16) hx hb d_Md_account_51 (by decide) ?_
            refine lv_icmp_ne (tgt := 60) hx hb d_Md_account_53 (by decide) (fun c6 => ?_) (fun c6 => ?_)
            · skip
              exact absurd (show nI na = 16 by rw [show na = 16 by omega]; rfl) c6
            · skip
              refine lv_iconst (v := 2) hx hb d_Md_account_56 (by decide) ?_
              refine lv_goto (tgt := 61) hx hb d_Md_account_57 (by decide) ?_
              refine hb_put (ty := .int) hx hb hts hown hC_Md hK hP hD hS fy 0 (by decide) rfl fl_Md_54 rfl rfl rfl rfl (Nat.le_of_ble_eq_true rfl) d_Md_account_61 (fun M7 H locs eM8 hP hD hS => ?_)
              have f9 : M7 y = some (.inr (4, [.int 2, .int ho, .int pa, .int tm, .int (nI na), .ref b0, .ref b1, .int (nI np), .ref b2, .ref b3, .ref b4, .ref b5, .ref b6, .ref b7, .ref b8, .ref b9, .ref b10, .ref b11])) := by rw [eM8]; exact hb_up_self
              have f10 : M7 b0 = some (.inl (cJ, 16, .inr (.inl bal))) := by rw [eM8, hb_up_ne (fun q9 => by rw [q9, fy] at g0; cases g0)]; exact g0
              have f11 : M7 b1 = some (.inl (cJ, 16, .inr (.inl mi))) := by rw [eM8, hb_up_ne (fun q9 => by rw [q9, fy] at g1; cases g1)]; exact g1
              have f12 : M7 b2 = some (.inl (cI, 60, .inl ky)) := by rw [eM8, hb_up_ne (fun q9 => by rw [q9, fy] at g2; cases g2)]; exact g2
              have f13 : M7 b3 = some (.inl (cI, 60, .inl ac)) := by rw [eM8, hb_up_ne (fun q9 => by rw [q9, fy] at g3; cases g3)]; exact g3
              have f14 : M7 b4 = some (.inl (cI, 60, .inl st)) := by rw [eM8, hb_up_ne (fun q9 => by rw [q9, fy] at g4; cases g4)]; exact g4
              have f15 : M7 b5 = some (.inl (cJ, 60, .inr (.inl he))) := by rw [eM8, hb_up_ne (fun q9 => by rw [q9, fy] at g5; cases g5)]; exact g5
              have f16 : M7 b6 = some (.inl (cJ, 60, .inr (.inl cl))) := by rw [eM8, hb_up_ne (fun q9 => by rw [q9, fy] at g6; cases g6)]; exact g6
              have f17 : M7 b7 = some (.inl (cI, 60, .inl un)) := by rw [eM8, hb_up_ne (fun q9 => by rw [q9, fy] at g7; cases g7)]; exact g7
              have f18 : M7 b8 = some (.inl (cI, 60, .inl dn)) := by rw [eM8, hb_up_ne (fun q9 => by rw [q9, fy] at g8; cases g8)]; exact g8
              have f19 : M7 b9 = some (.inl (cI, 60, .inl ds)) := by rw [eM8, hb_up_ne (fun q9 => by rw [q9, fy] at g9; cases g9)]; exact g9
              have f20 : M7 b10 = some (.inl (cJ, 60, .inr (.inl dd))) := by rw [eM8, hb_up_ne (fun q9 => by rw [q9, fy] at g10; cases g10)]; exact g10
              have f21 : M7 b11 = some (.inl (cI, 60, .inl dl)) := by rw [eM8, hb_up_ne (fun q9 => by rw [q9, fy] at g11; cases g11)]; exact g11
              refine lv_aload_n hx hb d_Md_account_64 rfl (lv_at hl 1 rfl) ?_
              refine hb_get hx hb hts hown hC_Md hK hP f9 0 (by decide) rfl fl_Md_54 rfl d_Md_account_65 ?_
              refine lv_if_le (tgt := 73) hx hb d_Md_account_68 (by decide) (fun c22 => ?_) (fun c22 => ?_)
              · skip
                have c22n := hb_ngti c22
                exfalso; revert c22; decide
              · skip
                have c22n := hb_gti c22
                refine lv_iconst (v := 0) hx hb d_Md_account_71 (by decide) ?_
                exact hb_iret hAe hx hb hr hlocks hP hD hS (Nat.le_of_ble_eq_true rfl) (Nat.le_of_ble_eq_true rfl) (⟨rfl, ⟨f9, f10, f11, f12, f13, f14, f15, f16, f17, f18, f19, f20, f21, hap⟩⟩) d_Md_account_72
          · skip
            exfalso; revert c5; decide
set_option maxHeartbeats 4000000 in
set_option maxRecDepth 100000 in
/-- account: ok -/
theorem c_Md_account_ok {l : Launch} {s0 : State} {D : va_G} {cI cJ cO : ClassId} {e0 mi : Nat} (hE : hb_E l s0 D cI cJ cO e0 mi) (M : hb_M) (y b0 b1 b2 b3 b4 b5 b6 b7 b8 b9 b10 b11 : Nat) (cd ho pa tm : Int32) (na np : Nat) (bal mi : Nat → Int64) (ky ac st : Nat → Int32) (he cl : Nat → Int64) (un dn ds : Nat → Int32) (dd : Nat → Int64) (dl : Nat → Int32) (h : mR cI cJ M y b0 b1 b2 b3 b4 b5 b6 b7 b8 b9 b10 b11 cd ho pa tm na np bal mi ky ac st he cl un dn ds dd dl) (hna : na ≤ 16) (hnp : np ≤ 60) (b mn : Int64) (hb1 : ¬ b < -1000000000000 ∧ ¬ 1000000000000 < b) (hb2 : ¬ mn < -1000000000000 ∧ ¬ 0 < mn) (hl9 : na < 16) : hb_Met l D hb_cl s0 y_Md_account b_Md_account 6 (some .int) { frames := 3, cells := 0, slots := 0, locals := 100 } [.ref y, .long b, .long mn] M (fun v M1 => v = some (.int (nI na)) ∧ mR cI cJ M1 y b0 b1 b2 b3 b4 b5 b6 b7 b8 b9 b10 b11 0 ho pa tm (na + 1) np (vp_updL bal na b) (vp_updL mi na mn) ky ac st he cl un dn ds dd dl) := by
  refine hb_Met.of (by decide) (Nat.le_of_ble_eq_true rfl) ?_
  intro p e s m below meth c A hAe hX hz hP hD hA hS ls hl
  obtain ⟨hx, hb, hr, hml, hown, hlocks, hnm, hG, hnh⟩ := id hX
  have hown : s.vm.findClass "HoldBookModel" = some m.cls := hown
  have hts := hE.ts hG ([.ref y, .long b, .long mn] : List Value).toArray
  have hK := hE.kn hG
  have hl : lv_has ls 6 [(0, .ref y), (1, .long b), (3, .long mn)] := hl
  obtain ⟨fy, g0, g1, g2, g3, g4, g5, g6, g7, g8, g9, g10, g11, hap⟩ := id h
  refine lv_lload_n hx hb d_Md_account_0 rfl (lv_at hl 1 rfl) ?_
  refine lv_ldc2 (v := (-1000000000000)) hx hb hown (hts _ kc_Md_70) d_Md_account_1 ?_
  refine hb_lc_lt (tgt := 34) hx hb d_Md_account_4 d_Md_account_5 (by decide) (fun c1 => ?_) (fun c1 => ?_)
  · skip
    exact absurd c1 hb1.1
  · skip
    refine lv_lload_n hx hb d_Md_account_8 rfl (lv_at hl 1 rfl) ?_
    refine lv_ldc2 (v := 1000000000000) hx hb hown (hts _ kc_Md_58) d_Md_account_9 ?_
    refine hb_lc_gt (tgt := 34) hx hb d_Md_account_12 d_Md_account_13 (by decide) (fun c2 => ?_) (fun c2 => ?_)
    · skip
      exact absurd c2 hb1.2
    · skip
      refine lv_lload_n hx hb d_Md_account_16 rfl (lv_at hl 2 rfl) ?_
      refine lv_ldc2 (v := (-1000000000000)) hx hb hown (hts _ kc_Md_70) d_Md_account_17 ?_
      refine hb_lc_lt (tgt := 34) hx hb d_Md_account_20 d_Md_account_21 (by decide) (fun c3 => ?_) (fun c3 => ?_)
      · skip
        exact absurd c3 hb2.1
      · skip
        refine lv_lload_n hx hb d_Md_account_24 rfl (lv_at hl 2 rfl) ?_
        refine lv_lconst (v := 0) hx hb d_Md_account_25 (by decide) ?_
        refine hb_lc_gt (tgt := 34) hx hb d_Md_account_26 d_Md_account_27 (by decide) (fun c4 => ?_) (fun c4 => ?_)
        · skip
          exact absurd c4 hb2.2
        · skip
          refine lv_iconst (v := 1) hx hb d_Md_account_30 (by decide) ?_
          refine lv_goto (tgt := 35) hx hb d_Md_account_31 (by decide) ?_
          refine lv_istore (lv' := [(5, .int 1), (0, .ref y), (1, .long b), (3, .long mn)]) hx hb d_Md_account_35 hl (by decide) rfl (fun ls hl => ?_)
          refine lv_aload_n hx hb d_Md_account_37 rfl (lv_at hl 1 rfl) ?_
          refine lv_iload hx hb d_Md_account_38 (lv_at hl 0 rfl) ?_
          refine lv_if_ne (tgt := 47) hx hb d_Md_account_40 (by decide) (fun c5 => ?_) (fun c5 => ?_)
          · skip
            refine lv_aload_n hx hb d_Md_account_47 rfl (lv_at hl 1 rfl) ?_
            refine hb_get hx hb hts hown hC_Md hK hP fy 4 (by decide) rfl fl_Md_72 rfl d_Md_account_48 ?_
            refine lv_bipush (v := 16) hx hb d_Md_account_51 (by decide) ?_
            refine lv_icmp_ne (tgt := 60) hx hb d_Md_account_53 (by decide) (fun c6 => ?_) (fun c6 => ?_)
            · skip
              refine lv_iconst (v := 0) hx hb d_Md_account_60 (by decide) ?_
              refine hb_put (ty := .int) hx hb hts hown hC_Md hK hP hD hS fy 0 (by decide) rfl fl_Md_54 rfl rfl rfl rfl (Nat.le_of_ble_eq_true rfl) d_Md_account_61 (fun M7 H locs eM8 hP hD hS => ?_)
              have f9 : M7 y = some (.inr (4, [.int 0, .int ho, .int pa, .int tm, .int (nI na), .ref b0, .ref b1, .int (nI np), .ref b2, .ref b3, .ref b4, .ref b5, .ref b6, .ref b7, .ref b8, .ref b9, .ref b10, .ref b11])) := by rw [eM8]; exact hb_up_self
              have f10 : M7 b0 = some (.inl (cJ, 16, .inr (.inl bal))) := by rw [eM8, hb_up_ne (fun q9 => by rw [q9, fy] at g0; cases g0)]; exact g0
              have f11 : M7 b1 = some (.inl (cJ, 16, .inr (.inl mi))) := by rw [eM8, hb_up_ne (fun q9 => by rw [q9, fy] at g1; cases g1)]; exact g1
              have f12 : M7 b2 = some (.inl (cI, 60, .inl ky)) := by rw [eM8, hb_up_ne (fun q9 => by rw [q9, fy] at g2; cases g2)]; exact g2
              have f13 : M7 b3 = some (.inl (cI, 60, .inl ac)) := by rw [eM8, hb_up_ne (fun q9 => by rw [q9, fy] at g3; cases g3)]; exact g3
              have f14 : M7 b4 = some (.inl (cI, 60, .inl st)) := by rw [eM8, hb_up_ne (fun q9 => by rw [q9, fy] at g4; cases g4)]; exact g4
              have f15 : M7 b5 = some (.inl (cJ, 60, .inr (.inl he))) := by rw [eM8, hb_up_ne (fun q9 => by rw [q9, fy] at g5; cases g5)]; exact g5
              have f16 : M7 b6 = some (.inl (cJ, 60, .inr (.inl cl))) := by rw [eM8, hb_up_ne (fun q9 => by rw [q9, fy] at g6; cases g6)]; exact g6
              have f17 : M7 b7 = some (.inl (cI, 60, .inl un)) := by rw [eM8, hb_up_ne (fun q9 => by rw [q9, fy] at g7; cases g7)]; exact g7
              have f18 : M7 b8 = some (.inl (cI, 60, .inl dn)) := by rw [eM8, hb_up_ne (fun q9 => by rw [q9, fy] at g8; cases g8)]; exact g8
              have f19 : M7 b9 = some (.inl (cI, 60, .inl ds)) := by rw [eM8, hb_up_ne (fun q9 => by rw [q9, fy] at g9; cases g9)]; exact g9
              have f20 : M7 b10 = some (.inl (cJ, 60, .inr (.inl dd))) := by rw [eM8, hb_up_ne (fun q9 => by rw [q9, fy] at g10; cases g10)]; exact g10
              have f21 : M7 b11 = some (.inl (cI, 60, .inl dl)) := by rw [eM8, hb_up_ne (fun q9 => by rw [q9, fy] at g11; cases g11)]; exact g11
              refine lv_aload_n hx hb d_Md_account_64 rfl (lv_at hl 1 rfl) ?_
              refine hb_get hx hb hts hown hC_Md hK hP f9 0 (by decide) rfl fl_Md_54 rfl d_Md_account_65 ?_
              refine lv_if_le (tgt := 73) hx hb d_Md_account_68 (by decide) (fun c22 => ?_) (fun c22 => ?_)
              · skip
                have c22n := hb_ngti c22
                refine lv_aload_n hx hb d_Md_account_73 rfl (lv_at hl 1 rfl) ?_
                refine hb_get hx hb hts hown hC_Md hK hP f9 5 (by decide) rfl fl_Md_7 rfl d_Md_account_74 ?_
                refine lv_aload_n hx hb d_Md_account_77 rfl (lv_at hl 1 rfl) ?_
                refine hb_get hx hb hts hown hC_Md hK hP f9 4 (by decide) rfl fl_Md_72 rfl d_Md_account_78 ?_
                refine lv_lload_n hx hb d_Md_account_81 rfl (lv_at hl 2 rfl) ?_
                refine hb_last hx hb hK hP hD hS f10 (vp_in_nI (by omega) (by omega)) d_Md_account_82 (fun M23 H locs eM24 hP hD hS => ?_)
                rw [nI_clamp (show na < 2 ^ 31 by omega)] at eM24
                have f25 : M23 b0 = some (.inl (cJ, 16, .inr (.inl (vp_updL bal na b)))) := by rw [eM24]; exact hb_up_self
                have f26 : M23 y = some (.inr (4, [.int 0, .int ho, .int pa, .int tm, .int (nI na), .ref b0, .ref b1, .int (nI np), .ref b2, .ref b3, .ref b4, .ref b5, .ref b6, .ref b7, .ref b8, .ref b9, .ref b10, .ref b11])) := by rw [eM24, hb_up_ne (fun q9 => by rw [q9, f10] at f9; cases f9)]; exact f9
                have f27 : M23 b1 = some (.inl (cJ, 16, .inr (.inl mi))) := by rw [eM24, hb_up_ne (hap.ne 1 0 (by decide) rfl rfl)]; exact f11
                have f28 : M23 b2 = some (.inl (cI, 60, .inl ky)) := by rw [eM24, hb_up_ne (hap.ne 2 0 (by decide) rfl rfl)]; exact f12
                have f29 : M23 b3 = some (.inl (cI, 60, .inl ac)) := by rw [eM24, hb_up_ne (hap.ne 3 0 (by decide) rfl rfl)]; exact f13
                have f30 : M23 b4 = some (.inl (cI, 60, .inl st)) := by rw [eM24, hb_up_ne (hap.ne 4 0 (by decide) rfl rfl)]; exact f14
                have f31 : M23 b5 = some (.inl (cJ, 60, .inr (.inl he))) := by rw [eM24, hb_up_ne (hap.ne 5 0 (by decide) rfl rfl)]; exact f15
                have f32 : M23 b6 = some (.inl (cJ, 60, .inr (.inl cl))) := by rw [eM24, hb_up_ne (hap.ne 6 0 (by decide) rfl rfl)]; exact f16
                have f33 : M23 b7 = some (.inl (cI, 60, .inl un)) := by rw [eM24, hb_up_ne (hap.ne 7 0 (by decide) rfl rfl)]; exact f17
                have f34 : M23 b8 = some (.inl (cI, 60, .inl dn)) := by rw [eM24, hb_up_ne (hap.ne 8 0 (by decide) rfl rfl)]; exact f18
                have f35 : M23 b9 = some (.inl (cI, 60, .inl ds)) := by rw [eM24, hb_up_ne (hap.ne 9 0 (by decide) rfl rfl)]; exact f19
                have f36 : M23 b10 = some (.inl (cJ, 60, .inr (.inl dd))) := by rw [eM24, hb_up_ne (hap.ne 10 0 (by decide) rfl rfl)]; exact f20
                have f37 : M23 b11 = some (.inl (cI, 60, .inl dl)) := by rw [eM24, hb_up_ne (hap.ne 11 0 (by decide) rfl rfl)]; exact f21
                refine lv_aload_n hx hb d_Md_account_83 rfl (lv_at hl 1 rfl) ?_
                refine hb_get hx hb hts hown hC_Md hK hP f26 6 (by decide) rfl fl_Md_13 rfl d_Md_account_84 ?_
                refine lv_aload_n hx hb d_Md_account_87 rfl (lv_at hl 1 rfl) ?_
                refine hb_get hx hb hts hown hC_Md hK hP f26 4 (by decide) rfl fl_Md_72 rfl d_Md_account_88 ?_
                refine lv_lload_n hx hb d_Md_account_91 rfl (lv_at hl 3 rfl) ?_
                refine hb_last hx hb hK hP hD hS f27 (vp_in_nI (by omega) (by omega)) d_Md_account_92 (fun M38 H locs eM39 hP hD hS => ?_)
                rw [nI_clamp (show na < 2 ^ 31 by omega)] at eM39
                have f40 : M38 b1 = some (.inl (cJ, 16, .inr (.inl (vp_updL mi na mn)))) := by rw [eM39]; exact hb_up_self
                have f41 : M38 b0 = some (.inl (cJ, 16, .inr (.inl (vp_updL bal na b)))) := by rw [eM39, hb_up_ne (hap.ne 0 1 (by decide) rfl rfl)]; exact f25
                have f42 : M38 y = some (.inr (4, [.int 0, .int ho, .int pa, .int tm, .int (nI na), .ref b0, .ref b1, .int (nI np), .ref b2, .ref b3, .ref b4, .ref b5, .ref b6, .ref b7, .ref b8, .ref b9, .ref b10, .ref b11])) := by rw [eM39, hb_up_ne (fun q9 => by rw [q9, f27] at f26; cases f26)]; exact f26
                have f43 : M38 b2 = some (.inl (cI, 60, .inl ky)) := by rw [eM39, hb_up_ne (hap.ne 2 1 (by decide) rfl rfl)]; exact f28
                have f44 : M38 b3 = some (.inl (cI, 60, .inl ac)) := by rw [eM39, hb_up_ne (hap.ne 3 1 (by decide) rfl rfl)]; exact f29
                have f45 : M38 b4 = some (.inl (cI, 60, .inl st)) := by rw [eM39, hb_up_ne (hap.ne 4 1 (by decide) rfl rfl)]; exact f30
                have f46 : M38 b5 = some (.inl (cJ, 60, .inr (.inl he))) := by rw [eM39, hb_up_ne (hap.ne 5 1 (by decide) rfl rfl)]; exact f31
                have f47 : M38 b6 = some (.inl (cJ, 60, .inr (.inl cl))) := by rw [eM39, hb_up_ne (hap.ne 6 1 (by decide) rfl rfl)]; exact f32
                have f48 : M38 b7 = some (.inl (cI, 60, .inl un)) := by rw [eM39, hb_up_ne (hap.ne 7 1 (by decide) rfl rfl)]; exact f33
                have f49 : M38 b8 = some (.inl (cI, 60, .inl dn)) := by rw [eM39, hb_up_ne (hap.ne 8 1 (by decide) rfl rfl)]; exact f34
                have f50 : M38 b9 = some (.inl (cI, 60, .inl ds)) := by rw [eM39, hb_up_ne (hap.ne 9 1 (by decide) rfl rfl)]; exact f35
                have f51 : M38 b10 = some (.inl (cJ, 60, .inr (.inl dd))) := by rw [eM39, hb_up_ne (hap.ne 10 1 (by decide) rfl rfl)]; exact f36
                have f52 : M38 b11 = some (.inl (cI, 60, .inl dl)) := by rw [eM39, hb_up_ne (hap.ne 11 1 (by decide) rfl rfl)]; exact f37
                refine lv_aload_n hx hb d_Md_account_93 rfl (lv_at hl 1 rfl) ?_
                refine lv_dup hx hb d_Md_account_94 rfl ?_
                refine hb_get hx hb hts hown hC_Md hK hP f42 4 (by decide) rfl fl_Md_72 rfl d_Md_account_95 ?_
                refine lv_iconst (v := 1) hx hb d_Md_account_98 (by decide) ?_
                refine lv_iadd hx hb d_Md_account_99 ?_
                refine W.eq (g2 := F0 m 100 ls [.int (nI (na + 1)), .ref y]) (by rw [nI_1]) ?_
                refine hb_put (ty := .int) hx hb hts hown hC_Md hK hP hD hS f42 4 (by decide) rfl fl_Md_72 rfl rfl rfl rfl (Nat.le_of_ble_eq_true rfl) d_Md_account_100 (fun M53 H locs eM54 hP hD hS => ?_)
                have f55 : M53 y = some (.inr (4, [.int 0, .int ho, .int pa, .int tm, .int (nI (na + 1)), .ref b0, .ref b1, .int (nI np), .ref b2, .ref b3, .ref b4, .ref b5, .ref b6, .ref b7, .ref b8, .ref b9, .ref b10, .ref b11])) := by rw [eM54]; exact hb_up_self
                have f56 : M53 b1 = some (.inl (cJ, 16, .inr (.inl (vp_updL mi na mn)))) := by rw [eM54, hb_up_ne (fun q9 => by rw [q9, f42] at f40; cases f40)]; exact f40
                have f57 : M53 b0 = some (.inl (cJ, 16, .inr (.inl (vp_updL bal na b)))) := by rw [eM54, hb_up_ne (fun q9 => by rw [q9, f42] at f41; cases f41)]; exact f41
                have f58 : M53 b2 = some (.inl (cI, 60, .inl ky)) := by rw [eM54, hb_up_ne (fun q9 => by rw [q9, f42] at f43; cases f43)]; exact f43
                have f59 : M53 b3 = some (.inl (cI, 60, .inl ac)) := by rw [eM54, hb_up_ne (fun q9 => by rw [q9, f42] at f44; cases f44)]; exact f44
                have f60 : M53 b4 = some (.inl (cI, 60, .inl st)) := by rw [eM54, hb_up_ne (fun q9 => by rw [q9, f42] at f45; cases f45)]; exact f45
                have f61 : M53 b5 = some (.inl (cJ, 60, .inr (.inl he))) := by rw [eM54, hb_up_ne (fun q9 => by rw [q9, f42] at f46; cases f46)]; exact f46
                have f62 : M53 b6 = some (.inl (cJ, 60, .inr (.inl cl))) := by rw [eM54, hb_up_ne (fun q9 => by rw [q9, f42] at f47; cases f47)]; exact f47
                have f63 : M53 b7 = some (.inl (cI, 60, .inl un)) := by rw [eM54, hb_up_ne (fun q9 => by rw [q9, f42] at f48; cases f48)]; exact f48
                have f64 : M53 b8 = some (.inl (cI, 60, .inl dn)) := by rw [eM54, hb_up_ne (fun q9 => by rw [q9, f42] at f49; cases f49)]; exact f49
                have f65 : M53 b9 = some (.inl (cI, 60, .inl ds)) := by rw [eM54, hb_up_ne (fun q9 => by rw [q9, f42] at f50; cases f50)]; exact f50
                have f66 : M53 b10 = some (.inl (cJ, 60, .inr (.inl dd))) := by rw [eM54, hb_up_ne (fun q9 => by rw [q9, f42] at f51; cases f51)]; exact f51
                have f67 : M53 b11 = some (.inl (cI, 60, .inl dl)) := by rw [eM54, hb_up_ne (fun q9 => by rw [q9, f42] at f52; cases f52)]; exact f52
                refine lv_aload_n hx hb d_Md_account_103 rfl (lv_at hl 1 rfl) ?_
                refine hb_get hx hb hts hown hC_Md hK hP f55 4 (by decide) rfl fl_Md_72 rfl d_Md_account_104 ?_
                refine lv_iconst (v := 1) hx hb d_Md_account_107 (by decide) ?_
                refine lv_isub hx hb d_Md_account_108 ?_
                exact hb_iret hAe hx hb hr hlocks hP hD hS (Nat.le_of_ble_eq_true rfl) (Nat.le_of_ble_eq_true rfl) (⟨by rw [nI_pred], ⟨f55, f57, f56, f58, f59, f60, f61, f62, f63, f64, f65, f66, f67, hap⟩⟩) d_Md_account_109
              · skip
                have c22n := hb_gti c22
                exfalso; revert c22; decide
            · skip
              exact absurd ((nI_eq (b := 16) (by omega) (by omega)).mp c6) (by omega)
          · skip
            exfalso; revert c5; decide
set_option maxHeartbeats 4000000 in
set_option maxRecDepth 100000 in
/-- ask: dbl -/
theorem c_Md_ask_dbl {l : Launch} {s0 : State} {D : va_G} {cI cJ cO : ClassId} {e0 mi : Nat} (hE : hb_E l s0 D cI cJ cO e0 mi) (M : hb_M) (y b0 b1 b2 b3 b4 b5 b6 b7 b8 b9 b10 b11 : Nat) (cd ho pa tm : Int32) (na np : Nat) (bal mi : Nat → Int64) (ky ac st : Nat → Int32) (he cl : Nat → Int64) (un dn ds : Nat → Int32) (dd : Nat → Int64) (dl : Nat → Int32) (h : mR cI cJ M y b0 b1 b2 b3 b4 b5 b6 b7 b8 b9 b10 b11 cd ho pa tm na np bal mi ky ac st he cl un dn ds dd dl) (hna : na ≤ 16) (hnp : np ≤ 60) (k : Int32) (j : Nat) (hj : j < np) (hpl : hb_plc ky k np = nI j) (hkk : ¬ (k < 0 ∨ 1000000 < k)) (ka : Nat) (hka : ka < na) (am : Int64) (hm : ¬ (am < 1 ∨ 1000000000000 < am)) (pt9 : Int32) : hb_Met l D hb_cl s0 y_Md_ask b_Md_ask 10 (some .long) { frames := 3, cells := 0, slots := 0, locals := 100 } [.ref y, .int k, .int (nI ka), .long am, .int pt9] M (fun v M1 => v = some (.long (-8)) ∧ mR cI cJ M1 y b0 b1 b2 b3 b4 b5 b6 b7 b8 b9 b10 b11 0 ho pa tm na np bal mi ky ac st he cl un dn ds dd dl) := by
  refine hb_Met.of (by decide) (Nat.le_of_ble_eq_true rfl) ?_
  intro p e s m below meth c A hAe hX hz hP hD hA hS ls hl
  obtain ⟨hx, hb, hr, hml, hown, hlocks, hnm, hG, hnh⟩ := id hX
  have hown : s.vm.findClass "HoldBookModel" = some m.cls := hown
  have hts := hE.ts hG ([.ref y, .int k, .int (nI ka), .long am, .int pt9] : List Value).toArray
  have hK := hE.kn hG
  have hl : lv_has ls 10 [(0, .ref y), (1, .int k), (2, .int (nI ka)), (3, .long am), (5, .int pt9)] := hl
  obtain ⟨fy, g0, g1, g2, g3, g4, g5, g6, g7, g8, g9, g10, g11, hap⟩ := id h
  refine lv_aload_n hx hb d_Md_ask_0 rfl (lv_at hl 0 rfl) ?_
  refine lv_iload_n hx hb d_Md_ask_1 rfl (lv_at hl 1 rfl) ?_
  refine hb_callS (rest := [.ref y]) hX hts hb_gd Y_Md_isKey (c_Md_isKey hE M k) ml_Md_75 st_Md_isKey hz hP hD hS hA rfl hl.1 rfl (Nat.le_of_ble_eq_true rfl) ⟨Nat.le_of_ble_eq_true rfl, Nat.le_of_ble_eq_true rfl⟩ ⟨Nat.le_of_ble_eq_true rfl, Nat.le_of_ble_eq_true rfl⟩ d_Md_ask_2 (fun v3 M1 H locs hq2 hP hD hS _ hkp => ?_)
  obtain ⟨ev4, eM5⟩ := hq2
  rw [if_neg hkk] at ev4
  subst ev4
  rw [eM5] at hP hD
  refine W.eq (g2 := F0 m 5 ls [.int 1, .ref y]) rfl ?_
  refine lv_if_eq (tgt := 31) hx hb d_Md_ask_5 (by decide) (fun c6 => ?_) (fun c6 => ?_)
  · skip
    exfalso; revert c6; decide
  · skip
    refine lv_iload_n hx hb d_Md_ask_8 rfl (lv_at hl 2 rfl) ?_
    refine lv_if_lt (tgt := 31) hx hb d_Md_ask_9 (by decide) (fun c7 => ?_) (fun c7 => ?_)
    · skip
      exact absurd c7 (nI_pos (by omega))
    · skip
      refine lv_iload_n hx hb d_Md_ask_12 rfl (lv_at hl 2 rfl) ?_
      refine lv_aload_n hx hb d_Md_ask_13 rfl (lv_at hl 0 rfl) ?_
      refine hb_get hx hb hts hown hC_Md hK hP fy 4 (by decide) rfl fl_Md_72 rfl d_Md_ask_14 ?_
      refine lv_icmp_ge (tgt := 31) hx hb d_Md_ask_17 (by decide) (fun c8 => ?_) (fun c8 => ?_)
      · skip
        have c8n := hb_ngti c8
        exact absurd ((nI_leI (by omega) (by omega)).mp c8) (by omega)
      · skip
        have c8n := hb_gti c8
        refine lv_lload_n hx hb d_Md_ask_20 rfl (lv_at hl 3 rfl) ?_
        refine hb_callS (rest := [.ref y]) hX hts hb_gd Y_Md_isAmount (c_Md_isAmount hE M am) ml_Md_79 st_Md_isAmount hz hP hD hS hA rfl hl.1 rfl (Nat.le_of_ble_eq_true rfl) ⟨Nat.le_of_ble_eq_true rfl, Nat.le_of_ble_eq_true rfl⟩ ⟨Nat.le_of_ble_eq_true rfl, Nat.le_of_ble_eq_true rfl⟩ d_Md_ask_21 (fun v11 M9 H locs hq10 hP hD hS _ hkp => ?_)
        obtain ⟨ev12, eM13⟩ := hq10
        rw [if_neg hm] at ev12
        subst ev12
        rw [eM13] at hP hD
        refine W.eq (g2 := F0 m 24 ls [.int 1, .ref y]) rfl ?_
        refine lv_if_eq (tgt := 31) hx hb d_Md_ask_24 (by decide) (fun c14 => ?_) (fun c14 => ?_)
        · skip
          exfalso; revert c14; decide
        · skip
          refine lv_iconst (v := 1) hx hb d_Md_ask_27 (by decide) ?_
          refine lv_goto (tgt := 32) hx hb d_Md_ask_28 (by decide) ?_
          have hm15 : mR cI cJ M y b0 b1 b2 b3 b4 b5 b6 b7 b8 b9 b10 b11 cd ho pa tm na np bal mi ky ac st he cl un dn ds dd dl := ⟨fy, g0, g1, g2, g3, g4, g5, g6, g7, g8, g9, g10, g11, hap⟩
          refine hb_callV (rest := []) hX hts hb_gd Y_Md_goes (c_Md_goes hE M y b0 b1 b2 b3 b4 b5 b6 b7 b8 b9 b10 b11 cd ho pa tm na np bal mi ky ac st he cl un dn ds dd dl hm15 (by omega) (by omega) 1 (by decide)) ml_Md_83 im_Md_goes se_Md_goes hK fy hC_Md.1 hz hP hD hS hA rfl hl.1 rfl (Nat.le_of_ble_eq_true rfl) ⟨Nat.le_of_ble_eq_true rfl, Nat.le_of_ble_eq_true rfl⟩ ⟨Nat.le_of_ble_eq_true rfl, Nat.le_of_ble_eq_true rfl⟩ d_Md_ask_32 (fun v18 M16 H locs hq17 hP hD hS _ hkp => ?_)
          obtain ⟨ev19, h20⟩ := hq17
          subst ev19
          rw [if_neg (by decide : ¬ (1 : Int32) = 0)] at h20
          obtain ⟨fy21, g22, g23, g24, g25, g26, g27, g28, g29, g30, g31, g32, g33, -⟩ := id h20
          refine W.eq (g2 := F0 m 35 ls [.int 1]) rfl ?_
          refine lv_if_ne (tgt := 40) hx hb d_Md_ask_35 (by decide) (fun c34 => ?_) (fun c34 => ?_)
          · skip
            refine lv_aload_n hx hb d_Md_ask_40 rfl (lv_at hl 0 rfl) ?_
            refine lv_iload_n hx hb d_Md_ask_41 rfl (lv_at hl 1 rfl) ?_
            have hm35 : mR cI cJ M16 y b0 b1 b2 b3 b4 b5 b6 b7 b8 b9 b10 b11 0 ho pa tm na np bal mi ky ac st he cl un dn ds dd dl := ⟨fy21, g22, g23, g24, g25, g26, g27, g28, g29, g30, g31, g32, g33, hap⟩
            refine hb_callV (rest := []) hX hts hb_gd Y_Md_place (c_Md_place hE M16 y b0 b1 b2 b3 b4 b5 b6 b7 b8 b9 b10 b11 0 ho pa tm na np bal mi ky ac st he cl un dn ds dd dl hm35 (by omega) (by omega) k) ml_Md_87 im_Md_place se_Md_place hK fy21 hC_Md.1 hz hP hD hS hA rfl hl.1 rfl (Nat.le_of_ble_eq_true rfl) ⟨Nat.le_of_ble_eq_true rfl, Nat.le_of_ble_eq_true rfl⟩ ⟨Nat.le_of_ble_eq_true rfl, Nat.le_of_ble_eq_true rfl⟩ d_Md_ask_42 (fun v38 M36 H locs hq37 hP hD hS _ hkp => ?_)
            obtain ⟨ev39, eM40⟩ := hq37
            subst ev39
            rw [eM40] at hP hD
            refine W.eq (g2 := F0 m 45 ls [.int (hb_plc ky k np)]) rfl ?_
            refine W.eq (g2 := F0 m 45 ls [.int (nI j)]) (by rw [hpl]) ?_
            refine lv_if_ge (tgt := 57) hx hb d_Md_ask_45 (by decide) (fun c41 => ?_) (fun c41 => ?_)
            · skip
              have c41n := hb_ngti c41
              refine lv_aload_n hx hb d_Md_ask_57 rfl (lv_at hl 0 rfl) ?_
              refine lv_iload_n hx hb d_Md_ask_58 rfl (lv_at hl 1 rfl) ?_
              have hm42 : mR cI cJ M16 y b0 b1 b2 b3 b4 b5 b6 b7 b8 b9 b10 b11 0 ho pa tm na np bal mi ky ac st he cl un dn ds dd dl := ⟨fy21, g22, g23, g24, g25, g26, g27, g28, g29, g30, g31, g32, g33, hap⟩
              refine hb_callV (rest := []) hX hts hb_gd Y_Md_place (c_Md_place hE M16 y b0 b1 b2 b3 b4 b5 b6 b7 b8 b9 b10 b11 0 ho pa tm na np bal mi ky ac st he cl un dn ds dd dl hm42 (by omega) (by omega) k) ml_Md_87 im_Md_place se_Md_place hK fy21 hC_Md.1 hz hP hD hS hA rfl hl.1 rfl (Nat.le_of_ble_eq_true rfl) ⟨Nat.le_of_ble_eq_true rfl, Nat.le_of_ble_eq_true rfl⟩ ⟨Nat.le_of_ble_eq_true rfl, Nat.le_of_ble_eq_true rfl⟩ d_Md_ask_59 (fun v45 M43 H locs hq44 hP hD hS _ hkp => ?_)
              obtain ⟨ev46, eM47⟩ := hq44
              subst ev46
              rw [eM47] at hP hD
              refine W.eq (g2 := F0 m 62 ls [.int (hb_plc ky k np)]) rfl ?_
              refine W.eq (g2 := F0 m 62 ls [.int (nI j)]) (by rw [hpl]) ?_
              refine lv_if_lt (tgt := 71) hx hb d_Md_ask_62 (by decide) (fun c48 => ?_) (fun c48 => ?_)
              · skip
                exact absurd c48 (nI_pos (by omega))
              · skip
                refine lv_ldc2 (v := (-8)) hx hb hown (hts _ kc_Md_91) d_Md_ask_65 ?_
                refine lv_goto (tgt := 74) hx hb d_Md_ask_68 (by decide) ?_
                exact hb_lret hAe hx hb hr hlocks hP hD hS (Nat.le_of_ble_eq_true rfl) (Nat.le_of_ble_eq_true rfl) (⟨rfl, ⟨fy21, g22, g23, g24, g25, g26, g27, g28, g29, g30, g31, g32, g33, hap⟩⟩) d_Md_ask_74
            · skip
              have c41n := hb_gti c41
              exact absurd c41n (nI_pos (by omega))
          · skip
            exfalso; revert c34; decide
set_option maxHeartbeats 4000000 in
set_option maxRecDepth 100000 in
/-- ask: full -/
theorem c_Md_ask_full {l : Launch} {s0 : State} {D : va_G} {cI cJ cO : ClassId} {e0 mi : Nat} (hE : hb_E l s0 D cI cJ cO e0 mi) (M : hb_M) (y b0 b1 b2 b3 b4 b5 b6 b7 b8 b9 b10 b11 : Nat) (cd ho pa tm : Int32) (na np : Nat) (bal mi : Nat → Int64) (ky ac st : Nat → Int32) (he cl : Nat → Int64) (un dn ds : Nat → Int32) (dd : Nat → Int64) (dl : Nat → Int32) (h : mR cI cJ M y b0 b1 b2 b3 b4 b5 b6 b7 b8 b9 b10 b11 cd ho pa tm na np bal mi ky ac st he cl un dn ds dd dl) (hna : na ≤ 16) (hnp : np ≤ 60) (k : Int32) (hpl : hb_plc ky k np = -1) (hkk : ¬ (k < 0 ∨ 1000000 < k)) (ka : Nat) (hka : ka < na) (am : Int64) (hm : ¬ (am < 1 ∨ 1000000000000 < am)) (pt9 : Int32) (hfu : 60 ≤ np) : hb_Met l D hb_cl s0 y_Md_ask b_Md_ask 10 (some .long) { frames := 3, cells := 0, slots := 0, locals := 100 } [.ref y, .int k, .int (nI ka), .long am, .int pt9] M (fun v M1 => v = some (.long (-2)) ∧ mR cI cJ M1 y b0 b1 b2 b3 b4 b5 b6 b7 b8 b9 b10 b11 0 ho pa tm na np bal mi ky ac st he cl un dn ds dd dl) := by
  refine hb_Met.of (by decide) (Nat.le_of_ble_eq_true rfl) ?_
  intro p e s m below meth c A hAe hX hz hP hD hA hS ls hl
  obtain ⟨hx, hb, hr, hml, hown, hlocks, hnm, hG, hnh⟩ := id hX
  have hown : s.vm.findClass "HoldBookModel" = some m.cls := hown
  have hts := hE.ts hG ([.ref y, .int k, .int (nI ka), .long am, .int pt9] : List Value).toArray
  have hK := hE.kn hG
  have hl : lv_has ls 10 [(0, .ref y), (1, .int k), (2, .int (nI ka)), (3, .long am), (5, .int pt9)] := hl
  obtain ⟨fy, g0, g1, g2, g3, g4, g5, g6, g7, g8, g9, g10, g11, hap⟩ := id h
  refine lv_aload_n hx hb d_Md_ask_0 rfl (lv_at hl 0 rfl) ?_
  refine lv_iload_n hx hb d_Md_ask_1 rfl (lv_at hl 1 rfl) ?_
  refine hb_callS (rest := [.ref y]) hX hts hb_gd Y_Md_isKey (c_Md_isKey hE M k) ml_Md_75 st_Md_isKey hz hP hD hS hA rfl hl.1 rfl (Nat.le_of_ble_eq_true rfl) ⟨Nat.le_of_ble_eq_true rfl, Nat.le_of_ble_eq_true rfl⟩ ⟨Nat.le_of_ble_eq_true rfl, Nat.le_of_ble_eq_true rfl⟩ d_Md_ask_2 (fun v3 M1 H locs hq2 hP hD hS _ hkp => ?_)
  obtain ⟨ev4, eM5⟩ := hq2
  rw [if_neg hkk] at ev4
  subst ev4
  rw [eM5] at hP hD
  refine W.eq (g2 := F0 m 5 ls [.int 1, .ref y]) rfl ?_
  refine lv_if_eq (tgt := 31) hx hb d_Md_ask_5 (by decide) (fun c6 => ?_) (fun c6 => ?_)
  · skip
    exfalso; revert c6; decide
  · skip
    refine lv_iload_n hx hb d_Md_ask_8 rfl (lv_at hl 2 rfl) ?_
    refine lv_if_lt (tgt := 31) hx hb d_Md_ask_9 (by decide) (fun c7 => ?_) (fun c7 => ?_)
    · skip
      exact absurd c7 (nI_pos (by omega))
    · skip
      refine lv_iload_n hx hb d_Md_ask_12 rfl (lv_at hl 2 rfl) ?_
      refine lv_aload_n hx hb d_Md_ask_13 rfl (lv_at hl 0 rfl) ?_
      refine hb_get hx hb hts hown hC_Md hK hP fy 4 (by decide) rfl fl_Md_72 rfl d_Md_ask_14 ?_
      refine lv_icmp_ge (tgt := 31) hx hb d_Md_ask_17 (by decide) (fun c8 => ?_) (fun c8 => ?_)
      · skip
        have c8n := hb_ngti c8
        exact absurd ((nI_leI (by omega) (by omega)).mp c8) (by omega)
      · skip
        have c8n := hb_gti c8
        refine lv_lload_n hx hb d_Md_ask_20 rfl (lv_at hl 3 rfl) ?_
        refine hb_callS (rest := [.ref y]) hX hts hb_gd Y_Md_isAmount (c_Md_isAmount hE M am) ml_Md_79 st_Md_isAmount hz hP hD hS hA rfl hl.1 rfl (Nat.le_of_ble_eq_true rfl) ⟨Nat.le_of_ble_eq_true rfl, Nat.le_of_ble_eq_true rfl⟩ ⟨Nat.le_of_ble_eq_true rfl, Nat.le_of_ble_eq_true rfl⟩ d_Md_ask_21 (fun v11 M9 H locs hq10 hP hD hS _ hkp => ?_)
        obtain ⟨ev12, eM13⟩ := hq10
        rw [if_neg hm] at ev12
        subst ev12
        rw [eM13] at hP hD
        refine W.eq (g2 := F0 m 24 ls [.int 1, .ref y]) rfl ?_
        refine lv_if_eq (tgt := 31) hx hb d_Md_ask_24 (by decide) (fun c14 => ?_) (fun c14 => ?_)
        · skip
          exfalso; revert c14; decide
        · skip
          refine lv_iconst (v := 1) hx hb d_Md_ask_27 (by decide) ?_
          refine lv_goto (tgt := 32) hx hb d_Md_ask_28 (by decide) ?_
          have hm15 : mR cI cJ M y b0 b1 b2 b3 b4 b5 b6 b7 b8 b9 b10 b11 cd ho pa tm na np bal mi ky ac st he cl un dn ds dd dl := ⟨fy, g0, g1, g2, g3, g4, g5, g6, g7, g8, g9, g10, g11, hap⟩
          refine hb_callV (rest := []) hX hts hb_gd Y_Md_goes (c_Md_goes hE M y b0 b1 b2 b3 b4 b5 b6 b7 b8 b9 b10 b11 cd ho pa tm na np bal mi ky ac st he cl un dn ds dd dl hm15 (by omega) (by omega) 1 (by decide)) ml_Md_83 im_Md_goes se_Md_goes hK fy hC_Md.1 hz hP hD hS hA rfl hl.1 rfl (Nat.le_of_ble_eq_true rfl) ⟨Nat.le_of_ble_eq_true rfl, Nat.le_of_ble_eq_true rfl⟩ ⟨Nat.le_of_ble_eq_true rfl, Nat.le_of_ble_eq_true rfl⟩ d_Md_ask_32 (fun v18 M16 H locs hq17 hP hD hS _ hkp => ?_)
          obtain ⟨ev19, h20⟩ := hq17
          subst ev19
          rw [if_neg (by decide : ¬ (1 : Int32) = 0)] at h20
          obtain ⟨fy21, g22, g23, g24, g25, g26, g27, g28, g29, g30, g31, g32, g33, -⟩ := id h20
          refine W.eq (g2 := F0 m 35 ls [.int 1]) rfl ?_
          refine lv_if_ne (tgt := 40) hx hb d_Md_ask_35 (by decide) (fun c34 => ?_) (fun c34 => ?_)
          · skip
            refine lv_aload_n hx hb d_Md_ask_40 rfl (lv_at hl 0 rfl) ?_
            refine lv_iload_n hx hb d_Md_ask_41 rfl (lv_at hl 1 rfl) ?_
            have hm35 : mR cI cJ M16 y b0 b1 b2 b3 b4 b5 b6 b7 b8 b9 b10 b11 0 ho pa tm na np bal mi ky ac st he cl un dn ds dd dl := ⟨fy21, g22, g23, g24, g25, g26, g27, g28, g29, g30, g31, g32, g33, hap⟩
            refine hb_callV (rest := []) hX hts hb_gd Y_Md_place (c_Md_place hE M16 y b0 b1 b2 b3 b4 b5 b6 b7 b8 b9 b10 b11 0 ho pa tm na np bal mi ky ac st he cl un dn ds dd dl hm35 (by omega) (by omega) k) ml_Md_87 im_Md_place se_Md_place hK fy21 hC_Md.1 hz hP hD hS hA rfl hl.1 rfl (Nat.le_of_ble_eq_true rfl) ⟨Nat.le_of_ble_eq_true rfl, Nat.le_of_ble_eq_true rfl⟩ ⟨Nat.le_of_ble_eq_true rfl, Nat.le_of_ble_eq_true rfl⟩ d_Md_ask_42 (fun v38 M36 H locs hq37 hP hD hS _ hkp => ?_)
            obtain ⟨ev39, eM40⟩ := hq37
            subst ev39
            rw [eM40] at hP hD
            refine W.eq (g2 := F0 m 45 ls [.int (hb_plc ky k np)]) rfl ?_
            refine W.eq (g2 := F0 m 45 ls [.int (-1)]) (by rw [hpl]) ?_
            refine lv_if_ge (tgt := 57) hx hb d_Md_ask_45 (by decide) (fun c41 => ?_) (fun c41 => ?_)
            · skip
              have c41n := hb_ngti c41
              exfalso; revert c41; decide
            · skip
              have c41n := hb_gti c41
              refine lv_aload_n hx hb d_Md_ask_48 rfl (lv_at hl 0 rfl) ?_
              refine hb_get hx hb hts hown hC_Md hK hP fy21 7 (by decide) rfl fl_Md_60 rfl d_Md_ask_49 ?_
              refine lv_bipush (v := 60) hx hb d_Md_ask_52 (by decide) ?_
              refine lv_icmp_ne (tgt := 75) hx hb d_Md_ask_54 (by decide) (fun c42 => ?_) (fun c42 => ?_)
              · skip
                exact absurd (show nI np = 60 by rw [show np = 60 by omega]; rfl) c42
              · skip
                refine lv_aload_n hx hb d_Md_ask_57 rfl (lv_at hl 0 rfl) ?_
                refine lv_iload_n hx hb d_Md_ask_58 rfl (lv_at hl 1 rfl) ?_
                have hm43 : mR cI cJ M16 y b0 b1 b2 b3 b4 b5 b6 b7 b8 b9 b10 b11 0 ho pa tm na np bal mi ky ac st he cl un dn ds dd dl := ⟨fy21, g22, g23, g24, g25, g26, g27, g28, g29, g30, g31, g32, g33, hap⟩
                refine hb_callV (rest := []) hX hts hb_gd Y_Md_place (c_Md_place hE M16 y b0 b1 b2 b3 b4 b5 b6 b7 b8 b9 b10 b11 0 ho pa tm na np bal mi ky ac st he cl un dn ds dd dl hm43 (by omega) (by omega) k) ml_Md_87 im_Md_place se_Md_place hK fy21 hC_Md.1 hz hP hD hS hA rfl hl.1 rfl (Nat.le_of_ble_eq_true rfl) ⟨Nat.le_of_ble_eq_true rfl, Nat.le_of_ble_eq_true rfl⟩ ⟨Nat.le_of_ble_eq_true rfl, Nat.le_of_ble_eq_true rfl⟩ d_Md_ask_59 (fun v46 M44 H locs hq45 hP hD hS _ hkp => ?_)
                obtain ⟨ev47, eM48⟩ := hq45
                subst ev47
                rw [eM48] at hP hD
                refine W.eq (g2 := F0 m 62 ls [.int (hb_plc ky k np)]) rfl ?_
                refine W.eq (g2 := F0 m 62 ls [.int (-1)]) (by rw [hpl]) ?_
                refine lv_if_lt (tgt := 71) hx hb d_Md_ask_62 (by decide) (fun c49 => ?_) (fun c49 => ?_)
                · skip
                  refine lv_ldc2 (v := (-2)) hx hb hown (hts _ kc_Md_93) d_Md_ask_71 ?_
                  exact hb_lret hAe hx hb hr hlocks hP hD hS (Nat.le_of_ble_eq_true rfl) (Nat.le_of_ble_eq_true rfl) (⟨rfl, ⟨fy21, g22, g23, g24, g25, g26, g27, g28, g29, g30, g31, g32, g33, hap⟩⟩) d_Md_ask_74
                · skip
                  exfalso; revert c49; decide
          · skip
            exfalso; revert c34; decide
set_option maxHeartbeats 4000000 in
set_option maxRecDepth 100000 in
/-- ask: poor -/
theorem c_Md_ask_poor {l : Launch} {s0 : State} {D : va_G} {cI cJ cO : ClassId} {e0 mi : Nat} (hE : hb_E l s0 D cI cJ cO e0 mi) (M : hb_M) (y b0 b1 b2 b3 b4 b5 b6 b7 b8 b9 b10 b11 : Nat) (cd ho pa tm : Int32) (na np : Nat) (bal mi : Nat → Int64) (ky ac st : Nat → Int32) (he cl : Nat → Int64) (un dn ds : Nat → Int32) (dd : Nat → Int64) (dl : Nat → Int32) (h : mR cI cJ M y b0 b1 b2 b3 b4 b5 b6 b7 b8 b9 b10 b11 cd ho pa tm na np bal mi ky ac st he cl un dn ds dd dl) (hna : na ≤ 16) (hnp : np ≤ 60) (k : Int32) (hpl : hb_plc ky k np = -1) (hkk : ¬ (k < 0 ∨ 1000000 < k)) (ka : Nat) (hka : ka < na) (am : Int64) (hm : ¬ (am < 1 ∨ 1000000000000 < am)) (pt9 : Int32) (hl9 : np < 60) (hpo : ¬ am ≤ (bal ka - mi ka - hb_sm (fun p => if ac p = (nI ka) then he p else 0) np - hb_sm (fun p => if ac p = (nI ka) ∧ (ds p = 1 ∨ ds p = 2) then dd p else 0) np)) (hpp : pt9 = 0 ∨ ¬ 0 < (bal ka - mi ka - hb_sm (fun p => if ac p = (nI ka) then he p else 0) np - hb_sm (fun p => if ac p = (nI ka) ∧ (ds p = 1 ∨ ds p = 2) then dd p else 0) np)) : hb_Met l D hb_cl s0 y_Md_ask b_Md_ask 10 (some .long) { frames := 3, cells := 0, slots := 0, locals := 100 } [.ref y, .int k, .int (nI ka), .long am, .int pt9] M (fun v M1 => v = some (.long (-12)) ∧ mR cI cJ M1 y b0 b1 b2 b3 b4 b5 b6 b7 b8 b9 b10 b11 0 ho pa tm na np bal mi ky ac st he cl un dn ds dd dl) := by
  refine hb_Met.of (by decide) (Nat.le_of_ble_eq_true rfl) ?_
  intro p e s m below meth c A hAe hX hz hP hD hA hS ls hl
  obtain ⟨hx, hb, hr, hml, hown, hlocks, hnm, hG, hnh⟩ := id hX
  have hown : s.vm.findClass "HoldBookModel" = some m.cls := hown
  have hts := hE.ts hG ([.ref y, .int k, .int (nI ka), .long am, .int pt9] : List Value).toArray
  have hK := hE.kn hG
  have hl : lv_has ls 10 [(0, .ref y), (1, .int k), (2, .int (nI ka)), (3, .long am), (5, .int pt9)] := hl
  obtain ⟨fy, g0, g1, g2, g3, g4, g5, g6, g7, g8, g9, g10, g11, hap⟩ := id h
  refine lv_aload_n hx hb d_Md_ask_0 rfl (lv_at hl 0 rfl) ?_
  refine lv_iload_n hx hb d_Md_ask_1 rfl (lv_at hl 1 rfl) ?_
  refine hb_callS (rest := [.ref y]) hX hts hb_gd Y_Md_isKey (c_Md_isKey hE M k) ml_Md_75 st_Md_isKey hz hP hD hS hA rfl hl.1 rfl (Nat.le_of_ble_eq_true rfl) ⟨Nat.le_of_ble_eq_true rfl, Nat.le_of_ble_eq_true rfl⟩ ⟨Nat.le_of_ble_eq_true rfl, Nat.le_of_ble_eq_true rfl⟩ d_Md_ask_2 (fun v3 M1 H locs hq2 hP hD hS _ hkp => ?_)
  obtain ⟨ev4, eM5⟩ := hq2
  rw [if_neg hkk] at ev4
  subst ev4
  rw [eM5] at hP hD
  refine W.eq (g2 := F0 m 5 ls [.int 1, .ref y]) rfl ?_
  refine lv_if_eq (tgt := 31) hx hb d_Md_ask_5 (by decide) (fun c6 => ?_) (fun c6 => ?_)
  · skip
    exfalso; revert c6; decide
  · skip
    refine lv_iload_n hx hb d_Md_ask_8 rfl (lv_at hl 2 rfl) ?_
    refine lv_if_lt (tgt := 31) hx hb d_Md_ask_9 (by decide) (fun c7 => ?_) (fun c7 => ?_)
    · skip
      exact absurd c7 (nI_pos (by omega))
    · skip
      refine lv_iload_n hx hb d_Md_ask_12 rfl (lv_at hl 2 rfl) ?_
      refine lv_aload_n hx hb d_Md_ask_13 rfl (lv_at hl 0 rfl) ?_
      refine hb_get hx hb hts hown hC_Md hK hP fy 4 (by decide) rfl fl_Md_72 rfl d_Md_ask_14 ?_
      refine lv_icmp_ge (tgt := 31) hx hb d_Md_ask_17 (by decide) (fun c8 => ?_) (fun c8 => ?_)
      · skip
        have c8n := hb_ngti c8
        exact absurd ((nI_leI (by omega) (by omega)).mp c8) (by omega)
      · skip
        have c8n := hb_gti c8
        refine lv_lload_n hx hb d_Md_ask_20 rfl (lv_at hl 3 rfl) ?_
        refine hb_callS (rest := [.ref y]) hX hts hb_gd Y_Md_isAmount (c_Md_isAmount hE M am) ml_Md_79 st_Md_isAmount hz hP hD hS hA rfl hl.1 rfl (Nat.le_of_ble_eq_true rfl) ⟨Nat.le_of_ble_eq_true rfl, Nat.le_of_ble_eq_true rfl⟩ ⟨Nat.le_of_ble_eq_true rfl, Nat.le_of_ble_eq_true rfl⟩ d_Md_ask_21 (fun v11 M9 H locs hq10 hP hD hS _ hkp => ?_)
        obtain ⟨ev12, eM13⟩ := hq10
        rw [if_neg hm] at ev12
        subst ev12
        rw [eM13] at hP hD
        refine W.eq (g2 := F0 m 24 ls [.int 1, .ref y]) rfl ?_
        refine lv_if_eq (tgt := 31) hx hb d_Md_ask_24 (by decide) (fun c14 => ?_) (fun c14 => ?_)
        · skip
          exfalso; revert c14; decide
        · skip
          refine lv_iconst (v := 1) hx hb d_Md_ask_27 (by decide) ?_
          refine lv_goto (tgt := 32) hx hb d_Md_ask_28 (by decide) ?_
          have hm15 : mR cI cJ M y b0 b1 b2 b3 b4 b5 b6 b7 b8 b9 b10 b11 cd ho pa tm na np bal mi ky ac st he cl un dn ds dd dl := ⟨fy, g0, g1, g2, g3, g4, g5, g6, g7, g8, g9, g10, g11, hap⟩
          refine hb_callV (rest := []) hX hts hb_gd Y_Md_goes (c_Md_goes hE M y b0 b1 b2 b3 b4 b5 b6 b7 b8 b9 b10 b11 cd ho pa tm na np bal mi ky ac st he cl un dn ds dd dl hm15 (by omega) (by omega) 1 (by decide)) ml_Md_83 im_Md_goes se_Md_goes hK fy hC_Md.1 hz hP hD hS hA rfl hl.1 rfl (Nat.le_of_ble_eq_true rfl) ⟨Nat.le_of_ble_eq_true rfl, Nat.le_of_ble_eq_true rfl⟩ ⟨Nat.le_of_ble_eq_true rfl, Nat.le_of_ble_eq_true rfl⟩ d_Md_ask_32 (fun v18 M16 H locs hq17 hP hD hS _ hkp => ?_)
          obtain ⟨ev19, h20⟩ := hq17
          subst ev19
          rw [if_neg (by decide : ¬ (1 : Int32) = 0)] at h20
          obtain ⟨fy21, g22, g23, g24, g25, g26, g27, g28, g29, g30, g31, g32, g33, -⟩ := id h20
          refine W.eq (g2 := F0 m 35 ls [.int 1]) rfl ?_
          refine lv_if_ne (tgt := 40) hx hb d_Md_ask_35 (by decide) (fun c34 => ?_) (fun c34 => ?_)
          · skip
            refine lv_aload_n hx hb d_Md_ask_40 rfl (lv_at hl 0 rfl) ?_
            refine lv_iload_n hx hb d_Md_ask_41 rfl (lv_at hl 1 rfl) ?_
            have hm35 : mR cI cJ M16 y b0 b1 b2 b3 b4 b5 b6 b7 b8 b9 b10 b11 0 ho pa tm na np bal mi ky ac st he cl un dn ds dd dl := ⟨fy21, g22, g23, g24, g25, g26, g27, g28, g29, g30, g31, g32, g33, hap⟩
            refine hb_callV (rest := []) hX hts hb_gd Y_Md_place (c_Md_place hE M16 y b0 b1 b2 b3 b4 b5 b6 b7 b8 b9 b10 b11 0 ho pa tm na np bal mi ky ac st he cl un dn ds dd dl hm35 (by omega) (by omega) k) ml_Md_87 im_Md_place se_Md_place hK fy21 hC_Md.1 hz hP hD hS hA rfl hl.1 rfl (Nat.le_of_ble_eq_true rfl) ⟨Nat.le_of_ble_eq_true rfl, Nat.le_of_ble_eq_true rfl⟩ ⟨Nat.le_of_ble_eq_true rfl, Nat.le_of_ble_eq_true rfl⟩ d_Md_ask_42 (fun v38 M36 H locs hq37 hP hD hS _ hkp => ?_)
            obtain ⟨ev39, eM40⟩ := hq37
            subst ev39
            rw [eM40] at hP hD
            refine W.eq (g2 := F0 m 45 ls [.int (hb_plc ky k np)]) rfl ?_
            refine W.eq (g2 := F0 m 45 ls [.int (-1)]) (by rw [hpl]) ?_
            refine lv_if_ge (tgt := 57) hx hb d_Md_ask_45 (by decide) (fun c41 => ?_) (fun c41 => ?_)
            · skip
              have c41n := hb_ngti c41
              exfalso; revert c41; decide
            · skip
              have c41n := hb_gti c41
              refine lv_aload_n hx hb d_Md_ask_48 rfl (lv_at hl 0 rfl) ?_
              refine hb_get hx hb hts hown hC_Md hK hP fy21 7 (by decide) rfl fl_Md_60 rfl d_Md_ask_49 ?_
              refine lv_bipush (v := 60) hx hb d_Md_ask_52 (by decide) ?_
              refine lv_icmp_ne (tgt := 75) hx hb d_Md_ask_54 (by decide) (fun c42 => ?_) (fun c42 => ?_)
              · skip
                refine lv_aload_n hx hb d_Md_ask_75 rfl (lv_at hl 0 rfl) ?_
                refine lv_iload_n hx hb d_Md_ask_76 rfl (lv_at hl 2 rfl) ?_
                have hm43 : mR cI cJ M16 y b0 b1 b2 b3 b4 b5 b6 b7 b8 b9 b10 b11 0 ho pa tm na np bal mi ky ac st he cl un dn ds dd dl := ⟨fy21, g22, g23, g24, g25, g26, g27, g28, g29, g30, g31, g32, g33, hap⟩
                refine hb_callV (rest := []) hX hts hb_gd Y_Md_freeOf (c_Md_freeOf hE M16 y b0 b1 b2 b3 b4 b5 b6 b7 b8 b9 b10 b11 0 ho pa tm na np bal mi ky ac st he cl un dn ds dd dl hm43 (by omega) (by omega) ka (by omega)) ml_Md_95 im_Md_freeOf se_Md_freeOf hK fy21 hC_Md.1 hz hP hD hS hA rfl hl.1 rfl (Nat.le_of_ble_eq_true rfl) ⟨Nat.le_of_ble_eq_true rfl, Nat.le_of_ble_eq_true rfl⟩ ⟨Nat.le_of_ble_eq_true rfl, Nat.le_of_ble_eq_true rfl⟩ d_Md_ask_77 (fun v46 M44 H locs hq45 hP hD hS _ hkp => ?_)
                obtain ⟨ev47, eM48⟩ := hq45
                subst ev47
                rw [eM48] at hP hD
                refine W.eq (g2 := F0 m 80 ls [.long (bal ka - mi ka - hb_sm (fun p => if ac p = (nI ka) then he p else 0) np - hb_sm (fun p => if ac p = (nI ka) ∧ (ds p = 1 ∨ ds p = 2) then dd p else 0) np)]) rfl ?_
                refine lv_lstore (lv' := [(6, .long (bal ka - mi ka - hb_sm (fun p => if ac p = (nI ka) then he p else 0) np - hb_sm (fun p => if ac p = (nI ka) ∧ (ds p = 1 ∨ ds p = 2) then dd p else 0) np)), (0, .ref y), (1, .int k), (2, .int (nI ka)), (3, .long am), (5, .int pt9)]) hx hb d_Md_ask_80 hl (by decide) rfl (fun ls hl => ?_)
                refine lv_lload_n hx hb d_Md_ask_82 rfl (lv_at hl 4 rfl) ?_
                refine lv_lload hx hb d_Md_ask_83 (lv_at hl 0 rfl) ?_
                refine hb_lc_gt (tgt := 93) hx hb d_Md_ask_85 d_Md_ask_86 (by decide) (fun c49 => ?_) (fun c49 => ?_)
                · skip
                  refine lv_iconst (v := 0) hx hb d_Md_ask_93 (by decide) ?_
                  refine lv_istore (lv' := [(8, .int 0), (6, .long (bal ka - mi ka - hb_sm (fun p => if ac p = (nI ka) then he p else 0) np - hb_sm (fun p => if ac p = (nI ka) ∧ (ds p = 1 ∨ ds p = 2) then dd p else 0) np)), (0, .ref y), (1, .int k), (2, .int (nI ka)), (3, .long am), (5, .int pt9)]) hx hb d_Md_ask_94 hl (by decide) rfl (fun ls hl => ?_)
                  refine lv_iload hx hb d_Md_ask_96 (lv_at hl 0 rfl) ?_
                  refine lv_if_ne (tgt := 117) hx hb d_Md_ask_98 (by decide) (fun c50 => ?_) (fun c50 => ?_)
                  · skip
                    exfalso; revert c50; decide
                  · skip
                    refine lv_iload hx hb d_Md_ask_101 (lv_at hl 6 rfl) ?_
                    refine lv_if_eq (tgt := 113) hx hb d_Md_ask_103 (by decide) (fun c51 => ?_) (fun c51 => ?_)
                    · skip
                      refine lv_ldc2 (v := (-12)) hx hb hown (hts _ kc_Md_98) d_Md_ask_113 ?_
                      exact hb_lret hAe hx hb hr hlocks hP hD hS (Nat.le_of_ble_eq_true rfl) (Nat.le_of_ble_eq_true rfl) (⟨rfl, ⟨fy21, g22, g23, g24, g25, g26, g27, g28, g29, g30, g31, g32, g33, hap⟩⟩) d_Md_ask_116
                    · skip
                      refine lv_lload hx hb d_Md_ask_106 (lv_at hl 1 rfl) ?_
                      refine lv_lconst (v := 0) hx hb d_Md_ask_108 (by decide) ?_
                      refine hb_lc_gt (tgt := 117) hx hb d_Md_ask_109 d_Md_ask_110 (by decide) (fun c52 => ?_) (fun c52 => ?_)
                      · skip
                        exact absurd hpp (by intro z; rcases z with z | z; exact absurd z (by assumption); exact absurd c52 z)
                      · skip
                        refine lv_ldc2 (v := (-12)) hx hb hown (hts _ kc_Md_98) d_Md_ask_113 ?_
                        exact hb_lret hAe hx hb hr hlocks hP hD hS (Nat.le_of_ble_eq_true rfl) (Nat.le_of_ble_eq_true rfl) (⟨rfl, ⟨fy21, g22, g23, g24, g25, g26, g27, g28, g29, g30, g31, g32, g33, hap⟩⟩) d_Md_ask_116
                · skip
                  exact absurd (hb_gt hpo) c49
              · skip
                exact absurd ((nI_eq (b := 60) (by omega) (by omega)).mp c42) (by omega)
          · skip
            exfalso; revert c34; decide
set_option maxHeartbeats 4000000 in
set_option maxRecDepth 100000 in
/-- ask: ok -/
theorem c_Md_ask_ok {l : Launch} {s0 : State} {D : va_G} {cI cJ cO : ClassId} {e0 mi : Nat} (hE : hb_E l s0 D cI cJ cO e0 mi) (M : hb_M) (y b0 b1 b2 b3 b4 b5 b6 b7 b8 b9 b10 b11 : Nat) (cd ho pa tm : Int32) (na np : Nat) (bal mi : Nat → Int64) (ky ac st : Nat → Int32) (he cl : Nat → Int64) (un dn ds : Nat → Int32) (dd : Nat → Int64) (dl : Nat → Int32) (h : mR cI cJ M y b0 b1 b2 b3 b4 b5 b6 b7 b8 b9 b10 b11 cd ho pa tm na np bal mi ky ac st he cl un dn ds dd dl) (hna : na ≤ 16) (hnp : np ≤ 60) (k : Int32) (hpl : hb_plc ky k np = -1) (hkk : ¬ (k < 0 ∨ 1000000 < k)) (ka : Nat) (hka : ka < na) (am : Int64) (hm : ¬ (am < 1 ∨ 1000000000000 < am)) (pt9 : Int32) (hl9 : np < 60) (hok : am ≤ (bal ka - mi ka - hb_sm (fun p => if ac p = (nI ka) then he p else 0) np - hb_sm (fun p => if ac p = (nI ka) ∧ (ds p = 1 ∨ ds p = 2) then dd p else 0) np) ∨ (pt9 ≠ 0 ∧ 0 < (bal ka - mi ka - hb_sm (fun p => if ac p = (nI ka) then he p else 0) np - hb_sm (fun p => if ac p = (nI ka) ∧ (ds p = 1 ∨ ds p = 2) then dd p else 0) np))) : hb_Met l D hb_cl s0 y_Md_ask b_Md_ask 10 (some .long) { frames := 3, cells := 0, slots := 0, locals := 100 } [.ref y, .int k, .int (nI ka), .long am, .int pt9] M (fun v M1 => v = some (.long (if (bal ka - mi ka - hb_sm (fun p => if ac p = (nI ka) then he p else 0) np - hb_sm (fun p => if ac p = (nI ka) ∧ (ds p = 1 ∨ ds p = 2) then dd p else 0) np) < am then (bal ka - mi ka - hb_sm (fun p => if ac p = (nI ka) then he p else 0) np - hb_sm (fun p => if ac p = (nI ka) ∧ (ds p = 1 ∨ ds p = 2) then dd p else 0) np) else am)) ∧ mR cI cJ M1 y b0 b1 b2 b3 b4 b5 b6 b7 b8 b9 b10 b11 0 ho pa tm na (np + 1) bal mi (upd ky np k) (upd ac np (nI ka)) (upd (upd st np 2) np 1) (vp_updL (vp_updL he np 0) np (if (bal ka - mi ka - hb_sm (fun p => if ac p = (nI ka) then he p else 0) np - hb_sm (fun p => if ac p = (nI ka) ∧ (ds p = 1 ∨ ds p = 2) then dd p else 0) np) < am then (bal ka - mi ka - hb_sm (fun p => if ac p = (nI ka) then he p else 0) np - hb_sm (fun p => if ac p = (nI ka) ∧ (ds p = 1 ∨ ds p = 2) then dd p else 0) np) else am)) (vp_updL cl np 0) (upd (upd un np 0) np (tm + ho)) (upd dn np (-1)) (upd ds np 0) (vp_updL dd np 0) (upd dl np (-1))) := by
  refine hb_Met.of (by decide) (Nat.le_of_ble_eq_true rfl) ?_
  intro p e s m below meth c A hAe hX hz hP hD hA hS ls hl
  obtain ⟨hx, hb, hr, hml, hown, hlocks, hnm, hG, hnh⟩ := id hX
  have hown : s.vm.findClass "HoldBookModel" = some m.cls := hown
  have hts := hE.ts hG ([.ref y, .int k, .int (nI ka), .long am, .int pt9] : List Value).toArray
  have hK := hE.kn hG
  have hl : lv_has ls 10 [(0, .ref y), (1, .int k), (2, .int (nI ka)), (3, .long am), (5, .int pt9)] := hl
  obtain ⟨fy, g0, g1, g2, g3, g4, g5, g6, g7, g8, g9, g10, g11, hap⟩ := id h
  refine lv_aload_n hx hb d_Md_ask_0 rfl (lv_at hl 0 rfl) ?_
  refine lv_iload_n hx hb d_Md_ask_1 rfl (lv_at hl 1 rfl) ?_
  refine hb_callS (rest := [.ref y]) hX hts hb_gd Y_Md_isKey (c_Md_isKey hE M k) ml_Md_75 st_Md_isKey hz hP hD hS hA rfl hl.1 rfl (Nat.le_of_ble_eq_true rfl) ⟨Nat.le_of_ble_eq_true rfl, Nat.le_of_ble_eq_true rfl⟩ ⟨Nat.le_of_ble_eq_true rfl, Nat.le_of_ble_eq_true rfl⟩ d_Md_ask_2 (fun v3 M1 H locs hq2 hP hD hS _ hkp => ?_)
  obtain ⟨ev4, eM5⟩ := hq2
  rw [if_neg hkk] at ev4
  subst ev4
  rw [eM5] at hP hD
  refine W.eq (g2 := F0 m 5 ls [.int 1, .ref y]) rfl ?_
  refine lv_if_eq (tgt := 31) hx hb d_Md_ask_5 (by decide) (fun c6 => ?_) (fun c6 => ?_)
  · skip
    exfalso; revert c6; decide
  · skip
    refine lv_iload_n hx hb d_Md_ask_8 rfl (lv_at hl 2 rfl) ?_
    refine lv_if_lt (tgt := 31) hx hb d_Md_ask_9 (by decide) (fun c7 => ?_) (fun c7 => ?_)
    · skip
      exact absurd c7 (nI_pos (by omega))
    · skip
      refine lv_iload_n hx hb d_Md_ask_12 rfl (lv_at hl 2 rfl) ?_
      refine lv_aload_n hx hb d_Md_ask_13 rfl (lv_at hl 0 rfl) ?_
      refine hb_get hx hb hts hown hC_Md hK hP fy 4 (by decide) rfl fl_Md_72 rfl d_Md_ask_14 ?_
      refine lv_icmp_ge (tgt := 31) hx hb d_Md_ask_17 (by decide) (fun c8 => ?_) (fun c8 => ?_)
      · skip
        have c8n := hb_ngti c8
        exact absurd ((nI_leI (by omega) (by omega)).mp c8) (by omega)
      · skip
        have c8n := hb_gti c8
        refine lv_lload_n hx hb d_Md_ask_20 rfl (lv_at hl 3 rfl) ?_
        refine hb_callS (rest := [.ref y]) hX hts hb_gd Y_Md_isAmount (c_Md_isAmount hE M am) ml_Md_79 st_Md_isAmount hz hP hD hS hA rfl hl.1 rfl (Nat.le_of_ble_eq_true rfl) ⟨Nat.le_of_ble_eq_true rfl, Nat.le_of_ble_eq_true rfl⟩ ⟨Nat.le_of_ble_eq_true rfl, Nat.le_of_ble_eq_true rfl⟩ d_Md_ask_21 (fun v11 M9 H locs hq10 hP hD hS _ hkp => ?_)
        obtain ⟨ev12, eM13⟩ := hq10
        rw [if_neg hm] at ev12
        subst ev12
        rw [eM13] at hP hD
        refine W.eq (g2 := F0 m 24 ls [.int 1, .ref y]) rfl ?_
        refine lv_if_eq (tgt := 31) hx hb d_Md_ask_24 (by decide) (fun c14 => ?_) (fun c14 => ?_)
        · skip
          exfalso; revert c14; decide
        · skip
          refine lv_iconst (v := 1) hx hb d_Md_ask_27 (by decide) ?_
          refine lv_goto (tgt := 32) hx hb d_Md_ask_28 (by decide) ?_
          have hm15 : mR cI cJ M y b0 b1 b2 b3 b4 b5 b6 b7 b8 b9 b10 b11 cd ho pa tm na np bal mi ky ac st he cl un dn ds dd dl := ⟨fy, g0, g1, g2, g3, g4, g5, g6, g7, g8, g9, g10, g11, hap⟩
          refine hb_callV (rest := []) hX hts hb_gd Y_Md_goes (c_Md_goes hE M y b0 b1 b2 b3 b4 b5 b6 b7 b8 b9 b10 b11 cd ho pa tm na np bal mi ky ac st he cl un dn ds dd dl hm15 (by omega) (by omega) 1 (by decide)) ml_Md_83 im_Md_goes se_Md_goes hK fy hC_Md.1 hz hP hD hS hA rfl hl.1 rfl (Nat.le_of_ble_eq_true rfl) ⟨Nat.le_of_ble_eq_true rfl, Nat.le_of_ble_eq_true rfl⟩ ⟨Nat.le_of_ble_eq_true rfl, Nat.le_of_ble_eq_true rfl⟩ d_Md_ask_32 (fun v18 M16 H locs hq17 hP hD hS _ hkp => ?_)
          obtain ⟨ev19, h20⟩ := hq17
          subst ev19
          rw [if_neg (by decide : ¬ (1 : Int32) = 0)] at h20
          obtain ⟨fy21, g22, g23, g24, g25, g26, g27, g28, g29, g30, g31, g32, g33, -⟩ := id h20
          refine W.eq (g2 := F0 m 35 ls [.int 1]) rfl ?_
          refine lv_if_ne (tgt := 40) hx hb d_Md_ask_35 (by decide) (fun c34 => ?_) (fun c34 => ?_)
          · skip
            refine lv_aload_n hx hb d_Md_ask_40 rfl (lv_at hl 0 rfl) ?_
            refine lv_iload_n hx hb d_Md_ask_41 rfl (lv_at hl 1 rfl) ?_
            have hm35 : mR cI cJ M16 y b0 b1 b2 b3 b4 b5 b6 b7 b8 b9 b10 b11 0 ho pa tm na np bal mi ky ac st he cl un dn ds dd dl := ⟨fy21, g22, g23, g24, g25, g26, g27, g28, g29, g30, g31, g32, g33, hap⟩
            refine hb_callV (rest := []) hX hts hb_gd Y_Md_place (c_Md_place hE M16 y b0 b1 b2 b3 b4 b5 b6 b7 b8 b9 b10 b11 0 ho pa tm na np bal mi ky ac st he cl un dn ds dd dl hm35 (by omega) (by omega) k) ml_Md_87 im_Md_place se_Md_place hK fy21 hC_Md.1 hz hP hD hS hA rfl hl.1 rfl (Nat.le_of_ble_eq_true rfl) ⟨Nat.le_of_ble_eq_true rfl, Nat.le_of_ble_eq_true rfl⟩ ⟨Nat.le_of_ble_eq_true rfl, Nat.le_of_ble_eq_true rfl⟩ d_Md_ask_42 (fun v38 M36 H locs hq37 hP hD hS _ hkp => ?_)
            obtain ⟨ev39, eM40⟩ := hq37
            subst ev39
            rw [eM40] at hP hD
            refine W.eq (g2 := F0 m 45 ls [.int (hb_plc ky k np)]) rfl ?_
            refine W.eq (g2 := F0 m 45 ls [.int (-1)]) (by rw [hpl]) ?_
            refine lv_if_ge (tgt := 57) hx hb d_Md_ask_45 (by decide) (fun c41 => ?_) (fun c41 => ?_)
            · skip
              have c41n := hb_ngti c41
              exfalso; revert c41; decide
            · skip
              have c41n := hb_gti c41
              refine lv_aload_n hx hb d_Md_ask_48 rfl (lv_at hl 0 rfl) ?_
              refine hb_get hx hb hts hown hC_Md hK hP fy21 7 (by decide) rfl fl_Md_60 rfl d_Md_ask_49 ?_
              refine lv_bipush (v := 60) hx hb d_Md_ask_52 (by decide) ?_
              refine lv_icmp_ne (tgt := 75) hx hb d_Md_ask_54 (by decide) (fun c42 => ?_) (fun c42 => ?_)
              · skip
                refine lv_aload_n hx hb d_Md_ask_75 rfl (lv_at hl 0 rfl) ?_
                refine lv_iload_n hx hb d_Md_ask_76 rfl (lv_at hl 2 rfl) ?_
                have hm43 : mR cI cJ M16 y b0 b1 b2 b3 b4 b5 b6 b7 b8 b9 b10 b11 0 ho pa tm na np bal mi ky ac st he cl un dn ds dd dl := ⟨fy21, g22, g23, g24, g25, g26, g27, g28, g29, g30, g31, g32, g33, hap⟩
                refine hb_callV (rest := []) hX hts hb_gd Y_Md_freeOf (c_Md_freeOf hE M16 y b0 b1 b2 b3 b4 b5 b6 b7 b8 b9 b10 b11 0 ho pa tm na np bal mi ky ac st he cl un dn ds dd dl hm43 (by omega) (by omega) ka (by omega)) ml_Md_95 im_Md_freeOf se_Md_freeOf hK fy21 hC_Md.1 hz hP hD hS hA rfl hl.1 rfl (Nat.le_of_ble_eq_true rfl) ⟨Nat.le_of_ble_eq_true rfl, Nat.le_of_ble_eq_true rfl⟩ ⟨Nat.le_of_ble_eq_true rfl, Nat.le_of_ble_eq_true rfl⟩ d_Md_ask_77 (fun v46 M44 H locs hq45 hP hD hS _ hkp => ?_)
                obtain ⟨ev47, eM48⟩ := hq45
                subst ev47
                rw [eM48] at hP hD
                refine W.eq (g2 := F0 m 80 ls [.long (bal ka - mi ka - hb_sm (fun p => if ac p = (nI ka) then he p else 0) np - hb_sm (fun p => if ac p = (nI ka) ∧ (ds p = 1 ∨ ds p = 2) then dd p else 0) np)]) rfl ?_
                refine lv_lstore (lv' := [(6, .long (bal ka - mi ka - hb_sm (fun p => if ac p = (nI ka) then he p else 0) np - hb_sm (fun p => if ac p = (nI ka) ∧ (ds p = 1 ∨ ds p = 2) then dd p else 0) np)), (0, .ref y), (1, .int k), (2, .int (nI ka)), (3, .long am), (5, .int pt9)]) hx hb d_Md_ask_80 hl (by decide) rfl (fun ls hl => ?_)
                refine lv_lload_n hx hb d_Md_ask_82 rfl (lv_at hl 4 rfl) ?_
                refine lv_lload hx hb d_Md_ask_83 (lv_at hl 0 rfl) ?_
                refine hb_lc_gt (tgt := 93) hx hb d_Md_ask_85 d_Md_ask_86 (by decide) (fun c49 => ?_) (fun c49 => ?_)
                · skip
                  refine lv_iconst (v := 0) hx hb d_Md_ask_93 (by decide) ?_
                  refine lv_istore (lv' := [(8, .int 0), (6, .long (bal ka - mi ka - hb_sm (fun p => if ac p = (nI ka) then he p else 0) np - hb_sm (fun p => if ac p = (nI ka) ∧ (ds p = 1 ∨ ds p = 2) then dd p else 0) np)), (0, .ref y), (1, .int k), (2, .int (nI ka)), (3, .long am), (5, .int pt9)]) hx hb d_Md_ask_94 hl (by decide) rfl (fun ls hl => ?_)
                  refine lv_iload hx hb d_Md_ask_96 (lv_at hl 0 rfl) ?_
                  refine lv_if_ne (tgt := 117) hx hb d_Md_ask_98 (by decide) (fun c50 => ?_) (fun c50 => ?_)
                  · skip
                    exfalso; revert c50; decide
                  · skip
                    refine lv_iload hx hb d_Md_ask_101 (lv_at hl 6 rfl) ?_
                    refine lv_if_eq (tgt := 113) hx hb d_Md_ask_103 (by decide) (fun c51 => ?_) (fun c51 => ?_)
                    · skip
                      exact absurd hok (by intro z; rcases z with z | z; exact absurd c49 (hb_ngt z); exact absurd c51 z.1)
                    · skip
                      refine lv_lload hx hb d_Md_ask_106 (lv_at hl 1 rfl) ?_
                      refine lv_lconst (v := 0) hx hb d_Md_ask_108 (by decide) ?_
                      refine hb_lc_gt (tgt := 117) hx hb d_Md_ask_109 d_Md_ask_110 (by decide) (fun c52 => ?_) (fun c52 => ?_)
                      · skip
                        refine lv_aload_n hx hb d_Md_ask_117 rfl (lv_at hl 2 rfl) ?_
                        refine lv_iload_n hx hb d_Md_ask_118 rfl (lv_at hl 3 rfl) ?_
                        refine lv_iload_n hx hb d_Md_ask_119 rfl (lv_at hl 4 rfl) ?_
                        have hm53 : mR cI cJ M16 y b0 b1 b2 b3 b4 b5 b6 b7 b8 b9 b10 b11 0 ho pa tm na np bal mi ky ac st he cl un dn ds dd dl := ⟨fy21, g22, g23, g24, g25, g26, g27, g28, g29, g30, g31, g32, g33, hap⟩
                        refine hb_callV (rest := []) hX hts hb_gd Y_Md_come (c_Md_come hE M16 y b0 b1 b2 b3 b4 b5 b6 b7 b8 b9 b10 b11 0 ho pa tm na np bal mi ky ac st he cl un dn ds dd dl hm53 (by omega) (by omega) k (nI ka) hl9) ml_Md_100 im_Md_come se_Md_come hK fy21 hC_Md.1 hz hP hD hS hA rfl hl.1 rfl (Nat.le_of_ble_eq_true rfl) ⟨Nat.le_of_ble_eq_true rfl, Nat.le_of_ble_eq_true rfl⟩ ⟨Nat.le_of_ble_eq_true rfl, Nat.le_of_ble_eq_true rfl⟩ d_Md_ask_120 (fun v56 M54 H locs hq55 hP hD hS _ hkp => ?_)
                        obtain ⟨ev58, h57⟩ := hq55
                        subst ev58
                        obtain ⟨fy59, g60, g61, g62, g63, g64, g65, g66, g67, g68, g69, g70, g71, -⟩ := id h57
                        refine W.eq (g2 := F0 m 123 ls [.int (nI np)]) rfl ?_
                        refine lv_istore (lv' := [(9, .int (nI np)), (8, .int 0), (6, .long (bal ka - mi ka - hb_sm (fun p => if ac p = (nI ka) then he p else 0) np - hb_sm (fun p => if ac p = (nI ka) ∧ (ds p = 1 ∨ ds p = 2) then dd p else 0) np)), (0, .ref y), (1, .int k), (2, .int (nI ka)), (3, .long am), (5, .int pt9)]) hx hb d_Md_ask_123 hl (by decide) rfl (fun ls hl => ?_)
                        refine lv_aload_n hx hb d_Md_ask_125 rfl (lv_at hl 3 rfl) ?_
                        refine hb_get hx hb hts hown hC_Md hK hP fy59 10 (by decide) rfl fl_Md_23 rfl d_Md_ask_126 ?_
                        refine lv_iload hx hb d_Md_ask_129 (lv_at hl 0 rfl) ?_
                        refine lv_iconst (v := 1) hx hb d_Md_ask_131 (by decide) ?_
                        refine hb_iast hx hb hK hP hD hS g64 (vp_in_nI (by omega) (by omega)) d_Md_ask_132 (fun M72 H locs eM73 hP hD hS => ?_)
                        rw [nI_clamp (show np < 2 ^ 31 by omega)] at eM73
                        have f74 : M72 b4 = some (.inl (cI, 60, .inl (upd (upd st np 2) np 1))) := by rw [eM73]; exact hb_up_self
                        have f75 : M72 y = some (.inr (4, [.int 0, .int ho, .int pa, .int tm, .int (nI na), .ref b0, .ref b1, .int (nI (np + 1)), .ref b2, .ref b3, .ref b4, .ref b5, .ref b6, .ref b7, .ref b8, .ref b9, .ref b10, .ref b11])) := by rw [eM73, hb_up_ne (fun q9 => by rw [q9, g64] at fy59; cases fy59)]; exact fy59
                        have f76 : M72 b0 = some (.inl (cJ, 16, .inr (.inl bal))) := by rw [eM73, hb_up_ne (hap.ne 0 4 (by decide) rfl rfl)]; exact g60
                        have f77 : M72 b1 = some (.inl (cJ, 16, .inr (.inl mi))) := by rw [eM73, hb_up_ne (hap.ne 1 4 (by decide) rfl rfl)]; exact g61
                        have f78 : M72 b2 = some (.inl (cI, 60, .inl (upd ky np k))) := by rw [eM73, hb_up_ne (hap.ne 2 4 (by decide) rfl rfl)]; exact g62
                        have f79 : M72 b3 = some (.inl (cI, 60, .inl (upd ac np (nI ka)))) := by rw [eM73, hb_up_ne (hap.ne 3 4 (by decide) rfl rfl)]; exact g63
                        have f80 : M72 b5 = some (.inl (cJ, 60, .inr (.inl (vp_updL he np 0)))) := by rw [eM73, hb_up_ne (hap.ne 5 4 (by decide) rfl rfl)]; exact g65
                        have f81 : M72 b6 = some (.inl (cJ, 60, .inr (.inl (vp_updL cl np 0)))) := by rw [eM73, hb_up_ne (hap.ne 6 4 (by decide) rfl rfl)]; exact g66
                        have f82 : M72 b7 = some (.inl (cI, 60, .inl (upd un np 0))) := by rw [eM73, hb_up_ne (hap.ne 7 4 (by decide) rfl rfl)]; exact g67
                        have f83 : M72 b8 = some (.inl (cI, 60, .inl (upd dn np (-1)))) := by rw [eM73, hb_up_ne (hap.ne 8 4 (by decide) rfl rfl)]; exact g68
                        have f84 : M72 b9 = some (.inl (cI, 60, .inl (upd ds np 0))) := by rw [eM73, hb_up_ne (hap.ne 9 4 (by decide) rfl rfl)]; exact g69
                        have f85 : M72 b10 = some (.inl (cJ, 60, .inr (.inl (vp_updL dd np 0)))) := by rw [eM73, hb_up_ne (hap.ne 10 4 (by decide) rfl rfl)]; exact g70
                        have f86 : M72 b11 = some (.inl (cI, 60, .inl (upd dl np (-1)))) := by rw [eM73, hb_up_ne (hap.ne 11 4 (by decide) rfl rfl)]; exact g71
                        refine lv_aload_n hx hb d_Md_ask_133 rfl (lv_at hl 3 rfl) ?_
                        refine hb_get hx hb hts hown hC_Md hK hP f75 11 (by decide) rfl fl_Md_26 rfl d_Md_ask_134 ?_
                        refine lv_iload hx hb d_Md_ask_137 (lv_at hl 0 rfl) ?_
                        refine lv_iload hx hb d_Md_ask_139 (lv_at hl 1 rfl) ?_
                        refine lv_if_eq (tgt := 148) hx hb d_Md_ask_141 (by decide) (fun c87 => ?_) (fun c87 => ?_)
                        · skip
                          refine lv_lload hx hb d_Md_ask_148 (lv_at hl 2 rfl) ?_
                          refine hb_last hx hb hK hP hD hS f80 (vp_in_nI (by omega) (by omega)) d_Md_ask_150 (fun M88 H locs eM89 hP hD hS => ?_)
                          rw [nI_clamp (show np < 2 ^ 31 by omega)] at eM89
                          have f90 : M88 b5 = some (.inl (cJ, 60, .inr (.inl (vp_updL (vp_updL he np 0) np (bal ka - mi ka - hb_sm (fun p => if ac p = (nI ka) then he p else 0) np - hb_sm (fun p => if ac p = (nI ka) ∧ (ds p = 1 ∨ ds p = 2) then dd p else 0) np))))) := by rw [eM89]; exact hb_up_self
                          have f91 : M88 b4 = some (.inl (cI, 60, .inl (upd (upd st np 2) np 1))) := by rw [eM89, hb_up_ne (hap.ne 4 5 (by decide) rfl rfl)]; exact f74
                          have f92 : M88 y = some (.inr (4, [.int 0, .int ho, .int pa, .int tm, .int (nI na), .ref b0, .ref b1, .int (nI (np + 1)), .ref b2, .ref b3, .ref b4, .ref b5, .ref b6, .ref b7, .ref b8, .ref b9, .ref b10, .ref b11])) := by rw [eM89, hb_up_ne (fun q9 => by rw [q9, f80] at f75; cases f75)]; exact f75
                          have f93 : M88 b0 = some (.inl (cJ, 16, .inr (.inl bal))) := by rw [eM89, hb_up_ne (hap.ne 0 5 (by decide) rfl rfl)]; exact f76
                          have f94 : M88 b1 = some (.inl (cJ, 16, .inr (.inl mi))) := by rw [eM89, hb_up_ne (hap.ne 1 5 (by decide) rfl rfl)]; exact f77
                          have f95 : M88 b2 = some (.inl (cI, 60, .inl (upd ky np k))) := by rw [eM89, hb_up_ne (hap.ne 2 5 (by decide) rfl rfl)]; exact f78
                          have f96 : M88 b3 = some (.inl (cI, 60, .inl (upd ac np (nI ka)))) := by rw [eM89, hb_up_ne (hap.ne 3 5 (by decide) rfl rfl)]; exact f79
                          have f97 : M88 b6 = some (.inl (cJ, 60, .inr (.inl (vp_updL cl np 0)))) := by rw [eM89, hb_up_ne (hap.ne 6 5 (by decide) rfl rfl)]; exact f81
                          have f98 : M88 b7 = some (.inl (cI, 60, .inl (upd un np 0))) := by rw [eM89, hb_up_ne (hap.ne 7 5 (by decide) rfl rfl)]; exact f82
                          have f99 : M88 b8 = some (.inl (cI, 60, .inl (upd dn np (-1)))) := by rw [eM89, hb_up_ne (hap.ne 8 5 (by decide) rfl rfl)]; exact f83
                          have f100 : M88 b9 = some (.inl (cI, 60, .inl (upd ds np 0))) := by rw [eM89, hb_up_ne (hap.ne 9 5 (by decide) rfl rfl)]; exact f84
                          have f101 : M88 b10 = some (.inl (cJ, 60, .inr (.inl (vp_updL dd np 0)))) := by rw [eM89, hb_up_ne (hap.ne 10 5 (by decide) rfl rfl)]; exact f85
                          have f102 : M88 b11 = some (.inl (cI, 60, .inl (upd dl np (-1)))) := by rw [eM89, hb_up_ne (hap.ne 11 5 (by decide) rfl rfl)]; exact f86
                          refine lv_aload_n hx hb d_Md_ask_151 rfl (lv_at hl 3 rfl) ?_
                          refine hb_get hx hb hts hown hC_Md hK hP f92 13 (by decide) rfl fl_Md_32 rfl d_Md_ask_152 ?_
                          refine lv_iload hx hb d_Md_ask_155 (lv_at hl 0 rfl) ?_
                          refine lv_aload_n hx hb d_Md_ask_157 rfl (lv_at hl 3 rfl) ?_
                          refine hb_get hx hb hts hown hC_Md hK hP f92 3 (by decide) rfl fl_Md_104 rfl d_Md_ask_158 ?_
                          refine lv_aload_n hx hb d_Md_ask_161 rfl (lv_at hl 3 rfl) ?_
                          refine hb_get hx hb hts hown hC_Md hK hP f92 1 (by decide) rfl fl_Md_47 rfl d_Md_ask_162 ?_
                          refine lv_iadd hx hb d_Md_ask_165 ?_
                          refine hb_iast hx hb hK hP hD hS f98 (vp_in_nI (by omega) (by omega)) d_Md_ask_166 (fun M103 H locs eM104 hP hD hS => ?_)
                          rw [nI_clamp (show np < 2 ^ 31 by omega)] at eM104
                          have f105 : M103 b7 = some (.inl (cI, 60, .inl (upd (upd un np 0) np (tm + ho)))) := by rw [eM104]; exact hb_up_self
                          have f106 : M103 b5 = some (.inl (cJ, 60, .inr (.inl (vp_updL (vp_updL he np 0) np (bal ka - mi ka - hb_sm (fun p => if ac p = (nI ka) then he p else 0) np - hb_sm (fun p => if ac p = (nI ka) ∧ (ds p = 1 ∨ ds p = 2) then dd p else 0) np))))) := by rw [eM104, hb_up_ne (hap.ne 5 7 (by decide) rfl rfl)]; exact f90
                          have f107 : M103 b4 = some (.inl (cI, 60, .inl (upd (upd st np 2) np 1))) := by rw [eM104, hb_up_ne (hap.ne 4 7 (by decide) rfl rfl)]; exact f91
                          have f108 : M103 y = some (.inr (4, [.int 0, .int ho, .int pa, .int tm, .int (nI na), .ref b0, .ref b1, .int (nI (np + 1)), .ref b2, .ref b3, .ref b4, .ref b5, .ref b6, .ref b7, .ref b8, .ref b9, .ref b10, .ref b11])) := by rw [eM104, hb_up_ne (fun q9 => by rw [q9, f98] at f92; cases f92)]; exact f92
                          have f109 : M103 b0 = some (.inl (cJ, 16, .inr (.inl bal))) := by rw [eM104, hb_up_ne (hap.ne 0 7 (by decide) rfl rfl)]; exact f93
                          have f110 : M103 b1 = some (.inl (cJ, 16, .inr (.inl mi))) := by rw [eM104, hb_up_ne (hap.ne 1 7 (by decide) rfl rfl)]; exact f94
                          have f111 : M103 b2 = some (.inl (cI, 60, .inl (upd ky np k))) := by rw [eM104, hb_up_ne (hap.ne 2 7 (by decide) rfl rfl)]; exact f95
                          have f112 : M103 b3 = some (.inl (cI, 60, .inl (upd ac np (nI ka)))) := by rw [eM104, hb_up_ne (hap.ne 3 7 (by decide) rfl rfl)]; exact f96
                          have f113 : M103 b6 = some (.inl (cJ, 60, .inr (.inl (vp_updL cl np 0)))) := by rw [eM104, hb_up_ne (hap.ne 6 7 (by decide) rfl rfl)]; exact f97
                          have f114 : M103 b8 = some (.inl (cI, 60, .inl (upd dn np (-1)))) := by rw [eM104, hb_up_ne (hap.ne 8 7 (by decide) rfl rfl)]; exact f99
                          have f115 : M103 b9 = some (.inl (cI, 60, .inl (upd ds np 0))) := by rw [eM104, hb_up_ne (hap.ne 9 7 (by decide) rfl rfl)]; exact f100
                          have f116 : M103 b10 = some (.inl (cJ, 60, .inr (.inl (vp_updL dd np 0)))) := by rw [eM104, hb_up_ne (hap.ne 10 7 (by decide) rfl rfl)]; exact f101
                          have f117 : M103 b11 = some (.inl (cI, 60, .inl (upd dl np (-1)))) := by rw [eM104, hb_up_ne (hap.ne 11 7 (by decide) rfl rfl)]; exact f102
                          refine lv_aload_n hx hb d_Md_ask_167 rfl (lv_at hl 3 rfl) ?_
                          refine hb_get hx hb hts hown hC_Md hK hP f108 11 (by decide) rfl fl_Md_26 rfl d_Md_ask_168 ?_
                          refine lv_iload hx hb d_Md_ask_171 (lv_at hl 0 rfl) ?_
                          refine va_lald hx hb hK (hP.one f106) 0 1 rfl rfl (vp_in_nI (by omega) (by omega)) d_Md_ask_173 ?_
                          refine W.eq (g2 := F0 m 174 ls [.long (bal ka - mi ka - hb_sm (fun p => if ac p = (nI ka) then he p else 0) np - hb_sm (fun p => if ac p = (nI ka) ∧ (ds p = 1 ∨ ds p = 2) then dd p else 0) np)]) (by rw [nI_clamp (show np < 2 ^ 31 by omega), hb_ul]) ?_
                          exact hb_lret hAe hx hb hr hlocks hP hD hS (Nat.le_of_ble_eq_true rfl) (Nat.le_of_ble_eq_true rfl) (⟨by rw [if_pos c49], f108, f109, f110, f111, f112, f107, by rw [if_pos c49]; exact f106, f113, f105, f114, f115, f116, f117, hap⟩) d_Md_ask_174
                        · skip
                          exfalso; revert c87; decide
                      · skip
                        exact absurd hok (by intro z; rcases z with z | z; exact absurd c49 (hb_ngt z); exact absurd z.2 c52)
                · skip
                  refine lv_iconst (v := 1) hx hb d_Md_ask_89 (by decide) ?_
                  refine lv_goto (tgt := 94) hx hb d_Md_ask_90 (by decide) ?_
                  refine lv_istore (lv' := [(8, .int 1), (6, .long (bal ka - mi ka - hb_sm (fun p => if ac p = (nI ka) then he p else 0) np - hb_sm (fun p => if ac p = (nI ka) ∧ (ds p = 1 ∨ ds p = 2) then dd p else 0) np)), (0, .ref y), (1, .int k), (2, .int (nI ka)), (3, .long am), (5, .int pt9)]) hx hb d_Md_ask_94 hl (by decide) rfl (fun ls hl => ?_)
                  refine lv_iload hx hb d_Md_ask_96 (lv_at hl 0 rfl) ?_
                  refine lv_if_ne (tgt := 117) hx hb d_Md_ask_98 (by decide) (fun c118 => ?_) (fun c118 => ?_)
                  · skip
                    refine lv_aload_n hx hb d_Md_ask_117 rfl (lv_at hl 2 rfl) ?_
                    refine lv_iload_n hx hb d_Md_ask_118 rfl (lv_at hl 3 rfl) ?_
                    refine lv_iload_n hx hb d_Md_ask_119 rfl (lv_at hl 4 rfl) ?_
                    have hm119 : mR cI cJ M16 y b0 b1 b2 b3 b4 b5 b6 b7 b8 b9 b10 b11 0 ho pa tm na np bal mi ky ac st he cl un dn ds dd dl := ⟨fy21, g22, g23, g24, g25, g26, g27, g28, g29, g30, g31, g32, g33, hap⟩
                    refine hb_callV (rest := []) hX hts hb_gd Y_Md_come (c_Md_come hE M16 y b0 b1 b2 b3 b4 b5 b6 b7 b8 b9 b10 b11 0 ho pa tm na np bal mi ky ac st he cl un dn ds dd dl hm119 (by omega) (by omega) k (nI ka) hl9) ml_Md_100 im_Md_come se_Md_come hK fy21 hC_Md.1 hz hP hD hS hA rfl hl.1 rfl (Nat.le_of_ble_eq_true rfl) ⟨Nat.le_of_ble_eq_true rfl, Nat.le_of_ble_eq_true rfl⟩ ⟨Nat.le_of_ble_eq_true rfl, Nat.le_of_ble_eq_true rfl⟩ d_Md_ask_120 (fun v122 M120 H locs hq121 hP hD hS _ hkp => ?_)
                    obtain ⟨ev124, h123⟩ := hq121
                    subst ev124
                    obtain ⟨fy125, g126, g127, g128, g129, g130, g131, g132, g133, g134, g135, g136, g137, -⟩ := id h123
                    refine W.eq (g2 := F0 m 123 ls [.int (nI np)]) rfl ?_
                    refine lv_istore (lv' := [(9, .int (nI np)), (8, .int 1), (6, .long (bal ka - mi ka - hb_sm (fun p => if ac p = (nI ka) then he p else 0) np - hb_sm (fun p => if ac p = (nI ka) ∧ (ds p = 1 ∨ ds p = 2) then dd p else 0) np)), (0, .ref y), (1, .int k), (2, .int (nI ka)), (3, .long am), (5, .int pt9)]) hx hb d_Md_ask_123 hl (by decide) rfl (fun ls hl => ?_)
                    refine lv_aload_n hx hb d_Md_ask_125 rfl (lv_at hl 3 rfl) ?_
                    refine hb_get hx hb hts hown hC_Md hK hP fy125 10 (by decide) rfl fl_Md_23 rfl d_Md_ask_126 ?_
                    refine lv_iload hx hb d_Md_ask_129 (lv_at hl 0 rfl) ?_
                    refine lv_iconst (v := 1) hx hb d_Md_ask_131 (by decide) ?_
                    refine hb_iast hx hb hK hP hD hS g130 (vp_in_nI (by omega) (by omega)) d_Md_ask_132 (fun M138 H locs eM139 hP hD hS => ?_)
                    rw [nI_clamp (show np < 2 ^ 31 by omega)] at eM139
                    have f140 : M138 b4 = some (.inl (cI, 60, .inl (upd (upd st np 2) np 1))) := by rw [eM139]; exact hb_up_self
                    have f141 : M138 y = some (.inr (4, [.int 0, .int ho, .int pa, .int tm, .int (nI na), .ref b0, .ref b1, .int (nI (np + 1)), .ref b2, .ref b3, .ref b4, .ref b5, .ref b6, .ref b7, .ref b8, .ref b9, .ref b10, .ref b11])) := by rw [eM139, hb_up_ne (fun q9 => by rw [q9, g130] at fy125; cases fy125)]; exact fy125
                    have f142 : M138 b0 = some (.inl (cJ, 16, .inr (.inl bal))) := by rw [eM139, hb_up_ne (hap.ne 0 4 (by decide) rfl rfl)]; exact g126
                    have f143 : M138 b1 = some (.inl (cJ, 16, .inr (.inl mi))) := by rw [eM139, hb_up_ne (hap.ne 1 4 (by decide) rfl rfl)]; exact g127
                    have f144 : M138 b2 = some (.inl (cI, 60, .inl (upd ky np k))) := by rw [eM139, hb_up_ne (hap.ne 2 4 (by decide) rfl rfl)]; exact g128
                    have f145 : M138 b3 = some (.inl (cI, 60, .inl (upd ac np (nI ka)))) := by rw [eM139, hb_up_ne (hap.ne 3 4 (by decide) rfl rfl)]; exact g129
                    have f146 : M138 b5 = some (.inl (cJ, 60, .inr (.inl (vp_updL he np 0)))) := by rw [eM139, hb_up_ne (hap.ne 5 4 (by decide) rfl rfl)]; exact g131
                    have f147 : M138 b6 = some (.inl (cJ, 60, .inr (.inl (vp_updL cl np 0)))) := by rw [eM139, hb_up_ne (hap.ne 6 4 (by decide) rfl rfl)]; exact g132
                    have f148 : M138 b7 = some (.inl (cI, 60, .inl (upd un np 0))) := by rw [eM139, hb_up_ne (hap.ne 7 4 (by decide) rfl rfl)]; exact g133
                    have f149 : M138 b8 = some (.inl (cI, 60, .inl (upd dn np (-1)))) := by rw [eM139, hb_up_ne (hap.ne 8 4 (by decide) rfl rfl)]; exact g134
                    have f150 : M138 b9 = some (.inl (cI, 60, .inl (upd ds np 0))) := by rw [eM139, hb_up_ne (hap.ne 9 4 (by decide) rfl rfl)]; exact g135
                    have f151 : M138 b10 = some (.inl (cJ, 60, .inr (.inl (vp_updL dd np 0)))) := by rw [eM139, hb_up_ne (hap.ne 10 4 (by decide) rfl rfl)]; exact g136
                    have f152 : M138 b11 = some (.inl (cI, 60, .inl (upd dl np (-1)))) := by rw [eM139, hb_up_ne (hap.ne 11 4 (by decide) rfl rfl)]; exact g137
                    refine lv_aload_n hx hb d_Md_ask_133 rfl (lv_at hl 3 rfl) ?_
                    refine hb_get hx hb hts hown hC_Md hK hP f141 11 (by decide) rfl fl_Md_26 rfl d_Md_ask_134 ?_
                    refine lv_iload hx hb d_Md_ask_137 (lv_at hl 0 rfl) ?_
                    refine lv_iload hx hb d_Md_ask_139 (lv_at hl 1 rfl) ?_
                    refine lv_if_eq (tgt := 148) hx hb d_Md_ask_141 (by decide) (fun c153 => ?_) (fun c153 => ?_)
                    · skip
                      exfalso; revert c153; decide
                    · skip
                      refine lv_lload_n hx hb d_Md_ask_144 rfl (lv_at hl 6 rfl) ?_
                      refine lv_goto (tgt := 150) hx hb d_Md_ask_145 (by decide) ?_
                      refine hb_last hx hb hK hP hD hS f146 (vp_in_nI (by omega) (by omega)) d_Md_ask_150 (fun M154 H locs eM155 hP hD hS => ?_)
                      rw [nI_clamp (show np < 2 ^ 31 by omega)] at eM155
                      have f156 : M154 b5 = some (.inl (cJ, 60, .inr (.inl (vp_updL (vp_updL he np 0) np am)))) := by rw [eM155]; exact hb_up_self
                      have f157 : M154 b4 = some (.inl (cI, 60, .inl (upd (upd st np 2) np 1))) := by rw [eM155, hb_up_ne (hap.ne 4 5 (by decide) rfl rfl)]; exact f140
                      have f158 : M154 y = some (.inr (4, [.int 0, .int ho, .int pa, .int tm, .int (nI na), .ref b0, .ref b1, .int (nI (np + 1)), .ref b2, .ref b3, .ref b4, .ref b5, .ref b6, .ref b7, .ref b8, .ref b9, .ref b10, .ref b11])) := by rw [eM155, hb_up_ne (fun q9 => by rw [q9, f146] at f141; cases f141)]; exact f141
                      have f159 : M154 b0 = some (.inl (cJ, 16, .inr (.inl bal))) := by rw [eM155, hb_up_ne (hap.ne 0 5 (by decide) rfl rfl)]; exact f142
                      have f160 : M154 b1 = some (.inl (cJ, 16, .inr (.inl mi))) := by rw [eM155, hb_up_ne (hap.ne 1 5 (by decide) rfl rfl)]; exact f143
                      have f161 : M154 b2 = some (.inl (cI, 60, .inl (upd ky np k))) := by rw [eM155, hb_up_ne (hap.ne 2 5 (by decide) rfl rfl)]; exact f144
                      have f162 : M154 b3 = some (.inl (cI, 60, .inl (upd ac np (nI ka)))) := by rw [eM155, hb_up_ne (hap.ne 3 5 (by decide) rfl rfl)]; exact f145
                      have f163 : M154 b6 = some (.inl (cJ, 60, .inr (.inl (vp_updL cl np 0)))) := by rw [eM155, hb_up_ne (hap.ne 6 5 (by decide) rfl rfl)]; exact f147
                      have f164 : M154 b7 = some (.inl (cI, 60, .inl (upd un np 0))) := by rw [eM155, hb_up_ne (hap.ne 7 5 (by decide) rfl rfl)]; exact f148
                      have f165 : M154 b8 = some (.inl (cI, 60, .inl (upd dn np (-1)))) := by rw [eM155, hb_up_ne (hap.ne 8 5 (by decide) rfl rfl)]; exact f149
                      have f166 : M154 b9 = some (.inl (cI, 60, .inl (upd ds np 0))) := by rw [eM155, hb_up_ne (hap.ne 9 5 (by decide) rfl rfl)]; exact f150
                      have f167 : M154 b10 = some (.inl (cJ, 60, .inr (.inl (vp_updL dd np 0)))) := by rw [eM155, hb_up_ne (hap.ne 10 5 (by decide) rfl rfl)]; exact f151
                      have f168 : M154 b11 = some (.inl (cI, 60, .inl (upd dl np (-1)))) := by rw [eM155, hb_up_ne (hap.ne 11 5 (by decide) rfl rfl)]; exact f152
                      refine lv_aload_n hx hb d_Md_ask_151 rfl (lv_at hl 3 rfl) ?_
                      refine hb_get hx hb hts hown hC_Md hK hP f158 13 (by decide) rfl fl_Md_32 rfl d_Md_ask_152 ?_
                      refine lv_iload hx hb d_Md_ask_155 (lv_at hl 0 rfl) ?_
                      refine lv_aload_n hx hb d_Md_ask_157 rfl (lv_at hl 3 rfl) ?_
                      refine hb_get hx hb hts hown hC_Md hK hP f158 3 (by decide) rfl fl_Md_104 rfl d_Md_ask_158 ?_
                      refine lv_aload_n hx hb d_Md_ask_161 rfl (lv_at hl 3 rfl) ?_
                      refine hb_get hx hb hts hown hC_Md hK hP f158 1 (by decide) rfl fl_Md_47 rfl d_Md_ask_162 ?_
                      refine lv_iadd hx hb d_Md_ask_165 ?_
                      refine hb_iast hx hb hK hP hD hS f164 (vp_in_nI (by omega) (by omega)) d_Md_ask_166 (fun M169 H locs eM170 hP hD hS => ?_)
                      rw [nI_clamp (show np < 2 ^ 31 by omega)] at eM170
                      have f171 : M169 b7 = some (.inl (cI, 60, .inl (upd (upd un np 0) np (tm + ho)))) := by rw [eM170]; exact hb_up_self
                      have f172 : M169 b5 = some (.inl (cJ, 60, .inr (.inl (vp_updL (vp_updL he np 0) np am)))) := by rw [eM170, hb_up_ne (hap.ne 5 7 (by decide) rfl rfl)]; exact f156
                      have f173 : M169 b4 = some (.inl (cI, 60, .inl (upd (upd st np 2) np 1))) := by rw [eM170, hb_up_ne (hap.ne 4 7 (by decide) rfl rfl)]; exact f157
                      have f174 : M169 y = some (.inr (4, [.int 0, .int ho, .int pa, .int tm, .int (nI na), .ref b0, .ref b1, .int (nI (np + 1)), .ref b2, .ref b3, .ref b4, .ref b5, .ref b6, .ref b7, .ref b8, .ref b9, .ref b10, .ref b11])) := by rw [eM170, hb_up_ne (fun q9 => by rw [q9, f164] at f158; cases f158)]; exact f158
                      have f175 : M169 b0 = some (.inl (cJ, 16, .inr (.inl bal))) := by rw [eM170, hb_up_ne (hap.ne 0 7 (by decide) rfl rfl)]; exact f159
                      have f176 : M169 b1 = some (.inl (cJ, 16, .inr (.inl mi))) := by rw [eM170, hb_up_ne (hap.ne 1 7 (by decide) rfl rfl)]; exact f160
                      have f177 : M169 b2 = some (.inl (cI, 60, .inl (upd ky np k))) := by rw [eM170, hb_up_ne (hap.ne 2 7 (by decide) rfl rfl)]; exact f161
                      have f178 : M169 b3 = some (.inl (cI, 60, .inl (upd ac np (nI ka)))) := by rw [eM170, hb_up_ne (hap.ne 3 7 (by decide) rfl rfl)]; exact f162
                      have f179 : M169 b6 = some (.inl (cJ, 60, .inr (.inl (vp_updL cl np 0)))) := by rw [eM170, hb_up_ne (hap.ne 6 7 (by decide) rfl rfl)]; exact f163
                      have f180 : M169 b8 = some (.inl (cI, 60, .inl (upd dn np (-1)))) := by rw [eM170, hb_up_ne (hap.ne 8 7 (by decide) rfl rfl)]; exact f165
                      have f181 : M169 b9 = some (.inl (cI, 60, .inl (upd ds np 0))) := by rw [eM170, hb_up_ne (hap.ne 9 7 (by decide) rfl rfl)]; exact f166
                      have f182 : M169 b10 = some (.inl (cJ, 60, .inr (.inl (vp_updL dd np 0)))) := by rw [eM170, hb_up_ne (hap.ne 10 7 (by decide) rfl rfl)]; exact f167
                      have f183 : M169 b11 = some (.inl (cI, 60, .inl (upd dl np (-1)))) := by rw [eM170, hb_up_ne (hap.ne 11 7 (by decide) rfl rfl)]; exact f168
                      refine lv_aload_n hx hb d_Md_ask_167 rfl (lv_at hl 3 rfl) ?_
                      refine hb_get hx hb hts hown hC_Md hK hP f174 11 (by decide) rfl fl_Md_26 rfl d_Md_ask_168 ?_
                      refine lv_iload hx hb d_Md_ask_171 (lv_at hl 0 rfl) ?_
                      refine va_lald hx hb hK (hP.one f172) 0 1 rfl rfl (vp_in_nI (by omega) (by omega)) d_Md_ask_173 ?_
                      refine W.eq (g2 := F0 m 174 ls [.long am]) (by rw [nI_clamp (show np < 2 ^ 31 by omega), hb_ul]) ?_
                      exact hb_lret hAe hx hb hr hlocks hP hD hS (Nat.le_of_ble_eq_true rfl) (Nat.le_of_ble_eq_true rfl) (⟨by rw [if_neg c49], f174, f175, f176, f177, f178, f173, by rw [if_neg c49]; exact f172, f179, f171, f180, f181, f182, f183, hap⟩) d_Md_ask_174
                  · skip
                    exfalso; revert c118; decide
              · skip
                exact absurd ((nI_eq (b := 60) (by omega) (by omega)).mp c42) (by omega)
          · skip
            exfalso; revert c34; decide
set_option maxHeartbeats 4000000 in
set_option maxRecDepth 100000 in
/-- clear: no -/
theorem c_Md_clear_no {l : Launch} {s0 : State} {D : va_G} {cI cJ cO : ClassId} {e0 mi : Nat} (hE : hb_E l s0 D cI cJ cO e0 mi) (M : hb_M) (y b0 b1 b2 b3 b4 b5 b6 b7 b8 b9 b10 b11 : Nat) (cd ho pa tm : Int32) (na np : Nat) (bal mi : Nat → Int64) (ky ac st : Nat → Int32) (he cl : Nat → Int64) (un dn ds : Nat → Int32) (dd : Nat → Int64) (dl : Nat → Int32) (h : mR cI cJ M y b0 b1 b2 b3 b4 b5 b6 b7 b8 b9 b10 b11 cd ho pa tm na np bal mi ky ac st he cl un dn ds dd dl) (hna : na ≤ 16) (hnp : np ≤ 60) (k : Int32) (hpl : hb_plc ky k np = -1) (hkk : ¬ (k < 0 ∨ 1000000 < k)) (am : Int64) (hm : ¬ (am < 1 ∨ 1000000000000 < am)) (mo : Int32) : hb_Met l D hb_cl s0 y_Md_clear b_Md_clear 6 (some .long) { frames := 3, cells := 0, slots := 0, locals := 100 } [.ref y, .int k, .long am, .int mo] M (fun v M1 => v = some (.long (-6)) ∧ mR cI cJ M1 y b0 b1 b2 b3 b4 b5 b6 b7 b8 b9 b10 b11 0 ho pa tm na np bal mi ky ac st he cl un dn ds dd dl) := by
  refine hb_Met.of (by decide) (Nat.le_of_ble_eq_true rfl) ?_
  intro p e s m below meth c A hAe hX hz hP hD hA hS ls hl
  obtain ⟨hx, hb, hr, hml, hown, hlocks, hnm, hG, hnh⟩ := id hX
  have hown : s.vm.findClass "HoldBookModel" = some m.cls := hown
  have hts := hE.ts hG ([.ref y, .int k, .long am, .int mo] : List Value).toArray
  have hK := hE.kn hG
  have hl : lv_has ls 6 [(0, .ref y), (1, .int k), (2, .long am), (4, .int mo)] := hl
  obtain ⟨fy, g0, g1, g2, g3, g4, g5, g6, g7, g8, g9, g10, g11, hap⟩ := id h
  refine lv_aload_n hx hb d_Md_clear_0 rfl (lv_at hl 0 rfl) ?_
  refine lv_iload_n hx hb d_Md_clear_1 rfl (lv_at hl 1 rfl) ?_
  refine hb_callS (rest := [.ref y]) hX hts hb_gd Y_Md_isKey (c_Md_isKey hE M k) ml_Md_75 st_Md_isKey hz hP hD hS hA rfl hl.1 rfl (Nat.le_of_ble_eq_true rfl) ⟨Nat.le_of_ble_eq_true rfl, Nat.le_of_ble_eq_true rfl⟩ ⟨Nat.le_of_ble_eq_true rfl, Nat.le_of_ble_eq_true rfl⟩ d_Md_clear_2 (fun v3 M1 H locs hq2 hP hD hS _ hkp => ?_)
  obtain ⟨ev4, eM5⟩ := hq2
  rw [if_neg hkk] at ev4
  subst ev4
  rw [eM5] at hP hD
  refine W.eq (g2 := F0 m 5 ls [.int 1, .ref y]) rfl ?_
  refine lv_if_eq (tgt := 19) hx hb d_Md_clear_5 (by decide) (fun c6 => ?_) (fun c6 => ?_)
  · skip
    exfalso; revert c6; decide
  · skip
    refine lv_lload_n hx hb d_Md_clear_8 rfl (lv_at hl 2 rfl) ?_
    refine hb_callS (rest := [.ref y]) hX hts hb_gd Y_Md_isAmount (c_Md_isAmount hE M am) ml_Md_79 st_Md_isAmount hz hP hD hS hA rfl hl.1 rfl (Nat.le_of_ble_eq_true rfl) ⟨Nat.le_of_ble_eq_true rfl, Nat.le_of_ble_eq_true rfl⟩ ⟨Nat.le_of_ble_eq_true rfl, Nat.le_of_ble_eq_true rfl⟩ d_Md_clear_9 (fun v9 M7 H locs hq8 hP hD hS _ hkp => ?_)
    obtain ⟨ev10, eM11⟩ := hq8
    rw [if_neg hm] at ev10
    subst ev10
    rw [eM11] at hP hD
    refine W.eq (g2 := F0 m 12 ls [.int 1, .ref y]) rfl ?_
    refine lv_if_eq (tgt := 19) hx hb d_Md_clear_12 (by decide) (fun c12 => ?_) (fun c12 => ?_)
    · skip
      exfalso; revert c12; decide
    · skip
      refine lv_iconst (v := 1) hx hb d_Md_clear_15 (by decide) ?_
      refine lv_goto (tgt := 20) hx hb d_Md_clear_16 (by decide) ?_
      have hm13 : mR cI cJ M y b0 b1 b2 b3 b4 b5 b6 b7 b8 b9 b10 b11 cd ho pa tm na np bal mi ky ac st he cl un dn ds dd dl := ⟨fy, g0, g1, g2, g3, g4, g5, g6, g7, g8, g9, g10, g11, hap⟩
      refine hb_callV (rest := []) hX hts hb_gd Y_Md_goes (c_Md_goes hE M y b0 b1 b2 b3 b4 b5 b6 b7 b8 b9 b10 b11 cd ho pa tm na np bal mi ky ac st he cl un dn ds dd dl hm13 (by omega) (by omega) 1 (by decide)) ml_Md_83 im_Md_goes se_Md_goes hK fy hC_Md.1 hz hP hD hS hA rfl hl.1 rfl (Nat.le_of_ble_eq_true rfl) ⟨Nat.le_of_ble_eq_true rfl, Nat.le_of_ble_eq_true rfl⟩ ⟨Nat.le_of_ble_eq_true rfl, Nat.le_of_ble_eq_true rfl⟩ d_Md_clear_20 (fun v16 M14 H locs hq15 hP hD hS _ hkp => ?_)
      obtain ⟨ev17, h18⟩ := hq15
      subst ev17
      rw [if_neg (by decide : ¬ (1 : Int32) = 0)] at h18
      obtain ⟨fy19, g20, g21, g22, g23, g24, g25, g26, g27, g28, g29, g30, g31, -⟩ := id h18
      refine W.eq (g2 := F0 m 23 ls [.int 1]) rfl ?_
      refine lv_if_ne (tgt := 28) hx hb d_Md_clear_23 (by decide) (fun c32 => ?_) (fun c32 => ?_)
      · skip
        refine lv_aload_n hx hb d_Md_clear_28 rfl (lv_at hl 0 rfl) ?_
        refine lv_iload_n hx hb d_Md_clear_29 rfl (lv_at hl 1 rfl) ?_
        have hm33 : mR cI cJ M14 y b0 b1 b2 b3 b4 b5 b6 b7 b8 b9 b10 b11 0 ho pa tm na np bal mi ky ac st he cl un dn ds dd dl := ⟨fy19, g20, g21, g22, g23, g24, g25, g26, g27, g28, g29, g30, g31, hap⟩
        refine hb_callV (rest := []) hX hts hb_gd Y_Md_place (c_Md_place hE M14 y b0 b1 b2 b3 b4 b5 b6 b7 b8 b9 b10 b11 0 ho pa tm na np bal mi ky ac st he cl un dn ds dd dl hm33 (by omega) (by omega) k) ml_Md_87 im_Md_place se_Md_place hK fy19 hC_Md.1 hz hP hD hS hA rfl hl.1 rfl (Nat.le_of_ble_eq_true rfl) ⟨Nat.le_of_ble_eq_true rfl, Nat.le_of_ble_eq_true rfl⟩ ⟨Nat.le_of_ble_eq_true rfl, Nat.le_of_ble_eq_true rfl⟩ d_Md_clear_30 (fun v36 M34 H locs hq35 hP hD hS _ hkp => ?_)
        obtain ⟨ev37, eM38⟩ := hq35
        subst ev37
        rw [eM38] at hP hD
        refine W.eq (g2 := F0 m 33 ls [.int (hb_plc ky k np)]) rfl ?_
        refine W.eq (g2 := F0 m 33 ls [.int (-1)]) (by rw [hpl]) ?_
        refine lv_istore (lv' := [(5, .int (-1)), (0, .ref y), (1, .int k), (2, .long am), (4, .int mo)]) hx hb d_Md_clear_33 hl (by decide) rfl (fun ls hl => ?_)
        refine lv_iload hx hb d_Md_clear_35 (lv_at hl 0 rfl) ?_
        refine lv_if_ge (tgt := 44) hx hb d_Md_clear_37 (by decide) (fun c39 => ?_) (fun c39 => ?_)
        · skip
          have c39n := hb_ngti c39
          exfalso; revert c39; decide
        · skip
          have c39n := hb_gti c39
          refine lv_ldc2 (v := (-6)) hx hb hown (hts _ kc_Md_107) d_Md_clear_40 ?_
          exact hb_lret hAe hx hb hr hlocks hP hD hS (Nat.le_of_ble_eq_true rfl) (Nat.le_of_ble_eq_true rfl) (⟨rfl, ⟨fy19, g20, g21, g22, g23, g24, g25, g26, g27, g28, g29, g30, g31, hap⟩⟩) d_Md_clear_43
      · skip
        exfalso; revert c32; decide
set_option maxHeartbeats 4000000 in
set_option maxRecDepth 100000 in
/-- clear: st -/
theorem c_Md_clear_st {l : Launch} {s0 : State} {D : va_G} {cI cJ cO : ClassId} {e0 mi : Nat} (hE : hb_E l s0 D cI cJ cO e0 mi) (M : hb_M) (y b0 b1 b2 b3 b4 b5 b6 b7 b8 b9 b10 b11 : Nat) (cd ho pa tm : Int32) (na np : Nat) (bal mi : Nat → Int64) (ky ac st : Nat → Int32) (he cl : Nat → Int64) (un dn ds : Nat → Int32) (dd : Nat → Int64) (dl : Nat → Int32) (h : mR cI cJ M y b0 b1 b2 b3 b4 b5 b6 b7 b8 b9 b10 b11 cd ho pa tm na np bal mi ky ac st he cl un dn ds dd dl) (hna : na ≤ 16) (hnp : np ≤ 60) (k : Int32) (j : Nat) (hj : j < np) (hpl : hb_plc ky k np = nI j) (hkk : ¬ (k < 0 ∨ 1000000 < k)) (am : Int64) (hm : ¬ (am < 1 ∨ 1000000000000 < am)) (mo : Int32) (hs : st j ≠ 1) : hb_Met l D hb_cl s0 y_Md_clear b_Md_clear 6 (some .long) { frames := 3, cells := 0, slots := 0, locals := 100 } [.ref y, .int k, .long am, .int mo] M (fun v M1 => v = some (.long (-9)) ∧ mR cI cJ M1 y b0 b1 b2 b3 b4 b5 b6 b7 b8 b9 b10 b11 0 ho pa tm na np bal mi ky ac st he cl un dn ds dd dl) := by
  refine hb_Met.of (by decide) (Nat.le_of_ble_eq_true rfl) ?_
  intro p e s m below meth c A hAe hX hz hP hD hA hS ls hl
  obtain ⟨hx, hb, hr, hml, hown, hlocks, hnm, hG, hnh⟩ := id hX
  have hown : s.vm.findClass "HoldBookModel" = some m.cls := hown
  have hts := hE.ts hG ([.ref y, .int k, .long am, .int mo] : List Value).toArray
  have hK := hE.kn hG
  have hl : lv_has ls 6 [(0, .ref y), (1, .int k), (2, .long am), (4, .int mo)] := hl
  obtain ⟨fy, g0, g1, g2, g3, g4, g5, g6, g7, g8, g9, g10, g11, hap⟩ := id h
  refine lv_aload_n hx hb d_Md_clear_0 rfl (lv_at hl 0 rfl) ?_
  refine lv_iload_n hx hb d_Md_clear_1 rfl (lv_at hl 1 rfl) ?_
  refine hb_callS (rest := [.ref y]) hX hts hb_gd Y_Md_isKey (c_Md_isKey hE M k) ml_Md_75 st_Md_isKey hz hP hD hS hA rfl hl.1 rfl (Nat.le_of_ble_eq_true rfl) ⟨Nat.le_of_ble_eq_true rfl, Nat.le_of_ble_eq_true rfl⟩ ⟨Nat.le_of_ble_eq_true rfl, Nat.le_of_ble_eq_true rfl⟩ d_Md_clear_2 (fun v3 M1 H locs hq2 hP hD hS _ hkp => ?_)
  obtain ⟨ev4, eM5⟩ := hq2
  rw [if_neg hkk] at ev4
  subst ev4
  rw [eM5] at hP hD
  refine W.eq (g2 := F0 m 5 ls [.int 1, .ref y]) rfl ?_
  refine lv_if_eq (tgt := 19) hx hb d_Md_clear_5 (by decide) (fun c6 => ?_) (fun c6 => ?_)
  · skip
    exfalso; revert c6; decide
  · skip
    refine lv_lload_n hx hb d_Md_clear_8 rfl (lv_at hl 2 rfl) ?_
    refine hb_callS (rest := [.ref y]) hX hts hb_gd Y_Md_isAmount (c_Md_isAmount hE M am) ml_Md_79 st_Md_isAmount hz hP hD hS hA rfl hl.1 rfl (Nat.le_of_ble_eq_true rfl) ⟨Nat.le_of_ble_eq_true rfl, Nat.le_of_ble_eq_true rfl⟩ ⟨Nat.le_of_ble_eq_true rfl, Nat.le_of_ble_eq_true rfl⟩ d_Md_clear_9 (fun v9 M7 H locs hq8 hP hD hS _ hkp => ?_)
    obtain ⟨ev10, eM11⟩ := hq8
    rw [if_neg hm] at ev10
    subst ev10
    rw [eM11] at hP hD
    refine W.eq (g2 := F0 m 12 ls [.int 1, .ref y]) rfl ?_
    refine lv_if_eq (tgt := 19) hx hb d_Md_clear_12 (by decide) (fun c12 => ?_) (fun c12 => ?_)
    · skip
      exfalso; revert c12; decide
    · skip
      refine lv_iconst (v := 1) hx hb d_Md_clear_15 (by decide) ?_
      refine lv_goto (tgt := 20) hx hb d_Md_clear_16 (by decide) ?_
      have hm13 : mR cI cJ M y b0 b1 b2 b3 b4 b5 b6 b7 b8 b9 b10 b11 cd ho pa tm na np bal mi ky ac st he cl un dn ds dd dl := ⟨fy, g0, g1, g2, g3, g4, g5, g6, g7, g8, g9, g10, g11, hap⟩
      refine hb_callV (rest := []) hX hts hb_gd Y_Md_goes (c_Md_goes hE M y b0 b1 b2 b3 b4 b5 b6 b7 b8 b9 b10 b11 cd ho pa tm na np bal mi ky ac st he cl un dn ds dd dl hm13 (by omega) (by omega) 1 (by decide)) ml_Md_83 im_Md_goes se_Md_goes hK fy hC_Md.1 hz hP hD hS hA rfl hl.1 rfl (Nat.le_of_ble_eq_true rfl) ⟨Nat.le_of_ble_eq_true rfl, Nat.le_of_ble_eq_true rfl⟩ ⟨Nat.le_of_ble_eq_true rfl, Nat.le_of_ble_eq_true rfl⟩ d_Md_clear_20 (fun v16 M14 H locs hq15 hP hD hS _ hkp => ?_)
      obtain ⟨ev17, h18⟩ := hq15
      subst ev17
      rw [if_neg (by decide : ¬ (1 : Int32) = 0)] at h18
      obtain ⟨fy19, g20, g21, g22, g23, g24, g25, g26, g27, g28, g29, g30, g31, -⟩ := id h18
      refine W.eq (g2 := F0 m 23 ls [.int 1]) rfl ?_
      refine lv_if_ne (tgt := 28) hx hb d_Md_clear_23 (by decide) (fun c32 => ?_) (fun c32 => ?_)
      · skip
        refine lv_aload_n hx hb d_Md_clear_28 rfl (lv_at hl 0 rfl) ?_
        refine lv_iload_n hx hb d_Md_clear_29 rfl (lv_at hl 1 rfl) ?_
        have hm33 : mR cI cJ M14 y b0 b1 b2 b3 b4 b5 b6 b7 b8 b9 b10 b11 0 ho pa tm na np bal mi ky ac st he cl un dn ds dd dl := ⟨fy19, g20, g21, g22, g23, g24, g25, g26, g27, g28, g29, g30, g31, hap⟩
        refine hb_callV (rest := []) hX hts hb_gd Y_Md_place (c_Md_place hE M14 y b0 b1 b2 b3 b4 b5 b6 b7 b8 b9 b10 b11 0 ho pa tm na np bal mi ky ac st he cl un dn ds dd dl hm33 (by omega) (by omega) k) ml_Md_87 im_Md_place se_Md_place hK fy19 hC_Md.1 hz hP hD hS hA rfl hl.1 rfl (Nat.le_of_ble_eq_true rfl) ⟨Nat.le_of_ble_eq_true rfl, Nat.le_of_ble_eq_true rfl⟩ ⟨Nat.le_of_ble_eq_true rfl, Nat.le_of_ble_eq_true rfl⟩ d_Md_clear_30 (fun v36 M34 H locs hq35 hP hD hS _ hkp => ?_)
        obtain ⟨ev37, eM38⟩ := hq35
        subst ev37
        rw [eM38] at hP hD
        refine W.eq (g2 := F0 m 33 ls [.int (hb_plc ky k np)]) rfl ?_
        refine W.eq (g2 := F0 m 33 ls [.int (nI j)]) (by rw [hpl]) ?_
        refine lv_istore (lv' := [(5, .int (nI j)), (0, .ref y), (1, .int k), (2, .long am), (4, .int mo)]) hx hb d_Md_clear_33 hl (by decide) rfl (fun ls hl => ?_)
        refine lv_iload hx hb d_Md_clear_35 (lv_at hl 0 rfl) ?_
        refine lv_if_ge (tgt := 44) hx hb d_Md_clear_37 (by decide) (fun c39 => ?_) (fun c39 => ?_)
        · skip
          have c39n := hb_ngti c39
          refine lv_aload_n hx hb d_Md_clear_44 rfl (lv_at hl 1 rfl) ?_
          refine hb_get hx hb hts hown hC_Md hK hP fy19 10 (by decide) rfl fl_Md_23 rfl d_Md_clear_45 ?_
          refine lv_iload hx hb d_Md_clear_48 (lv_at hl 0 rfl) ?_
          refine va_iald hx hb hK (hP.one g24) 0 0 rfl rfl (vp_in_nI (by omega) (by omega)) d_Md_clear_50 ?_
          refine W.eq (g2 := F0 m 51 ls [.int (st j)]) (by rw [nI_clamp (show j < 2 ^ 31 by omega)]) ?_
          refine lv_iconst (v := 1) hx hb d_Md_clear_51 (by decide) ?_
          refine lv_icmp_eq (tgt := 59) hx hb d_Md_clear_52 (by decide) (fun c40 => ?_) (fun c40 => ?_)
          · skip
            exact absurd c40 hs
          · skip
            refine lv_ldc2 (v := (-9)) hx hb hown (hts _ kc_Md_109) d_Md_clear_55 ?_
            exact hb_lret hAe hx hb hr hlocks hP hD hS (Nat.le_of_ble_eq_true rfl) (Nat.le_of_ble_eq_true rfl) (⟨rfl, ⟨fy19, g20, g21, g22, g23, g24, g25, g26, g27, g28, g29, g30, g31, hap⟩⟩) d_Md_clear_58
        · skip
          have c39n := hb_gti c39
          exact absurd c39n (nI_pos (by omega))
      · skip
        exfalso; revert c32; decide
set_option maxHeartbeats 4000000 in
set_option maxRecDepth 100000 in
/-- clear: mu -/
theorem c_Md_clear_mu {l : Launch} {s0 : State} {D : va_G} {cI cJ cO : ClassId} {e0 mi : Nat} (hE : hb_E l s0 D cI cJ cO e0 mi) (M : hb_M) (y b0 b1 b2 b3 b4 b5 b6 b7 b8 b9 b10 b11 : Nat) (cd ho pa tm : Int32) (na np : Nat) (bal mi : Nat → Int64) (ky ac st : Nat → Int32) (he cl : Nat → Int64) (un dn ds : Nat → Int32) (dd : Nat → Int64) (dl : Nat → Int32) (h : mR cI cJ M y b0 b1 b2 b3 b4 b5 b6 b7 b8 b9 b10 b11 cd ho pa tm na np bal mi ky ac st he cl un dn ds dd dl) (hna : na ≤ 16) (hnp : np ≤ 60) (k : Int32) (j : Nat) (hj : j < np) (hpl : hb_plc ky k np = nI j) (hkk : ¬ (k < 0 ∨ 1000000 < k)) (am : Int64) (hm : ¬ (am < 1 ∨ 1000000000000 < am)) (mo : Int32) (hs : st j = 1) (hmu : he j < am) : hb_Met l D hb_cl s0 y_Md_clear b_Md_clear 6 (some .long) { frames := 3, cells := 0, slots := 0, locals := 100 } [.ref y, .int k, .long am, .int mo] M (fun v M1 => v = some (.long (-11)) ∧ mR cI cJ M1 y b0 b1 b2 b3 b4 b5 b6 b7 b8 b9 b10 b11 0 ho pa tm na np bal mi ky ac st he cl un dn ds dd dl) := by
  refine hb_Met.of (by decide) (Nat.le_of_ble_eq_true rfl) ?_
  intro p e s m below meth c A hAe hX hz hP hD hA hS ls hl
  obtain ⟨hx, hb, hr, hml, hown, hlocks, hnm, hG, hnh⟩ := id hX
  have hown : s.vm.findClass "HoldBookModel" = some m.cls := hown
  have hts := hE.ts hG ([.ref y, .int k, .long am, .int mo] : List Value).toArray
  have hK := hE.kn hG
  have hl : lv_has ls 6 [(0, .ref y), (1, .int k), (2, .long am), (4, .int mo)] := hl
  obtain ⟨fy, g0, g1, g2, g3, g4, g5, g6, g7, g8, g9, g10, g11, hap⟩ := id h
  refine lv_aload_n hx hb d_Md_clear_0 rfl (lv_at hl 0 rfl) ?_
  refine lv_iload_n hx hb d_Md_clear_1 rfl (lv_at hl 1 rfl) ?_
  refine hb_callS (rest := [.ref y]) hX hts hb_gd Y_Md_isKey (c_Md_isKey hE M k) ml_Md_75 st_Md_isKey hz hP hD hS hA rfl hl.1 rfl (Nat.le_of_ble_eq_true rfl) ⟨Nat.le_of_ble_eq_true rfl, Nat.le_of_ble_eq_true rfl⟩ ⟨Nat.le_of_ble_eq_true rfl, Nat.le_of_ble_eq_true rfl⟩ d_Md_clear_2 (fun v3 M1 H locs hq2 hP hD hS _ hkp => ?_)
  obtain ⟨ev4, eM5⟩ := hq2
  rw [if_neg hkk] at ev4
  subst ev4
  rw [eM5] at hP hD
  refine W.eq (g2 := F0 m 5 ls [.int 1, .ref y]) rfl ?_
  refine lv_if_eq (tgt := 19) hx hb d_Md_clear_5 (by decide) (fun c6 => ?_) (fun c6 => ?_)
  · skip
    exfalso; revert c6; decide
  · skip
    refine lv_lload_n hx hb d_Md_clear_8 rfl (lv_at hl 2 rfl) ?_
    refine hb_callS (rest := [.ref y]) hX hts hb_gd Y_Md_isAmount (c_Md_isAmount hE M am) ml_Md_79 st_Md_isAmount hz hP hD hS hA rfl hl.1 rfl (Nat.le_of_ble_eq_true rfl) ⟨Nat.le_of_ble_eq_true rfl, Nat.le_of_ble_eq_true rfl⟩ ⟨Nat.le_of_ble_eq_true rfl, Nat.le_of_ble_eq_true rfl⟩ d_Md_clear_9 (fun v9 M7 H locs hq8 hP hD hS _ hkp => ?_)
    obtain ⟨ev10, eM11⟩ := hq8
    rw [if_neg hm] at ev10
    subst ev10
    rw [eM11] at hP hD
    refine W.eq (g2 := F0 m 12 ls [.int 1, .ref y]) rfl ?_
    refine lv_if_eq (tgt := 19) hx hb d_Md_clear_12 (by decide) (fun c12 => ?_) (fun c12 => ?_)
    · skip
      exfalso; revert c12; decide
    · skip
      refine lv_iconst (v := 1) hx hb d_Md_clear_15 (by decide) ?_
      refine lv_goto (tgt := 20) hx hb d_Md_clear_16 (by decide) ?_
      have hm13 : mR cI cJ M y b0 b1 b2 b3 b4 b5 b6 b7 b8 b9 b10 b11 cd ho pa tm na np bal mi ky ac st he cl un dn ds dd dl := ⟨fy, g0, g1, g2, g3, g4, g5, g6, g7, g8, g9, g10, g11, hap⟩
      refine hb_callV (rest := []) hX hts hb_gd Y_Md_goes (c_Md_goes hE M y b0 b1 b2 b3 b4 b5 b6 b7 b8 b9 b10 b11 cd ho pa tm na np bal mi ky ac st he cl un dn ds dd dl hm13 (by omega) (by omega) 1 (by decide)) ml_Md_83 im_Md_goes se_Md_goes hK fy hC_Md.1 hz hP hD hS hA rfl hl.1 rfl (Nat.le_of_ble_eq_true rfl) ⟨Nat.le_of_ble_eq_true rfl, Nat.le_of_ble_eq_true rfl⟩ ⟨Nat.le_of_ble_eq_true rfl, Nat.le_of_ble_eq_true rfl⟩ d_Md_clear_20 (fun v16 M14 H locs hq15 hP hD hS _ hkp => ?_)
      obtain ⟨ev17, h18⟩ := hq15
      subst ev17
      rw [if_neg (by decide : ¬ (1 : Int32) = 0)] at h18
      obtain ⟨fy19, g20, g21, g22, g23, g24, g25, g26, g27, g28, g29, g30, g31, -⟩ := id h18
      refine W.eq (g2 := F0 m 23 ls [.int 1]) rfl ?_
      refine lv_if_ne (tgt := 28) hx hb d_Md_clear_23 (by decide) (fun c32 => ?_) (fun c32 => ?_)
      · skip
        refine lv_aload_n hx hb d_Md_clear_28 rfl (lv_at hl 0 rfl) ?_
        refine lv_iload_n hx hb d_Md_clear_29 rfl (lv_at hl 1 rfl) ?_
        have hm33 : mR cI cJ M14 y b0 b1 b2 b3 b4 b5 b6 b7 b8 b9 b10 b11 0 ho pa tm na np bal mi ky ac st he cl un dn ds dd dl := ⟨fy19, g20, g21, g22, g23, g24, g25, g26, g27, g28, g29, g30, g31, hap⟩
        refine hb_callV (rest := []) hX hts hb_gd Y_Md_place (c_Md_place hE M14 y b0 b1 b2 b3 b4 b5 b6 b7 b8 b9 b10 b11 0 ho pa tm na np bal mi ky ac st he cl un dn ds dd dl hm33 (by omega) (by omega) k) ml_Md_87 im_Md_place se_Md_place hK fy19 hC_Md.1 hz hP hD hS hA rfl hl.1 rfl (Nat.le_of_ble_eq_true rfl) ⟨Nat.le_of_ble_eq_true rfl, Nat.le_of_ble_eq_true rfl⟩ ⟨Nat.le_of_ble_eq_true rfl, Nat.le_of_ble_eq_true rfl⟩ d_Md_clear_30 (fun v36 M34 H locs hq35 hP hD hS _ hkp => ?_)
        obtain ⟨ev37, eM38⟩ := hq35
        subst ev37
        rw [eM38] at hP hD
        refine W.eq (g2 := F0 m 33 ls [.int (hb_plc ky k np)]) rfl ?_
        refine W.eq (g2 := F0 m 33 ls [.int (nI j)]) (by rw [hpl]) ?_
        refine lv_istore (lv' := [(5, .int (nI j)), (0, .ref y), (1, .int k), (2, .long am), (4, .int mo)]) hx hb d_Md_clear_33 hl (by decide) rfl (fun ls hl => ?_)
        refine lv_iload hx hb d_Md_clear_35 (lv_at hl 0 rfl) ?_
        refine lv_if_ge (tgt := 44) hx hb d_Md_clear_37 (by decide) (fun c39 => ?_) (fun c39 => ?_)
        · skip
          have c39n := hb_ngti c39
          refine lv_aload_n hx hb d_Md_clear_44 rfl (lv_at hl 1 rfl) ?_
          refine hb_get hx hb hts hown hC_Md hK hP fy19 10 (by decide) rfl fl_Md_23 rfl d_Md_clear_45 ?_
          refine lv_iload hx hb d_Md_clear_48 (lv_at hl 0 rfl) ?_
          refine va_iald hx hb hK (hP.one g24) 0 0 rfl rfl (vp_in_nI (by omega) (by omega)) d_Md_clear_50 ?_
          refine W.eq (g2 := F0 m 51 ls [.int (st j)]) (by rw [nI_clamp (show j < 2 ^ 31 by omega)]) ?_
          refine lv_iconst (v := 1) hx hb d_Md_clear_51 (by decide) ?_
          refine lv_icmp_eq (tgt := 59) hx hb d_Md_clear_52 (by decide) (fun c40 => ?_) (fun c40 => ?_)
          · skip
            refine lv_lload_n hx hb d_Md_clear_59 rfl (lv_at hl 3 rfl) ?_
            refine lv_aload_n hx hb d_Md_clear_60 rfl (lv_at hl 1 rfl) ?_
            refine hb_get hx hb hts hown hC_Md hK hP fy19 11 (by decide) rfl fl_Md_26 rfl d_Md_clear_61 ?_
            refine lv_iload hx hb d_Md_clear_64 (lv_at hl 0 rfl) ?_
            refine va_lald hx hb hK (hP.one g25) 0 1 rfl rfl (vp_in_nI (by omega) (by omega)) d_Md_clear_66 ?_
            refine W.eq (g2 := F0 m 67 ls [.long (he j), .long am]) (by rw [nI_clamp (show j < 2 ^ 31 by omega)]) ?_
            refine hb_lc_le (tgt := 75) hx hb d_Md_clear_67 d_Md_clear_68 (by decide) (fun c41 => ?_) (fun c41 => ?_)
            · skip
              have c41n := hb_ngt c41
              exact absurd hmu c41n
            · skip
              have c41n := hb_gt c41
              refine lv_ldc2 (v := (-11)) hx hb hown (hts _ kc_Md_111) d_Md_clear_71 ?_
              exact hb_lret hAe hx hb hr hlocks hP hD hS (Nat.le_of_ble_eq_true rfl) (Nat.le_of_ble_eq_true rfl) (⟨rfl, ⟨fy19, g20, g21, g22, g23, g24, g25, g26, g27, g28, g29, g30, g31, hap⟩⟩) d_Md_clear_74
          · skip
            exact absurd hs c40
        · skip
          have c39n := hb_gti c39
          exact absurd c39n (nI_pos (by omega))
      · skip
        exfalso; revert c32; decide
set_option maxHeartbeats 4000000 in
set_option maxRecDepth 100000 in
/-- clear: part -/
theorem c_Md_clear_part {l : Launch} {s0 : State} {D : va_G} {cI cJ cO : ClassId} {e0 mi : Nat} (hE : hb_E l s0 D cI cJ cO e0 mi) (M : hb_M) (y b0 b1 b2 b3 b4 b5 b6 b7 b8 b9 b10 b11 : Nat) (cd ho pa tm : Int32) (na np : Nat) (bal mi : Nat → Int64) (ky ac st : Nat → Int32) (he cl : Nat → Int64) (un dn ds : Nat → Int32) (dd : Nat → Int64) (dl : Nat → Int32) (h : mR cI cJ M y b0 b1 b2 b3 b4 b5 b6 b7 b8 b9 b10 b11 cd ho pa tm na np bal mi ky ac st he cl un dn ds dd dl) (hna : na ≤ 16) (hnp : np ≤ 60) (k : Int32) (j : Nat) (hj : j < np) (hpl : hb_plc ky k np = nI j) (hkk : ¬ (k < 0 ∨ 1000000 < k)) (am : Int64) (hm : ¬ (am < 1 ∨ 1000000000000 < am)) (mo : Int32) (hs : st j = 1) (hmu : ¬ he j < am) (hmo : mo ≠ 0) (hle : he j - am ≠ 0) (ka : Nat) (hka : ka < 16) (hac : ac j = nI ka) : hb_Met l D hb_cl s0 y_Md_clear b_Md_clear 6 (some .long) { frames := 3, cells := 0, slots := 0, locals := 100 } [.ref y, .int k, .long am, .int mo] M (fun v M1 => v = some (.long (he j - am)) ∧ mR cI cJ M1 y b0 b1 b2 b3 b4 b5 b6 b7 b8 b9 b10 b11 0 ho pa tm na np (vp_updL bal ka (bal ka - am)) mi ky ac st (vp_updL he j (he j - am)) (vp_updL cl j (cl j + am)) un dn ds dd dl) := by
  refine hb_Met.of (by decide) (Nat.le_of_ble_eq_true rfl) ?_
  intro p e s m below meth c A hAe hX hz hP hD hA hS ls hl
  obtain ⟨hx, hb, hr, hml, hown, hlocks, hnm, hG, hnh⟩ := id hX
  have hown : s.vm.findClass "HoldBookModel" = some m.cls := hown
  have hts := hE.ts hG ([.ref y, .int k, .long am, .int mo] : List Value).toArray
  have hK := hE.kn hG
  have hl : lv_has ls 6 [(0, .ref y), (1, .int k), (2, .long am), (4, .int mo)] := hl
  obtain ⟨fy, g0, g1, g2, g3, g4, g5, g6, g7, g8, g9, g10, g11, hap⟩ := id h
  refine lv_aload_n hx hb d_Md_clear_0 rfl (lv_at hl 0 rfl) ?_
  refine lv_iload_n hx hb d_Md_clear_1 rfl (lv_at hl 1 rfl) ?_
  refine hb_callS (rest := [.ref y]) hX hts hb_gd Y_Md_isKey (c_Md_isKey hE M k) ml_Md_75 st_Md_isKey hz hP hD hS hA rfl hl.1 rfl (Nat.le_of_ble_eq_true rfl) ⟨Nat.le_of_ble_eq_true rfl, Nat.le_of_ble_eq_true rfl⟩ ⟨Nat.le_of_ble_eq_true rfl, Nat.le_of_ble_eq_true rfl⟩ d_Md_clear_2 (fun v3 M1 H locs hq2 hP hD hS _ hkp => ?_)
  obtain ⟨ev4, eM5⟩ := hq2
  rw [if_neg hkk] at ev4
  subst ev4
  rw [eM5] at hP hD
  refine W.eq (g2 := F0 m 5 ls [.int 1, .ref y]) rfl ?_
  refine lv_if_eq (tgt := 19) hx hb d_Md_clear_5 (by decide) (fun c6 => ?_) (fun c6 => ?_)
  · skip
    exfalso; revert c6; decide
  · skip
    refine lv_lload_n hx hb d_Md_clear_8 rfl (lv_at hl 2 rfl) ?_
    refine hb_callS (rest := [.ref y]) hX hts hb_gd Y_Md_isAmount (c_Md_isAmount hE M am) ml_Md_79 st_Md_isAmount hz hP hD hS hA rfl hl.1 rfl (Nat.le_of_ble_eq_true rfl) ⟨Nat.le_of_ble_eq_true rfl, Nat.le_of_ble_eq_true rfl⟩ ⟨Nat.le_of_ble_eq_true rfl, Nat.le_of_ble_eq_true rfl⟩ d_Md_clear_9 (fun v9 M7 H locs hq8 hP hD hS _ hkp => ?_)
    obtain ⟨ev10, eM11⟩ := hq8
    rw [if_neg hm] at ev10
    subst ev10
    rw [eM11] at hP hD
    refine W.eq (g2 := F0 m 12 ls [.int 1, .ref y]) rfl ?_
    refine lv_if_eq (tgt := 19) hx hb d_Md_clear_12 (by decide) (fun c12 => ?_) (fun c12 => ?_)
    · skip
      exfalso; revert c12; decide
    · skip
      refine lv_iconst (v := 1) hx hb d_Md_clear_15 (by decide) ?_
      refine lv_goto (tgt := 20) hx hb d_Md_clear_16 (by decide) ?_
      have hm13 : mR cI cJ M y b0 b1 b2 b3 b4 b5 b6 b7 b8 b9 b10 b11 cd ho pa tm na np bal mi ky ac st he cl un dn ds dd dl := ⟨fy, g0, g1, g2, g3, g4, g5, g6, g7, g8, g9, g10, g11, hap⟩
      refine hb_callV (rest := []) hX hts hb_gd Y_Md_goes (c_Md_goes hE M y b0 b1 b2 b3 b4 b5 b6 b7 b8 b9 b10 b11 cd ho pa tm na np bal mi ky ac st he cl un dn ds dd dl hm13 (by omega) (by omega) 1 (by decide)) ml_Md_83 im_Md_goes se_Md_goes hK fy hC_Md.1 hz hP hD hS hA rfl hl.1 rfl (Nat.le_of_ble_eq_true rfl) ⟨Nat.le_of_ble_eq_true rfl, Nat.le_of_ble_eq_true rfl⟩ ⟨Nat.le_of_ble_eq_true rfl, Nat.le_of_ble_eq_true rfl⟩ d_Md_clear_20 (fun v16 M14 H locs hq15 hP hD hS _ hkp => ?_)
      obtain ⟨ev17, h18⟩ := hq15
      subst ev17
      rw [if_neg (by decide : ¬ (1 : Int32) = 0)] at h18
      obtain ⟨fy19, g20, g21, g22, g23, g24, g25, g26, g27, g28, g29, g30, g31, -⟩ := id h18
      refine W.eq (g2 := F0 m 23 ls [.int 1]) rfl ?_
      refine lv_if_ne (tgt := 28) hx hb d_Md_clear_23 (by decide) (fun c32 => ?_) (fun c32 => ?_)
      · skip
        refine lv_aload_n hx hb d_Md_clear_28 rfl (lv_at hl 0 rfl) ?_
        refine lv_iload_n hx hb d_Md_clear_29 rfl (lv_at hl 1 rfl) ?_
        have hm33 : mR cI cJ M14 y b0 b1 b2 b3 b4 b5 b6 b7 b8 b9 b10 b11 0 ho pa tm na np bal mi ky ac st he cl un dn ds dd dl := ⟨fy19, g20, g21, g22, g23, g24, g25, g26, g27, g28, g29, g30, g31, hap⟩
        refine hb_callV (rest := []) hX hts hb_gd Y_Md_place (c_Md_place hE M14 y b0 b1 b2 b3 b4 b5 b6 b7 b8 b9 b10 b11 0 ho pa tm na np bal mi ky ac st he cl un dn ds dd dl hm33 (by omega) (by omega) k) ml_Md_87 im_Md_place se_Md_place hK fy19 hC_Md.1 hz hP hD hS hA rfl hl.1 rfl (Nat.le_of_ble_eq_true rfl) ⟨Nat.le_of_ble_eq_true rfl, Nat.le_of_ble_eq_true rfl⟩ ⟨Nat.le_of_ble_eq_true rfl, Nat.le_of_ble_eq_true rfl⟩ d_Md_clear_30 (fun v36 M34 H locs hq35 hP hD hS _ hkp => ?_)
        obtain ⟨ev37, eM38⟩ := hq35
        subst ev37
        rw [eM38] at hP hD
        refine W.eq (g2 := F0 m 33 ls [.int (hb_plc ky k np)]) rfl ?_
        refine W.eq (g2 := F0 m 33 ls [.int (nI j)]) (by rw [hpl]) ?_
        refine lv_istore (lv' := [(5, .int (nI j)), (0, .ref y), (1, .int k), (2, .long am), (4, .int mo)]) hx hb d_Md_clear_33 hl (by decide) rfl (fun ls hl => ?_)
        refine lv_iload hx hb d_Md_clear_35 (lv_at hl 0 rfl) ?_
        refine lv_if_ge (tgt := 44) hx hb d_Md_clear_37 (by decide) (fun c39 => ?_) (fun c39 => ?_)
        · skip
          have c39n := hb_ngti c39
          refine lv_aload_n hx hb d_Md_clear_44 rfl (lv_at hl 1 rfl) ?_
          refine hb_get hx hb hts hown hC_Md hK hP fy19 10 (by decide) rfl fl_Md_23 rfl d_Md_clear_45 ?_
          refine lv_iload hx hb d_Md_clear_48 (lv_at hl 0 rfl) ?_
          refine va_iald hx hb hK (hP.one g24) 0 0 rfl rfl (vp_in_nI (by omega) (by omega)) d_Md_clear_50 ?_
          refine W.eq (g2 := F0 m 51 ls [.int (st j)]) (by rw [nI_clamp (show j < 2 ^ 31 by omega)]) ?_
          refine lv_iconst (v := 1) hx hb d_Md_clear_51 (by decide) ?_
          refine lv_icmp_eq (tgt := 59) hx hb d_Md_clear_52 (by decide) (fun c40 => ?_) (fun c40 => ?_)
          · skip
            refine lv_lload_n hx hb d_Md_clear_59 rfl (lv_at hl 3 rfl) ?_
            refine lv_aload_n hx hb d_Md_clear_60 rfl (lv_at hl 1 rfl) ?_
            refine hb_get hx hb hts hown hC_Md hK hP fy19 11 (by decide) rfl fl_Md_26 rfl d_Md_clear_61 ?_
            refine lv_iload hx hb d_Md_clear_64 (lv_at hl 0 rfl) ?_
            refine va_lald hx hb hK (hP.one g25) 0 1 rfl rfl (vp_in_nI (by omega) (by omega)) d_Md_clear_66 ?_
            refine W.eq (g2 := F0 m 67 ls [.long (he j), .long am]) (by rw [nI_clamp (show j < 2 ^ 31 by omega)]) ?_
            refine hb_lc_le (tgt := 75) hx hb d_Md_clear_67 d_Md_clear_68 (by decide) (fun c41 => ?_) (fun c41 => ?_)
            · skip
              have c41n := hb_ngt c41
              refine lv_aload_n hx hb d_Md_clear_75 rfl (lv_at hl 1 rfl) ?_
              refine hb_get hx hb hts hown hC_Md hK hP fy19 11 (by decide) rfl fl_Md_26 rfl d_Md_clear_76 ?_
              refine lv_iload hx hb d_Md_clear_79 (lv_at hl 0 rfl) ?_
              refine lv_dup2_11 hx hb d_Md_clear_81 rfl rfl ?_
              refine va_lald hx hb hK (hP.one g25) 0 1 rfl rfl (vp_in_nI (by omega) (by omega)) d_Md_clear_82 ?_
              refine W.eq (g2 := F0 m 83 ls [.long (he j), .int (nI j), .ref b5]) (by rw [nI_clamp (show j < 2 ^ 31 by omega)]) ?_
              refine lv_lload_n hx hb d_Md_clear_83 rfl (lv_at hl 3 rfl) ?_
              refine lv_lsub hx hb d_Md_clear_84 ?_
              refine hb_last hx hb hK hP hD hS g25 (vp_in_nI (by omega) (by omega)) d_Md_clear_85 (fun M42 H locs eM43 hP hD hS => ?_)
              rw [nI_clamp (show j < 2 ^ 31 by omega)] at eM43
              have f44 : M42 b5 = some (.inl (cJ, 60, .inr (.inl (vp_updL he j ((he j) - am))))) := by rw [eM43]; exact hb_up_self
              have f45 : M42 y = some (.inr (4, [.int 0, .int ho, .int pa, .int tm, .int (nI na), .ref b0, .ref b1, .int (nI np), .ref b2, .ref b3, .ref b4, .ref b5, .ref b6, .ref b7, .ref b8, .ref b9, .ref b10, .ref b11])) := by rw [eM43, hb_up_ne (fun q9 => by rw [q9, g25] at fy19; cases fy19)]; exact fy19
              have f46 : M42 b0 = some (.inl (cJ, 16, .inr (.inl bal))) := by rw [eM43, hb_up_ne (hap.ne 0 5 (by decide) rfl rfl)]; exact g20
              have f47 : M42 b1 = some (.inl (cJ, 16, .inr (.inl mi))) := by rw [eM43, hb_up_ne (hap.ne 1 5 (by decide) rfl rfl)]; exact g21
              have f48 : M42 b2 = some (.inl (cI, 60, .inl ky)) := by rw [eM43, hb_up_ne (hap.ne 2 5 (by decide) rfl rfl)]; exact g22
              have f49 : M42 b3 = some (.inl (cI, 60, .inl ac)) := by rw [eM43, hb_up_ne (hap.ne 3 5 (by decide) rfl rfl)]; exact g23
              have f50 : M42 b4 = some (.inl (cI, 60, .inl st)) := by rw [eM43, hb_up_ne (hap.ne 4 5 (by decide) rfl rfl)]; exact g24
              have f51 : M42 b6 = some (.inl (cJ, 60, .inr (.inl cl))) := by rw [eM43, hb_up_ne (hap.ne 6 5 (by decide) rfl rfl)]; exact g26
              have f52 : M42 b7 = some (.inl (cI, 60, .inl un)) := by rw [eM43, hb_up_ne (hap.ne 7 5 (by decide) rfl rfl)]; exact g27
              have f53 : M42 b8 = some (.inl (cI, 60, .inl dn)) := by rw [eM43, hb_up_ne (hap.ne 8 5 (by decide) rfl rfl)]; exact g28
              have f54 : M42 b9 = some (.inl (cI, 60, .inl ds)) := by rw [eM43, hb_up_ne (hap.ne 9 5 (by decide) rfl rfl)]; exact g29
              have f55 : M42 b10 = some (.inl (cJ, 60, .inr (.inl dd))) := by rw [eM43, hb_up_ne (hap.ne 10 5 (by decide) rfl rfl)]; exact g30
              have f56 : M42 b11 = some (.inl (cI, 60, .inl dl)) := by rw [eM43, hb_up_ne (hap.ne 11 5 (by decide) rfl rfl)]; exact g31
              refine lv_aload_n hx hb d_Md_clear_86 rfl (lv_at hl 1 rfl) ?_
              refine hb_get hx hb hts hown hC_Md hK hP f45 12 (by decide) rfl fl_Md_29 rfl d_Md_clear_87 ?_
              refine lv_iload hx hb d_Md_clear_90 (lv_at hl 0 rfl) ?_
              refine lv_dup2_11 hx hb d_Md_clear_92 rfl rfl ?_
              refine va_lald hx hb hK (hP.one f51) 0 1 rfl rfl (vp_in_nI (by omega) (by omega)) d_Md_clear_93 ?_
              refine W.eq (g2 := F0 m 94 ls [.long (cl j), .int (nI j), .ref b6]) (by rw [nI_clamp (show j < 2 ^ 31 by omega)]) ?_
              refine lv_lload_n hx hb d_Md_clear_94 rfl (lv_at hl 3 rfl) ?_
              refine lv_ladd hx hb d_Md_clear_95 ?_
              refine hb_last hx hb hK hP hD hS f51 (vp_in_nI (by omega) (by omega)) d_Md_clear_96 (fun M57 H locs eM58 hP hD hS => ?_)
              rw [nI_clamp (show j < 2 ^ 31 by omega)] at eM58
              have f59 : M57 b6 = some (.inl (cJ, 60, .inr (.inl (vp_updL cl j ((cl j) + am))))) := by rw [eM58]; exact hb_up_self
              have f60 : M57 b5 = some (.inl (cJ, 60, .inr (.inl (vp_updL he j ((he j) - am))))) := by rw [eM58, hb_up_ne (hap.ne 5 6 (by decide) rfl rfl)]; exact f44
              have f61 : M57 y = some (.inr (4, [.int 0, .int ho, .int pa, .int tm, .int (nI na), .ref b0, .ref b1, .int (nI np), .ref b2, .ref b3, .ref b4, .ref b5, .ref b6, .ref b7, .ref b8, .ref b9, .ref b10, .ref b11])) := by rw [eM58, hb_up_ne (fun q9 => by rw [q9, f51] at f45; cases f45)]; exact f45
              have f62 : M57 b0 = some (.inl (cJ, 16, .inr (.inl bal))) := by rw [eM58, hb_up_ne (hap.ne 0 6 (by decide) rfl rfl)]; exact f46
              have f63 : M57 b1 = some (.inl (cJ, 16, .inr (.inl mi))) := by rw [eM58, hb_up_ne (hap.ne 1 6 (by decide) rfl rfl)]; exact f47
              have f64 : M57 b2 = some (.inl (cI, 60, .inl ky)) := by rw [eM58, hb_up_ne (hap.ne 2 6 (by decide) rfl rfl)]; exact f48
              have f65 : M57 b3 = some (.inl (cI, 60, .inl ac)) := by rw [eM58, hb_up_ne (hap.ne 3 6 (by decide) rfl rfl)]; exact f49
              have f66 : M57 b4 = some (.inl (cI, 60, .inl st)) := by rw [eM58, hb_up_ne (hap.ne 4 6 (by decide) rfl rfl)]; exact f50
              have f67 : M57 b7 = some (.inl (cI, 60, .inl un)) := by rw [eM58, hb_up_ne (hap.ne 7 6 (by decide) rfl rfl)]; exact f52
              have f68 : M57 b8 = some (.inl (cI, 60, .inl dn)) := by rw [eM58, hb_up_ne (hap.ne 8 6 (by decide) rfl rfl)]; exact f53
              have f69 : M57 b9 = some (.inl (cI, 60, .inl ds)) := by rw [eM58, hb_up_ne (hap.ne 9 6 (by decide) rfl rfl)]; exact f54
              have f70 : M57 b10 = some (.inl (cJ, 60, .inr (.inl dd))) := by rw [eM58, hb_up_ne (hap.ne 10 6 (by decide) rfl rfl)]; exact f55
              have f71 : M57 b11 = some (.inl (cI, 60, .inl dl)) := by rw [eM58, hb_up_ne (hap.ne 11 6 (by decide) rfl rfl)]; exact f56
              refine lv_aload_n hx hb d_Md_clear_97 rfl (lv_at hl 1 rfl) ?_
              refine hb_get hx hb hts hown hC_Md hK hP f61 5 (by decide) rfl fl_Md_7 rfl d_Md_clear_98 ?_
              refine lv_aload_n hx hb d_Md_clear_101 rfl (lv_at hl 1 rfl) ?_
              refine hb_get hx hb hts hown hC_Md hK hP f61 9 (by decide) rfl fl_Md_20 rfl d_Md_clear_102 ?_
              refine lv_iload hx hb d_Md_clear_105 (lv_at hl 0 rfl) ?_
              refine va_iald hx hb hK (hP.one f65) 0 0 rfl rfl (vp_in_nI (by omega) (by omega)) d_Md_clear_107 ?_
              refine W.eq (g2 := F0 m 108 ls [.int (ac j), .ref b0]) (by rw [nI_clamp (show j < 2 ^ 31 by omega)]) ?_
              refine W.eq (g2 := F0 m 108 ls [.int (nI ka), .ref b0]) (by rw [hac]) ?_
              refine lv_dup2_11 hx hb d_Md_clear_108 rfl rfl ?_
              refine va_lald hx hb hK (hP.one f62) 0 1 rfl rfl (vp_in_nI (by omega) (by omega)) d_Md_clear_109 ?_
              refine W.eq (g2 := F0 m 110 ls [.long (bal ka), .int (nI ka), .ref b0]) (by rw [nI_clamp (show ka < 2 ^ 31 by omega)]) ?_
              refine lv_lload_n hx hb d_Md_clear_110 rfl (lv_at hl 3 rfl) ?_
              refine lv_lsub hx hb d_Md_clear_111 ?_
              refine hb_last hx hb hK hP hD hS f62 (vp_in_nI (by omega) (by omega)) d_Md_clear_112 (fun M72 H locs eM73 hP hD hS => ?_)
              rw [nI_clamp (show ka < 2 ^ 31 by omega)] at eM73
              have f74 : M72 b0 = some (.inl (cJ, 16, .inr (.inl (vp_updL bal ka ((bal ka) - am))))) := by rw [eM73]; exact hb_up_self
              have f75 : M72 b6 = some (.inl (cJ, 60, .inr (.inl (vp_updL cl j ((cl j) + am))))) := by rw [eM73, hb_up_ne (hap.ne 6 0 (by decide) rfl rfl)]; exact f59
              have f76 : M72 b5 = some (.inl (cJ, 60, .inr (.inl (vp_updL he j ((he j) - am))))) := by rw [eM73, hb_up_ne (hap.ne 5 0 (by decide) rfl rfl)]; exact f60
              have f77 : M72 y = some (.inr (4, [.int 0, .int ho, .int pa, .int tm, .int (nI na), .ref b0, .ref b1, .int (nI np), .ref b2, .ref b3, .ref b4, .ref b5, .ref b6, .ref b7, .ref b8, .ref b9, .ref b10, .ref b11])) := by rw [eM73, hb_up_ne (fun q9 => by rw [q9, f62] at f61; cases f61)]; exact f61
              have f78 : M72 b1 = some (.inl (cJ, 16, .inr (.inl mi))) := by rw [eM73, hb_up_ne (hap.ne 1 0 (by decide) rfl rfl)]; exact f63
              have f79 : M72 b2 = some (.inl (cI, 60, .inl ky)) := by rw [eM73, hb_up_ne (hap.ne 2 0 (by decide) rfl rfl)]; exact f64
              have f80 : M72 b3 = some (.inl (cI, 60, .inl ac)) := by rw [eM73, hb_up_ne (hap.ne 3 0 (by decide) rfl rfl)]; exact f65
              have f81 : M72 b4 = some (.inl (cI, 60, .inl st)) := by rw [eM73, hb_up_ne (hap.ne 4 0 (by decide) rfl rfl)]; exact f66
              have f82 : M72 b7 = some (.inl (cI, 60, .inl un)) := by rw [eM73, hb_up_ne (hap.ne 7 0 (by decide) rfl rfl)]; exact f67
              have f83 : M72 b8 = some (.inl (cI, 60, .inl dn)) := by rw [eM73, hb_up_ne (hap.ne 8 0 (by decide) rfl rfl)]; exact f68
              have f84 : M72 b9 = some (.inl (cI, 60, .inl ds)) := by rw [eM73, hb_up_ne (hap.ne 9 0 (by decide) rfl rfl)]; exact f69
              have f85 : M72 b10 = some (.inl (cJ, 60, .inr (.inl dd))) := by rw [eM73, hb_up_ne (hap.ne 10 0 (by decide) rfl rfl)]; exact f70
              have f86 : M72 b11 = some (.inl (cI, 60, .inl dl)) := by rw [eM73, hb_up_ne (hap.ne 11 0 (by decide) rfl rfl)]; exact f71
              refine lv_iload hx hb d_Md_clear_113 (lv_at hl 4 rfl) ?_
              refine lv_if_eq (tgt := 130) hx hb d_Md_clear_115 (by decide) (fun c87 => ?_) (fun c87 => ?_)
              · skip
                exact absurd c87 hmo
              · skip
                refine lv_aload_n hx hb d_Md_clear_118 rfl (lv_at hl 1 rfl) ?_
                refine hb_get hx hb hts hown hC_Md hK hP f77 11 (by decide) rfl fl_Md_26 rfl d_Md_clear_119 ?_
                refine lv_iload hx hb d_Md_clear_122 (lv_at hl 0 rfl) ?_
                refine va_lald hx hb hK (hP.one f76) 0 1 rfl rfl (vp_in_nI (by omega) (by omega)) d_Md_clear_124 ?_
                refine W.eq (g2 := F0 m 125 ls [.long ((he j) - am)]) (by rw [nI_clamp (show j < 2 ^ 31 by omega), hb_ul]) ?_
                refine lv_lconst (v := 0) hx hb d_Md_clear_125 (by decide) ?_
                refine hb_lc_ne (tgt := 136) hx hb d_Md_clear_126 d_Md_clear_127 (by decide) (fun c88 => ?_) (fun c88 => ?_)
                · skip
                  refine lv_aload_n hx hb d_Md_clear_136 rfl (lv_at hl 1 rfl) ?_
                  refine hb_get hx hb hts hown hC_Md hK hP f77 11 (by decide) rfl fl_Md_26 rfl d_Md_clear_137 ?_
                  refine lv_iload hx hb d_Md_clear_140 (lv_at hl 0 rfl) ?_
                  refine va_lald hx hb hK (hP.one f76) 0 1 rfl rfl (vp_in_nI (by omega) (by omega)) d_Md_clear_142 ?_
                  refine W.eq (g2 := F0 m 143 ls [.long ((he j) - am)]) (by rw [nI_clamp (show j < 2 ^ 31 by omega), hb_ul]) ?_
                  exact hb_lret hAe hx hb hr hlocks hP hD hS (Nat.le_of_ble_eq_true rfl) (Nat.le_of_ble_eq_true rfl) (⟨rfl, ⟨f77, f74, f78, f79, f80, f81, f76, f75, f82, f83, f84, f85, f86, hap⟩⟩) d_Md_clear_143
                · skip
                  exact absurd c88 hle
            · skip
              have c41n := hb_gt c41
              exact absurd c41n hmu
          · skip
            exact absurd hs c40
        · skip
          have c39n := hb_gti c39
          exact absurd c39n (nI_pos (by omega))
      · skip
        exfalso; revert c32; decide
set_option maxHeartbeats 4000000 in
set_option maxRecDepth 100000 in
/-- clear: end -/
theorem c_Md_clear_end {l : Launch} {s0 : State} {D : va_G} {cI cJ cO : ClassId} {e0 mi : Nat} (hE : hb_E l s0 D cI cJ cO e0 mi) (M : hb_M) (y b0 b1 b2 b3 b4 b5 b6 b7 b8 b9 b10 b11 : Nat) (cd ho pa tm : Int32) (na np : Nat) (bal mi : Nat → Int64) (ky ac st : Nat → Int32) (he cl : Nat → Int64) (un dn ds : Nat → Int32) (dd : Nat → Int64) (dl : Nat → Int32) (h : mR cI cJ M y b0 b1 b2 b3 b4 b5 b6 b7 b8 b9 b10 b11 cd ho pa tm na np bal mi ky ac st he cl un dn ds dd dl) (hna : na ≤ 16) (hnp : np ≤ 60) (k : Int32) (j : Nat) (hj : j < np) (hpl : hb_plc ky k np = nI j) (hkk : ¬ (k < 0 ∨ 1000000 < k)) (am : Int64) (hm : ¬ (am < 1 ∨ 1000000000000 < am)) (mo : Int32) (hs : st j = 1) (hmu : ¬ he j < am) (hfi : mo = 0 ∨ he j - am = 0) (ka : Nat) (hka : ka < 16) (hac : ac j = nI ka) : hb_Met l D hb_cl s0 y_Md_clear b_Md_clear 6 (some .long) { frames := 3, cells := 0, slots := 0, locals := 100 } [.ref y, .int k, .long am, .int mo] M (fun v M1 => v = some (.long 0) ∧ mR cI cJ M1 y b0 b1 b2 b3 b4 b5 b6 b7 b8 b9 b10 b11 0 ho pa tm na np (vp_updL bal ka (bal ka - am)) mi ky ac (upd st j (if 0 < (vp_updL cl j (cl j + am)) j then 3 else 2)) (vp_updL (vp_updL he j (he j - am)) j 0) (vp_updL cl j (cl j + am)) (upd un j 0) (upd dn j (if 0 < (vp_updL cl j (cl j + am)) j then tm else -1)) ds dd dl) := by
  refine hb_Met.of (by decide) (Nat.le_of_ble_eq_true rfl) ?_
  intro p e s m below meth c A hAe hX hz hP hD hA hS ls hl
  obtain ⟨hx, hb, hr, hml, hown, hlocks, hnm, hG, hnh⟩ := id hX
  have hown : s.vm.findClass "HoldBookModel" = some m.cls := hown
  have hts := hE.ts hG ([.ref y, .int k, .long am, .int mo] : List Value).toArray
  have hK := hE.kn hG
  have hl : lv_has ls 6 [(0, .ref y), (1, .int k), (2, .long am), (4, .int mo)] := hl
  obtain ⟨fy, g0, g1, g2, g3, g4, g5, g6, g7, g8, g9, g10, g11, hap⟩ := id h
  refine lv_aload_n hx hb d_Md_clear_0 rfl (lv_at hl 0 rfl) ?_
  refine lv_iload_n hx hb d_Md_clear_1 rfl (lv_at hl 1 rfl) ?_
  refine hb_callS (rest := [.ref y]) hX hts hb_gd Y_Md_isKey (c_Md_isKey hE M k) ml_Md_75 st_Md_isKey hz hP hD hS hA rfl hl.1 rfl (Nat.le_of_ble_eq_true rfl) ⟨Nat.le_of_ble_eq_true rfl, Nat.le_of_ble_eq_true rfl⟩ ⟨Nat.le_of_ble_eq_true rfl, Nat.le_of_ble_eq_true rfl⟩ d_Md_clear_2 (fun v3 M1 H locs hq2 hP hD hS _ hkp => ?_)
  obtain ⟨ev4, eM5⟩ := hq2
  rw [if_neg hkk] at ev4
  subst ev4
  rw [eM5] at hP hD
  refine W.eq (g2 := F0 m 5 ls [.int 1, .ref y]) rfl ?_
  refine lv_if_eq (tgt := 19) hx hb d_Md_clear_5 (by decide) (fun c6 => ?_) (fun c6 => ?_)
  · skip
    exfalso; revert c6; decide
  · skip
    refine lv_lload_n hx hb d_Md_clear_8 rfl (lv_at hl 2 rfl) ?_
    refine hb_callS (rest := [.ref y]) hX hts hb_gd Y_Md_isAmount (c_Md_isAmount hE M am) ml_Md_79 st_Md_isAmount hz hP hD hS hA rfl hl.1 rfl (Nat.le_of_ble_eq_true rfl) ⟨Nat.le_of_ble_eq_true rfl, Nat.le_of_ble_eq_true rfl⟩ ⟨Nat.le_of_ble_eq_true rfl, Nat.le_of_ble_eq_true rfl⟩ d_Md_clear_9 (fun v9 M7 H locs hq8 hP hD hS _ hkp => ?_)
    obtain ⟨ev10, eM11⟩ := hq8
    rw [if_neg hm] at ev10
    subst ev10
    rw [eM11] at hP hD
    refine W.eq (g2 := F0 m 12 ls [.int 1, .ref y]) rfl ?_
    refine lv_if_eq (tgt := 19) hx hb d_Md_clear_12 (by decide) (fun c12 => ?_) (fun c12 => ?_)
    · skip
      exfalso; revert c12; decide
    · skip
      refine lv_iconst (v := 1) hx hb d_Md_clear_15 (by decide) ?_
      refine lv_goto (tgt := 20) hx hb d_Md_clear_16 (by decide) ?_
      have hm13 : mR cI cJ M y b0 b1 b2 b3 b4 b5 b6 b7 b8 b9 b10 b11 cd ho pa tm na np bal mi ky ac st he cl un dn ds dd dl := ⟨fy, g0, g1, g2, g3, g4, g5, g6, g7, g8, g9, g10, g11, hap⟩
      refine hb_callV (rest := []) hX hts hb_gd Y_Md_goes (c_Md_goes hE M y b0 b1 b2 b3 b4 b5 b6 b7 b8 b9 b10 b11 cd ho pa tm na np bal mi ky ac st he cl un dn ds dd dl hm13 (by omega) (by omega) 1 (by decide)) ml_Md_83 im_Md_goes se_Md_goes hK fy hC_Md.1 hz hP hD hS hA rfl hl.1 rfl (Nat.le_of_ble_eq_true rfl) ⟨Nat.le_of_ble_eq_true rfl, Nat.le_of_ble_eq_true rfl⟩ ⟨Nat.le_of_ble_eq_true rfl, Nat.le_of_ble_eq_true rfl⟩ d_Md_clear_20 (fun v16 M14 H locs hq15 hP hD hS _ hkp => ?_)
      obtain ⟨ev17, h18⟩ := hq15
      subst ev17
      rw [if_neg (by decide : ¬ (1 : Int32) = 0)] at h18
      obtain ⟨fy19, g20, g21, g22, g23, g24, g25, g26, g27, g28, g29, g30, g31, -⟩ := id h18
      refine W.eq (g2 := F0 m 23 ls [.int 1]) rfl ?_
      refine lv_if_ne (tgt := 28) hx hb d_Md_clear_23 (by decide) (fun c32 => ?_) (fun c32 => ?_)
      · skip
        refine lv_aload_n hx hb d_Md_clear_28 rfl (lv_at hl 0 rfl) ?_
        refine lv_iload_n hx hb d_Md_clear_29 rfl (lv_at hl 1 rfl) ?_
        have hm33 : mR cI cJ M14 y b0 b1 b2 b3 b4 b5 b6 b7 b8 b9 b10 b11 0 ho pa tm na np bal mi ky ac st he cl un dn ds dd dl := ⟨fy19, g20, g21, g22, g23, g24, g25, g26, g27, g28, g29, g30, g31, hap⟩
        refine hb_callV (rest := []) hX hts hb_gd Y_Md_place (c_Md_place hE M14 y b0 b1 b2 b3 b4 b5 b6 b7 b8 b9 b10 b11 0 ho pa tm na np bal mi ky ac st he cl un dn ds dd dl hm33 (by omega) (by omega) k) ml_Md_87 im_Md_place se_Md_place hK fy19 hC_Md.1 hz hP hD hS hA rfl hl.1 rfl (Nat.le_of_ble_eq_true rfl) ⟨Nat.le_of_ble_eq_true rfl, Nat.le_of_ble_eq_true rfl⟩ ⟨Nat.le_of_ble_eq_true rfl, Nat.le_of_ble_eq_true rfl⟩ d_Md_clear_30 (fun v36 M34 H locs hq35 hP hD hS _ hkp => ?_)
        obtain ⟨ev37, eM38⟩ := hq35
        subst ev37
        rw [eM38] at hP hD
        refine W.eq (g2 := F0 m 33 ls [.int (hb_plc ky k np)]) rfl ?_
        refine W.eq (g2 := F0 m 33 ls [.int (nI j)]) (by rw [hpl]) ?_
        refine lv_istore (lv' := [(5, .int (nI j)), (0, .ref y), (1, .int k), (2, .long am), (4, .int mo)]) hx hb d_Md_clear_33 hl (by decide) rfl (fun ls hl => ?_)
        refine lv_iload hx hb d_Md_clear_35 (lv_at hl 0 rfl) ?_
        refine lv_if_ge (tgt := 44) hx hb d_Md_clear_37 (by decide) (fun c39 => ?_) (fun c39 => ?_)
        · skip
          have c39n := hb_ngti c39
          refine lv_aload_n hx hb d_Md_clear_44 rfl (lv_at hl 1 rfl) ?_
          refine hb_get hx hb hts hown hC_Md hK hP fy19 10 (by decide) rfl fl_Md_23 rfl d_Md_clear_45 ?_
          refine lv_iload hx hb d_Md_clear_48 (lv_at hl 0 rfl) ?_
          refine va_iald hx hb hK (hP.one g24) 0 0 rfl rfl (vp_in_nI (by omega) (by omega)) d_Md_clear_50 ?_
          refine W.eq (g2 := F0 m 51 ls [.int (st j)]) (by rw [nI_clamp (show j < 2 ^ 31 by omega)]) ?_
          refine lv_iconst (v := 1) hx hb d_Md_clear_51 (by decide) ?_
          refine lv_icmp_eq (tgt := 59) hx hb d_Md_clear_52 (by decide) (fun c40 => ?_) (fun c40 => ?_)
          · skip
            refine lv_lload_n hx hb d_Md_clear_59 rfl (lv_at hl 3 rfl) ?_
            refine lv_aload_n hx hb d_Md_clear_60 rfl (lv_at hl 1 rfl) ?_
            refine hb_get hx hb hts hown hC_Md hK hP fy19 11 (by decide) rfl fl_Md_26 rfl d_Md_clear_61 ?_
            refine lv_iload hx hb d_Md_clear_64 (lv_at hl 0 rfl) ?_
            refine va_lald hx hb hK (hP.one g25) 0 1 rfl rfl (vp_in_nI (by omega) (by omega)) d_Md_clear_66 ?_
            refine W.eq (g2 := F0 m 67 ls [.long (he j), .long am]) (by rw [nI_clamp (show j < 2 ^ 31 by omega)]) ?_
            refine hb_lc_le (tgt := 75) hx hb d_Md_clear_67 d_Md_clear_68 (by decide) (fun c41 => ?_) (fun c41 => ?_)
            · skip
              have c41n := hb_ngt c41
              refine lv_aload_n hx hb d_Md_clear_75 rfl (lv_at hl 1 rfl) ?_
              refine hb_get hx hb hts hown hC_Md hK hP fy19 11 (by decide) rfl fl_Md_26 rfl d_Md_clear_76 ?_
              refine lv_iload hx hb d_Md_clear_79 (lv_at hl 0 rfl) ?_
              refine lv_dup2_11 hx hb d_Md_clear_81 rfl rfl ?_
              refine va_lald hx hb hK (hP.one g25) 0 1 rfl rfl (vp_in_nI (by omega) (by omega)) d_Md_clear_82 ?_
              refine W.eq (g2 := F0 m 83 ls [.long (he j), .int (nI j), .ref b5]) (by rw [nI_clamp (show j < 2 ^ 31 by omega)]) ?_
              refine lv_lload_n hx hb d_Md_clear_83 rfl (lv_at hl 3 rfl) ?_
              refine lv_lsub hx hb d_Md_clear_84 ?_
              refine hb_last hx hb hK hP hD hS g25 (vp_in_nI (by omega) (by omega)) d_Md_clear_85 (fun M42 H locs eM43 hP hD hS => ?_)
              rw [nI_clamp (show j < 2 ^ 31 by omega)] at eM43
              have f44 : M42 b5 = some (.inl (cJ, 60, .inr (.inl (vp_updL he j ((he j) - am))))) := by rw [eM43]; exact hb_up_self
              have f45 : M42 y = some (.inr (4, [.int 0, .int ho, .int pa, .int tm, .int (nI na), .ref b0, .ref b1, .int (nI np), .ref b2, .ref b3, .ref b4, .ref b5, .ref b6, .ref b7, .ref b8, .ref b9, .ref b10, .ref b11])) := by rw [eM43, hb_up_ne (fun q9 => by rw [q9, g25] at fy19; cases fy19)]; exact fy19
              have f46 : M42 b0 = some (.inl (cJ, 16, .inr (.inl bal))) := by rw [eM43, hb_up_ne (hap.ne 0 5 (by decide) rfl rfl)]; exact g20
              have f47 : M42 b1 = some (.inl (cJ, 16, .inr (.inl mi))) := by rw [eM43, hb_up_ne (hap.ne 1 5 (by decide) rfl rfl)]; exact g21
              have f48 : M42 b2 = some (.inl (cI, 60, .inl ky)) := by rw [eM43, hb_up_ne (hap.ne 2 5 (by decide) rfl rfl)]; exact g22
              have f49 : M42 b3 = some (.inl (cI, 60, .inl ac)) := by rw [eM43, hb_up_ne (hap.ne 3 5 (by decide) rfl rfl)]; exact g23
              have f50 : M42 b4 = some (.inl (cI, 60, .inl st)) := by rw [eM43, hb_up_ne (hap.ne 4 5 (by decide) rfl rfl)]; exact g24
              have f51 : M42 b6 = some (.inl (cJ, 60, .inr (.inl cl))) := by rw [eM43, hb_up_ne (hap.ne 6 5 (by decide) rfl rfl)]; exact g26
              have f52 : M42 b7 = some (.inl (cI, 60, .inl un)) := by rw [eM43, hb_up_ne (hap.ne 7 5 (by decide) rfl rfl)]; exact g27
              have f53 : M42 b8 = some (.inl (cI, 60, .inl dn)) := by rw [eM43, hb_up_ne (hap.ne 8 5 (by decide) rfl rfl)]; exact g28
              have f54 : M42 b9 = some (.inl (cI, 60, .inl ds)) := by rw [eM43, hb_up_ne (hap.ne 9 5 (by decide) rfl rfl)]; exact g29
              have f55 : M42 b10 = some (.inl (cJ, 60, .inr (.inl dd))) := by rw [eM43, hb_up_ne (hap.ne 10 5 (by decide) rfl rfl)]; exact g30
              have f56 : M42 b11 = some (.inl (cI, 60, .inl dl)) := by rw [eM43, hb_up_ne (hap.ne 11 5 (by decide) rfl rfl)]; exact g31
              refine lv_aload_n hx hb d_Md_clear_86 rfl (lv_at hl 1 rfl) ?_
              refine hb_get hx hb hts hown hC_Md hK hP f45 12 (by decide) rfl fl_Md_29 rfl d_Md_clear_87 ?_
              refine lv_iload hx hb d_Md_clear_90 (lv_at hl 0 rfl) ?_
              refine lv_dup2_11 hx hb d_Md_clear_92 rfl rfl ?_
              refine va_lald hx hb hK (hP.one f51) 0 1 rfl rfl (vp_in_nI (by omega) (by omega)) d_Md_clear_93 ?_
              refine W.eq (g2 := F0 m 94 ls [.long (cl j), .int (nI j), .ref b6]) (by rw [nI_clamp (show j < 2 ^ 31 by omega)]) ?_
              refine lv_lload_n hx hb d_Md_clear_94 rfl (lv_at hl 3 rfl) ?_
              refine lv_ladd hx hb d_Md_clear_95 ?_
              refine hb_last hx hb hK hP hD hS f51 (vp_in_nI (by omega) (by omega)) d_Md_clear_96 (fun M57 H locs eM58 hP hD hS => ?_)
              rw [nI_clamp (show j < 2 ^ 31 by omega)] at eM58
              have f59 : M57 b6 = some (.inl (cJ, 60, .inr (.inl (vp_updL cl j ((cl j) + am))))) := by rw [eM58]; exact hb_up_self
              have f60 : M57 b5 = some (.inl (cJ, 60, .inr (.inl (vp_updL he j ((he j) - am))))) := by rw [eM58, hb_up_ne (hap.ne 5 6 (by decide) rfl rfl)]; exact f44
              have f61 : M57 y = some (.inr (4, [.int 0, .int ho, .int pa, .int tm, .int (nI na), .ref b0, .ref b1, .int (nI np), .ref b2, .ref b3, .ref b4, .ref b5, .ref b6, .ref b7, .ref b8, .ref b9, .ref b10, .ref b11])) := by rw [eM58, hb_up_ne (fun q9 => by rw [q9, f51] at f45; cases f45)]; exact f45
              have f62 : M57 b0 = some (.inl (cJ, 16, .inr (.inl bal))) := by rw [eM58, hb_up_ne (hap.ne 0 6 (by decide) rfl rfl)]; exact f46
              have f63 : M57 b1 = some (.inl (cJ, 16, .inr (.inl mi))) := by rw [eM58, hb_up_ne (hap.ne 1 6 (by decide) rfl rfl)]; exact f47
              have f64 : M57 b2 = some (.inl (cI, 60, .inl ky)) := by rw [eM58, hb_up_ne (hap.ne 2 6 (by decide) rfl rfl)]; exact f48
              have f65 : M57 b3 = some (.inl (cI, 60, .inl ac)) := by rw [eM58, hb_up_ne (hap.ne 3 6 (by decide) rfl rfl)]; exact f49
              have f66 : M57 b4 = some (.inl (cI, 60, .inl st)) := by rw [eM58, hb_up_ne (hap.ne 4 6 (by decide) rfl rfl)]; exact f50
              have f67 : M57 b7 = some (.inl (cI, 60, .inl un)) := by rw [eM58, hb_up_ne (hap.ne 7 6 (by decide) rfl rfl)]; exact f52
              have f68 : M57 b8 = some (.inl (cI, 60, .inl dn)) := by rw [eM58, hb_up_ne (hap.ne 8 6 (by decide) rfl rfl)]; exact f53
              have f69 : M57 b9 = some (.inl (cI, 60, .inl ds)) := by rw [eM58, hb_up_ne (hap.ne 9 6 (by decide) rfl rfl)]; exact f54
              have f70 : M57 b10 = some (.inl (cJ, 60, .inr (.inl dd))) := by rw [eM58, hb_up_ne (hap.ne 10 6 (by decide) rfl rfl)]; exact f55
              have f71 : M57 b11 = some (.inl (cI, 60, .inl dl)) := by rw [eM58, hb_up_ne (hap.ne 11 6 (by decide) rfl rfl)]; exact f56
              refine lv_aload_n hx hb d_Md_clear_97 rfl (lv_at hl 1 rfl) ?_
              refine hb_get hx hb hts hown hC_Md hK hP f61 5 (by decide) rfl fl_Md_7 rfl d_Md_clear_98 ?_
              refine lv_aload_n hx hb d_Md_clear_101 rfl (lv_at hl 1 rfl) ?_
              refine hb_get hx hb hts hown hC_Md hK hP f61 9 (by decide) rfl fl_Md_20 rfl d_Md_clear_102 ?_
              refine lv_iload hx hb d_Md_clear_105 (lv_at hl 0 rfl) ?_
              refine va_iald hx hb hK (hP.one f65) 0 0 rfl rfl (vp_in_nI (by omega) (by omega)) d_Md_clear_107 ?_
              refine W.eq (g2 := F0 m 108 ls [.int (ac j), .ref b0]) (by rw [nI_clamp (show j < 2 ^ 31 by omega)]) ?_
              refine W.eq (g2 := F0 m 108 ls [.int (nI ka), .ref b0]) (by rw [hac]) ?_
              refine lv_dup2_11 hx hb d_Md_clear_108 rfl rfl ?_
              refine va_lald hx hb hK (hP.one f62) 0 1 rfl rfl (vp_in_nI (by omega) (by omega)) d_Md_clear_109 ?_
              refine W.eq (g2 := F0 m 110 ls [.long (bal ka), .int (nI ka), .ref b0]) (by rw [nI_clamp (show ka < 2 ^ 31 by omega)]) ?_
              refine lv_lload_n hx hb d_Md_clear_110 rfl (lv_at hl 3 rfl) ?_
              refine lv_lsub hx hb d_Md_clear_111 ?_
              refine hb_last hx hb hK hP hD hS f62 (vp_in_nI (by omega) (by omega)) d_Md_clear_112 (fun M72 H locs eM73 hP hD hS => ?_)
              rw [nI_clamp (show ka < 2 ^ 31 by omega)] at eM73
              have f74 : M72 b0 = some (.inl (cJ, 16, .inr (.inl (vp_updL bal ka ((bal ka) - am))))) := by rw [eM73]; exact hb_up_self
              have f75 : M72 b6 = some (.inl (cJ, 60, .inr (.inl (vp_updL cl j ((cl j) + am))))) := by rw [eM73, hb_up_ne (hap.ne 6 0 (by decide) rfl rfl)]; exact f59
              have f76 : M72 b5 = some (.inl (cJ, 60, .inr (.inl (vp_updL he j ((he j) - am))))) := by rw [eM73, hb_up_ne (hap.ne 5 0 (by decide) rfl rfl)]; exact f60
              have f77 : M72 y = some (.inr (4, [.int 0, .int ho, .int pa, .int tm, .int (nI na), .ref b0, .ref b1, .int (nI np), .ref b2, .ref b3, .ref b4, .ref b5, .ref b6, .ref b7, .ref b8, .ref b9, .ref b10, .ref b11])) := by rw [eM73, hb_up_ne (fun q9 => by rw [q9, f62] at f61; cases f61)]; exact f61
              have f78 : M72 b1 = some (.inl (cJ, 16, .inr (.inl mi))) := by rw [eM73, hb_up_ne (hap.ne 1 0 (by decide) rfl rfl)]; exact f63
              have f79 : M72 b2 = some (.inl (cI, 60, .inl ky)) := by rw [eM73, hb_up_ne (hap.ne 2 0 (by decide) rfl rfl)]; exact f64
              have f80 : M72 b3 = some (.inl (cI, 60, .inl ac)) := by rw [eM73, hb_up_ne (hap.ne 3 0 (by decide) rfl rfl)]; exact f65
              have f81 : M72 b4 = some (.inl (cI, 60, .inl st)) := by rw [eM73, hb_up_ne (hap.ne 4 0 (by decide) rfl rfl)]; exact f66
              have f82 : M72 b7 = some (.inl (cI, 60, .inl un)) := by rw [eM73, hb_up_ne (hap.ne 7 0 (by decide) rfl rfl)]; exact f67
              have f83 : M72 b8 = some (.inl (cI, 60, .inl dn)) := by rw [eM73, hb_up_ne (hap.ne 8 0 (by decide) rfl rfl)]; exact f68
              have f84 : M72 b9 = some (.inl (cI, 60, .inl ds)) := by rw [eM73, hb_up_ne (hap.ne 9 0 (by decide) rfl rfl)]; exact f69
              have f85 : M72 b10 = some (.inl (cJ, 60, .inr (.inl dd))) := by rw [eM73, hb_up_ne (hap.ne 10 0 (by decide) rfl rfl)]; exact f70
              have f86 : M72 b11 = some (.inl (cI, 60, .inl dl)) := by rw [eM73, hb_up_ne (hap.ne 11 0 (by decide) rfl rfl)]; exact f71
              refine lv_iload hx hb d_Md_clear_113 (lv_at hl 4 rfl) ?_
              refine lv_if_eq (tgt := 130) hx hb d_Md_clear_115 (by decide) (fun c87 => ?_) (fun c87 => ?_)
              · skip
                refine lv_aload_n hx hb d_Md_clear_130 rfl (lv_at hl 1 rfl) ?_
                refine lv_iload hx hb d_Md_clear_131 (lv_at hl 0 rfl) ?_
                have hm88 : mR cI cJ M72 y b0 b1 b2 b3 b4 b5 b6 b7 b8 b9 b10 b11 0 ho pa tm na np (vp_updL bal ka ((bal ka) - am)) mi ky ac st (vp_updL he j ((he j) - am)) (vp_updL cl j ((cl j) + am)) un dn ds dd dl := ⟨f77, f74, f78, f79, f80, f81, f76, f75, f82, f83, f84, f85, f86, hap⟩
                refine hb_callV (rest := []) hX hts hb_gd Y_Md_ends (c_Md_ends hE M72 y b0 b1 b2 b3 b4 b5 b6 b7 b8 b9 b10 b11 0 ho pa tm na np (vp_updL bal ka ((bal ka) - am)) mi ky ac st (vp_updL he j ((he j) - am)) (vp_updL cl j ((cl j) + am)) un dn ds dd dl hm88 (by omega) (by omega) j (by omega)) ml_Md_113 im_Md_ends se_Md_ends hK f77 hC_Md.1 hz hP hD hS hA rfl hl.1 rfl (Nat.le_of_ble_eq_true rfl) ⟨Nat.le_of_ble_eq_true rfl, Nat.le_of_ble_eq_true rfl⟩ ⟨Nat.le_of_ble_eq_true rfl, Nat.le_of_ble_eq_true rfl⟩ d_Md_clear_133 (fun v91 M89 H locs hq90 hP hD hS _ hkp => ?_)
                obtain ⟨ev93, h92⟩ := hq90
                subst ev93
                obtain ⟨fy94, g95, g96, g97, g98, g99, g100, g101, g102, g103, g104, g105, g106, -⟩ := id h92
                refine W.eq (g2 := F0 m 136 ls []) rfl ?_
                refine lv_aload_n hx hb d_Md_clear_136 rfl (lv_at hl 1 rfl) ?_
                refine hb_get hx hb hts hown hC_Md hK hP fy94 11 (by decide) rfl fl_Md_26 rfl d_Md_clear_137 ?_
                refine lv_iload hx hb d_Md_clear_140 (lv_at hl 0 rfl) ?_
                refine va_lald hx hb hK (hP.one g100) 0 1 rfl rfl (vp_in_nI (by omega) (by omega)) d_Md_clear_142 ?_
                refine W.eq (g2 := F0 m 143 ls [.long 0]) (by rw [nI_clamp (show j < 2 ^ 31 by omega), hb_ul]) ?_
                exact hb_lret hAe hx hb hr hlocks hP hD hS (Nat.le_of_ble_eq_true rfl) (Nat.le_of_ble_eq_true rfl) (⟨rfl, ⟨fy94, g95, g96, g97, g98, g99, g100, g101, g102, g103, g104, g105, g106, hap⟩⟩) d_Md_clear_143
              · skip
                refine lv_aload_n hx hb d_Md_clear_118 rfl (lv_at hl 1 rfl) ?_
                refine hb_get hx hb hts hown hC_Md hK hP f77 11 (by decide) rfl fl_Md_26 rfl d_Md_clear_119 ?_
                refine lv_iload hx hb d_Md_clear_122 (lv_at hl 0 rfl) ?_
                refine va_lald hx hb hK (hP.one f76) 0 1 rfl rfl (vp_in_nI (by omega) (by omega)) d_Md_clear_124 ?_
                refine W.eq (g2 := F0 m 125 ls [.long ((he j) - am)]) (by rw [nI_clamp (show j < 2 ^ 31 by omega), hb_ul]) ?_
                refine lv_lconst (v := 0) hx hb d_Md_clear_125 (by decide) ?_
                refine hb_lc_ne (tgt := 136) hx hb d_Md_clear_126 d_Md_clear_127 (by decide) (fun c107 => ?_) (fun c107 => ?_)
                · skip
                  exact absurd hfi (by intro z; rcases z with z | z; exact absurd z (by assumption); exact absurd z c107)
                · skip
                  refine lv_aload_n hx hb d_Md_clear_130 rfl (lv_at hl 1 rfl) ?_
                  refine lv_iload hx hb d_Md_clear_131 (lv_at hl 0 rfl) ?_
                  have hm108 : mR cI cJ M72 y b0 b1 b2 b3 b4 b5 b6 b7 b8 b9 b10 b11 0 ho pa tm na np (vp_updL bal ka ((bal ka) - am)) mi ky ac st (vp_updL he j ((he j) - am)) (vp_updL cl j ((cl j) + am)) un dn ds dd dl := ⟨f77, f74, f78, f79, f80, f81, f76, f75, f82, f83, f84, f85, f86, hap⟩
                  refine hb_callV (rest := []) hX hts hb_gd Y_Md_ends (c_Md_ends hE M72 y b0 b1 b2 b3 b4 b5 b6 b7 b8 b9 b10 b11 0 ho pa tm na np (vp_updL bal ka ((bal ka) - am)) mi ky ac st (vp_updL he j ((he j) - am)) (vp_updL cl j ((cl j) + am)) un dn ds dd dl hm108 (by omega) (by omega) j (by omega)) ml_Md_113 im_Md_ends se_Md_ends hK f77 hC_Md.1 hz hP hD hS hA rfl hl.1 rfl (Nat.le_of_ble_eq_true rfl) ⟨Nat.le_of_ble_eq_true rfl, Nat.le_of_ble_eq_true rfl⟩ ⟨Nat.le_of_ble_eq_true rfl, Nat.le_of_ble_eq_true rfl⟩ d_Md_clear_133 (fun v111 M109 H locs hq110 hP hD hS _ hkp => ?_)
                  obtain ⟨ev113, h112⟩ := hq110
                  subst ev113
                  obtain ⟨fy114, g115, g116, g117, g118, g119, g120, g121, g122, g123, g124, g125, g126, -⟩ := id h112
                  refine W.eq (g2 := F0 m 136 ls []) rfl ?_
                  refine lv_aload_n hx hb d_Md_clear_136 rfl (lv_at hl 1 rfl) ?_
                  refine hb_get hx hb hts hown hC_Md hK hP fy114 11 (by decide) rfl fl_Md_26 rfl d_Md_clear_137 ?_
                  refine lv_iload hx hb d_Md_clear_140 (lv_at hl 0 rfl) ?_
                  refine va_lald hx hb hK (hP.one g120) 0 1 rfl rfl (vp_in_nI (by omega) (by omega)) d_Md_clear_142 ?_
                  refine W.eq (g2 := F0 m 143 ls [.long 0]) (by rw [nI_clamp (show j < 2 ^ 31 by omega), hb_ul]) ?_
                  exact hb_lret hAe hx hb hr hlocks hP hD hS (Nat.le_of_ble_eq_true rfl) (Nat.le_of_ble_eq_true rfl) (⟨rfl, ⟨fy114, g115, g116, g117, g118, g119, g120, g121, g122, g123, g124, g125, g126, hap⟩⟩) d_Md_clear_143
            · skip
              have c41n := hb_gt c41
              exact absurd c41n hmu
          · skip
            exact absurd hs c40
        · skip
          have c39n := hb_gti c39
          exact absurd c39n (nI_pos (by omega))
      · skip
        exfalso; revert c32; decide
set_option maxHeartbeats 4000000 in
set_option maxRecDepth 100000 in
/-- undo: no -/
theorem c_Md_undo_no {l : Launch} {s0 : State} {D : va_G} {cI cJ cO : ClassId} {e0 mi : Nat} (hE : hb_E l s0 D cI cJ cO e0 mi) (M : hb_M) (y b0 b1 b2 b3 b4 b5 b6 b7 b8 b9 b10 b11 : Nat) (cd ho pa tm : Int32) (na np : Nat) (bal mi : Nat → Int64) (ky ac st : Nat → Int32) (he cl : Nat → Int64) (un dn ds : Nat → Int32) (dd : Nat → Int64) (dl : Nat → Int32) (h : mR cI cJ M y b0 b1 b2 b3 b4 b5 b6 b7 b8 b9 b10 b11 cd ho pa tm na np bal mi ky ac st he cl un dn ds dd dl) (hna : na ≤ 16) (hnp : np ≤ 60) (k : Int32) (hpl : hb_plc ky k np = -1) (hkk : ¬ (k < 0 ∨ 1000000 < k)) (le : Int64) (hl0 : ¬ le < 0) (to : Int32) (hto : to = 0 ∨ 60 ≤ np) : hb_Met l D hb_cl s0 y_Md_undo b_Md_undo 6 (some .long) { frames := 3, cells := 0, slots := 0, locals := 100 } [.ref y, .int k, .long le, .int to] M (fun v M1 => v = some (.long (-6)) ∧ mR cI cJ M1 y b0 b1 b2 b3 b4 b5 b6 b7 b8 b9 b10 b11 0 ho pa tm na np bal mi ky ac st he cl un dn ds dd dl) := by
  refine hb_Met.of (by decide) (Nat.le_of_ble_eq_true rfl) ?_
  intro p e s m below meth c A hAe hX hz hP hD hA hS ls hl
  obtain ⟨hx, hb, hr, hml, hown, hlocks, hnm, hG, hnh⟩ := id hX
  have hown : s.vm.findClass "HoldBookModel" = some m.cls := hown
  have hts := hE.ts hG ([.ref y, .int k, .long le, .int to] : List Value).toArray
  have hK := hE.kn hG
  have hl : lv_has ls 6 [(0, .ref y), (1, .int k), (2, .long le), (4, .int to)] := hl
  obtain ⟨fy, g0, g1, g2, g3, g4, g5, g6, g7, g8, g9, g10, g11, hap⟩ := id h
  refine lv_aload_n hx hb d_Md_undo_0 rfl (lv_at hl 0 rfl) ?_
  refine lv_iload_n hx hb d_Md_undo_1 rfl (lv_at hl 1 rfl) ?_
  refine hb_callS (rest := [.ref y]) hX hts hb_gd Y_Md_isKey (c_Md_isKey hE M k) ml_Md_75 st_Md_isKey hz hP hD hS hA rfl hl.1 rfl (Nat.le_of_ble_eq_true rfl) ⟨Nat.le_of_ble_eq_true rfl, Nat.le_of_ble_eq_true rfl⟩ ⟨Nat.le_of_ble_eq_true rfl, Nat.le_of_ble_eq_true rfl⟩ d_Md_undo_2 (fun v3 M1 H locs hq2 hP hD hS _ hkp => ?_)
  obtain ⟨ev4, eM5⟩ := hq2
  rw [if_neg hkk] at ev4
  subst ev4
  rw [eM5] at hP hD
  refine W.eq (g2 := F0 m 5 ls [.int 1, .ref y]) rfl ?_
  refine lv_if_eq (tgt := 18) hx hb d_Md_undo_5 (by decide) (fun c6 => ?_) (fun c6 => ?_)
  · skip
    exfalso; revert c6; decide
  · skip
    refine lv_lload_n hx hb d_Md_undo_8 rfl (lv_at hl 2 rfl) ?_
    refine lv_lconst (v := 0) hx hb d_Md_undo_9 (by decide) ?_
    refine hb_lc_lt (tgt := 18) hx hb d_Md_undo_10 d_Md_undo_11 (by decide) (fun c7 => ?_) (fun c7 => ?_)
    · skip
      exact absurd c7 hl0
    · skip
      refine lv_iconst (v := 1) hx hb d_Md_undo_14 (by decide) ?_
      refine lv_goto (tgt := 19) hx hb d_Md_undo_15 (by decide) ?_
      have hm8 : mR cI cJ M y b0 b1 b2 b3 b4 b5 b6 b7 b8 b9 b10 b11 cd ho pa tm na np bal mi ky ac st he cl un dn ds dd dl := ⟨fy, g0, g1, g2, g3, g4, g5, g6, g7, g8, g9, g10, g11, hap⟩
      refine hb_callV (rest := []) hX hts hb_gd Y_Md_goes (c_Md_goes hE M y b0 b1 b2 b3 b4 b5 b6 b7 b8 b9 b10 b11 cd ho pa tm na np bal mi ky ac st he cl un dn ds dd dl hm8 (by omega) (by omega) 1 (by decide)) ml_Md_83 im_Md_goes se_Md_goes hK fy hC_Md.1 hz hP hD hS hA rfl hl.1 rfl (Nat.le_of_ble_eq_true rfl) ⟨Nat.le_of_ble_eq_true rfl, Nat.le_of_ble_eq_true rfl⟩ ⟨Nat.le_of_ble_eq_true rfl, Nat.le_of_ble_eq_true rfl⟩ d_Md_undo_19 (fun v11 M9 H locs hq10 hP hD hS _ hkp => ?_)
      obtain ⟨ev12, h13⟩ := hq10
      subst ev12
      rw [if_neg (by decide : ¬ (1 : Int32) = 0)] at h13
      obtain ⟨fy14, g15, g16, g17, g18, g19, g20, g21, g22, g23, g24, g25, g26, -⟩ := id h13
      refine W.eq (g2 := F0 m 22 ls [.int 1]) rfl ?_
      refine lv_if_ne (tgt := 27) hx hb d_Md_undo_22 (by decide) (fun c27 => ?_) (fun c27 => ?_)
      · skip
        refine lv_aload_n hx hb d_Md_undo_27 rfl (lv_at hl 0 rfl) ?_
        refine lv_iload_n hx hb d_Md_undo_28 rfl (lv_at hl 1 rfl) ?_
        have hm28 : mR cI cJ M9 y b0 b1 b2 b3 b4 b5 b6 b7 b8 b9 b10 b11 0 ho pa tm na np bal mi ky ac st he cl un dn ds dd dl := ⟨fy14, g15, g16, g17, g18, g19, g20, g21, g22, g23, g24, g25, g26, hap⟩
        refine hb_callV (rest := []) hX hts hb_gd Y_Md_place (c_Md_place hE M9 y b0 b1 b2 b3 b4 b5 b6 b7 b8 b9 b10 b11 0 ho pa tm na np bal mi ky ac st he cl un dn ds dd dl hm28 (by omega) (by omega) k) ml_Md_87 im_Md_place se_Md_place hK fy14 hC_Md.1 hz hP hD hS hA rfl hl.1 rfl (Nat.le_of_ble_eq_true rfl) ⟨Nat.le_of_ble_eq_true rfl, Nat.le_of_ble_eq_true rfl⟩ ⟨Nat.le_of_ble_eq_true rfl, Nat.le_of_ble_eq_true rfl⟩ d_Md_undo_29 (fun v31 M29 H locs hq30 hP hD hS _ hkp => ?_)
        obtain ⟨ev32, eM33⟩ := hq30
        subst ev32
        rw [eM33] at hP hD
        refine W.eq (g2 := F0 m 32 ls [.int (hb_plc ky k np)]) rfl ?_
        refine W.eq (g2 := F0 m 32 ls [.int (-1)]) (by rw [hpl]) ?_
        refine lv_istore (lv' := [(5, .int (-1)), (0, .ref y), (1, .int k), (2, .long le), (4, .int to)]) hx hb d_Md_undo_32 hl (by decide) rfl (fun ls hl => ?_)
        refine lv_iload hx hb d_Md_undo_34 (lv_at hl 0 rfl) ?_
        refine lv_if_ge (tgt := 65) hx hb d_Md_undo_36 (by decide) (fun c34 => ?_) (fun c34 => ?_)
        · skip
          have c34n := hb_ngti c34
          exfalso; revert c34; decide
        · skip
          have c34n := hb_gti c34
          refine lv_iload hx hb d_Md_undo_39 (lv_at hl 4 rfl) ?_
          refine lv_if_eq (tgt := 61) hx hb d_Md_undo_41 (by decide) (fun c35 => ?_) (fun c35 => ?_)
          · skip
            refine lv_ldc2 (v := (-6)) hx hb hown (hts _ kc_Md_107) d_Md_undo_61 ?_
            exact hb_lret hAe hx hb hr hlocks hP hD hS (Nat.le_of_ble_eq_true rfl) (Nat.le_of_ble_eq_true rfl) (⟨rfl, ⟨fy14, g15, g16, g17, g18, g19, g20, g21, g22, g23, g24, g25, g26, hap⟩⟩) d_Md_undo_64
          · skip
            refine lv_aload_n hx hb d_Md_undo_44 rfl (lv_at hl 1 rfl) ?_
            refine hb_get hx hb hts hown hC_Md hK hP fy14 7 (by decide) rfl fl_Md_60 rfl d_Md_undo_45 ?_
            refine lv_bipush (v := 60) hx hb d_Md_undo_48 (by decide) ?_
            refine lv_icmp_ge (tgt := 61) hx hb d_Md_undo_50 (by decide) (fun c36 => ?_) (fun c36 => ?_)
            · skip
              have c36n := hb_ngti c36
              refine lv_ldc2 (v := (-6)) hx hb hown (hts _ kc_Md_107) d_Md_undo_61 ?_
              exact hb_lret hAe hx hb hr hlocks hP hD hS (Nat.le_of_ble_eq_true rfl) (Nat.le_of_ble_eq_true rfl) (⟨rfl, ⟨fy14, g15, g16, g17, g18, g19, g20, g21, g22, g23, g24, g25, g26, hap⟩⟩) d_Md_undo_64
            · skip
              have c36n := hb_gti c36
              exact absurd hto (by intro z; rcases z with z | z; exact absurd z (by assumption); exact c36 (nI_le (a := 60) z (by omega)))
      · skip
        exfalso; revert c27; decide
set_option maxHeartbeats 4000000 in
set_option maxRecDepth 100000 in
/-- undo: tomb -/
theorem c_Md_undo_tomb {l : Launch} {s0 : State} {D : va_G} {cI cJ cO : ClassId} {e0 mi : Nat} (hE : hb_E l s0 D cI cJ cO e0 mi) (M : hb_M) (y b0 b1 b2 b3 b4 b5 b6 b7 b8 b9 b10 b11 : Nat) (cd ho pa tm : Int32) (na np : Nat) (bal mi : Nat → Int64) (ky ac st : Nat → Int32) (he cl : Nat → Int64) (un dn ds : Nat → Int32) (dd : Nat → Int64) (dl : Nat → Int32) (h : mR cI cJ M y b0 b1 b2 b3 b4 b5 b6 b7 b8 b9 b10 b11 cd ho pa tm na np bal mi ky ac st he cl un dn ds dd dl) (hna : na ≤ 16) (hnp : np ≤ 60) (k : Int32) (hpl : hb_plc ky k np = -1) (hkk : ¬ (k < 0 ∨ 1000000 < k)) (le : Int64) (hl0 : ¬ le < 0) (to : Int32) (hto : to ≠ 0) (hl9 : np < 60) : hb_Met l D hb_cl s0 y_Md_undo b_Md_undo 6 (some .long) { frames := 3, cells := 0, slots := 0, locals := 100 } [.ref y, .int k, .long le, .int to] M (fun v M1 => v = some (.long (-6)) ∧ mR cI cJ M1 y b0 b1 b2 b3 b4 b5 b6 b7 b8 b9 b10 b11 0 ho pa tm na (np + 1) bal mi (upd ky np k) (upd ac np (-1)) (upd st np 2) (vp_updL he np 0) (vp_updL cl np 0) (upd un np 0) (upd dn np (-1)) (upd ds np 0) (vp_updL dd np 0) (upd dl np (-1))) := by
  refine hb_Met.of (by decide) (Nat.le_of_ble_eq_true rfl) ?_
  intro p e s m below meth c A hAe hX hz hP hD hA hS ls hl
  obtain ⟨hx, hb, hr, hml, hown, hlocks, hnm, hG, hnh⟩ := id hX
  have hown : s.vm.findClass "HoldBookModel" = some m.cls := hown
  have hts := hE.ts hG ([.ref y, .int k, .long le, .int to] : List Value).toArray
  have hK := hE.kn hG
  have hl : lv_has ls 6 [(0, .ref y), (1, .int k), (2, .long le), (4, .int to)] := hl
  obtain ⟨fy, g0, g1, g2, g3, g4, g5, g6, g7, g8, g9, g10, g11, hap⟩ := id h
  refine lv_aload_n hx hb d_Md_undo_0 rfl (lv_at hl 0 rfl) ?_
  refine lv_iload_n hx hb d_Md_undo_1 rfl (lv_at hl 1 rfl) ?_
  refine hb_callS (rest := [.ref y]) hX hts hb_gd Y_Md_isKey (c_Md_isKey hE M k) ml_Md_75 st_Md_isKey hz hP hD hS hA rfl hl.1 rfl (Nat.le_of_ble_eq_true rfl) ⟨Nat.le_of_ble_eq_true rfl, Nat.le_of_ble_eq_true rfl⟩ ⟨Nat.le_of_ble_eq_true rfl, Nat.le_of_ble_eq_true rfl⟩ d_Md_undo_2 (fun v3 M1 H locs hq2 hP hD hS _ hkp => ?_)
  obtain ⟨ev4, eM5⟩ := hq2
  rw [if_neg hkk] at ev4
  subst ev4
  rw [eM5] at hP hD
  refine W.eq (g2 := F0 m 5 ls [.int 1, .ref y]) rfl ?_
  refine lv_if_eq (tgt := 18) hx hb d_Md_undo_5 (by decide) (fun c6 => ?_) (fun c6 => ?_)
  · skip
    exfalso; revert c6; decide
  · skip
    refine lv_lload_n hx hb d_Md_undo_8 rfl (lv_at hl 2 rfl) ?_
    refine lv_lconst (v := 0) hx hb d_Md_undo_9 (by decide) ?_
    refine hb_lc_lt (tgt := 18) hx hb d_Md_undo_10 d_Md_undo_11 (by decide) (fun c7 => ?_) (fun c7 => ?_)
    · skip
      exact absurd c7 hl0
    · skip
      refine lv_iconst (v := 1) hx hb d_Md_undo_14 (by decide) ?_
      refine lv_goto (tgt := 19) hx hb d_Md_undo_15 (by decide) ?_
      have hm8 : mR cI cJ M y b0 b1 b2 b3 b4 b5 b6 b7 b8 b9 b10 b11 cd ho pa tm na np bal mi ky ac st he cl un dn ds dd dl := ⟨fy, g0, g1, g2, g3, g4, g5, g6, g7, g8, g9, g10, g11, hap⟩
      refine hb_callV (rest := []) hX hts hb_gd Y_Md_goes (c_Md_goes hE M y b0 b1 b2 b3 b4 b5 b6 b7 b8 b9 b10 b11 cd ho pa tm na np bal mi ky ac st he cl un dn ds dd dl hm8 (by omega) (by omega) 1 (by decide)) ml_Md_83 im_Md_goes se_Md_goes hK fy hC_Md.1 hz hP hD hS hA rfl hl.1 rfl (Nat.le_of_ble_eq_true rfl) ⟨Nat.le_of_ble_eq_true rfl, Nat.le_of_ble_eq_true rfl⟩ ⟨Nat.le_of_ble_eq_true rfl, Nat.le_of_ble_eq_true rfl⟩ d_Md_undo_19 (fun v11 M9 H locs hq10 hP hD hS _ hkp => ?_)
      obtain ⟨ev12, h13⟩ := hq10
      subst ev12
      rw [if_neg (by decide : ¬ (1 : Int32) = 0)] at h13
      obtain ⟨fy14, g15, g16, g17, g18, g19, g20, g21, g22, g23, g24, g25, g26, -⟩ := id h13
      refine W.eq (g2 := F0 m 22 ls [.int 1]) rfl ?_
      refine lv_if_ne (tgt := 27) hx hb d_Md_undo_22 (by decide) (fun c27 => ?_) (fun c27 => ?_)
      · skip
        refine lv_aload_n hx hb d_Md_undo_27 rfl (lv_at hl 0 rfl) ?_
        refine lv_iload_n hx hb d_Md_undo_28 rfl (lv_at hl 1 rfl) ?_
        have hm28 : mR cI cJ M9 y b0 b1 b2 b3 b4 b5 b6 b7 b8 b9 b10 b11 0 ho pa tm na np bal mi ky ac st he cl un dn ds dd dl := ⟨fy14, g15, g16, g17, g18, g19, g20, g21, g22, g23, g24, g25, g26, hap⟩
        refine hb_callV (rest := []) hX hts hb_gd Y_Md_place (c_Md_place hE M9 y b0 b1 b2 b3 b4 b5 b6 b7 b8 b9 b10 b11 0 ho pa tm na np bal mi ky ac st he cl un dn ds dd dl hm28 (by omega) (by omega) k) ml_Md_87 im_Md_place se_Md_place hK fy14 hC_Md.1 hz hP hD hS hA rfl hl.1 rfl (Nat.le_of_ble_eq_true rfl) ⟨Nat.le_of_ble_eq_true rfl, Nat.le_of_ble_eq_true rfl⟩ ⟨Nat.le_of_ble_eq_true rfl, Nat.le_of_ble_eq_true rfl⟩ d_Md_undo_29 (fun v31 M29 H locs hq30 hP hD hS _ hkp => ?_)
        obtain ⟨ev32, eM33⟩ := hq30
        subst ev32
        rw [eM33] at hP hD
        refine W.eq (g2 := F0 m 32 ls [.int (hb_plc ky k np)]) rfl ?_
        refine W.eq (g2 := F0 m 32 ls [.int (-1)]) (by rw [hpl]) ?_
        refine lv_istore (lv' := [(5, .int (-1)), (0, .ref y), (1, .int k), (2, .long le), (4, .int to)]) hx hb d_Md_undo_32 hl (by decide) rfl (fun ls hl => ?_)
        refine lv_iload hx hb d_Md_undo_34 (lv_at hl 0 rfl) ?_
        refine lv_if_ge (tgt := 65) hx hb d_Md_undo_36 (by decide) (fun c34 => ?_) (fun c34 => ?_)
        · skip
          have c34n := hb_ngti c34
          exfalso; revert c34; decide
        · skip
          have c34n := hb_gti c34
          refine lv_iload hx hb d_Md_undo_39 (lv_at hl 4 rfl) ?_
          refine lv_if_eq (tgt := 61) hx hb d_Md_undo_41 (by decide) (fun c35 => ?_) (fun c35 => ?_)
          · skip
            exact absurd c35 hto
          · skip
            refine lv_aload_n hx hb d_Md_undo_44 rfl (lv_at hl 1 rfl) ?_
            refine hb_get hx hb hts hown hC_Md hK hP fy14 7 (by decide) rfl fl_Md_60 rfl d_Md_undo_45 ?_
            refine lv_bipush (v := 60) hx hb d_Md_undo_48 (by decide) ?_
            refine lv_icmp_ge (tgt := 61) hx hb d_Md_undo_50 (by decide) (fun c36 => ?_) (fun c36 => ?_)
            · skip
              have c36n := hb_ngti c36
              exact absurd c36 (by intro z; have := (nI_leI (a := 60) (by omega) (by omega)).mp z; omega)
            · skip
              have c36n := hb_gti c36
              refine lv_aload_n hx hb d_Md_undo_53 rfl (lv_at hl 1 rfl) ?_
              refine lv_iload_n hx hb d_Md_undo_54 rfl (lv_at hl 2 rfl) ?_
              refine lv_iconst (v := (-1)) hx hb d_Md_undo_55 (by decide) ?_
              have hm37 : mR cI cJ M9 y b0 b1 b2 b3 b4 b5 b6 b7 b8 b9 b10 b11 0 ho pa tm na np bal mi ky ac st he cl un dn ds dd dl := ⟨fy14, g15, g16, g17, g18, g19, g20, g21, g22, g23, g24, g25, g26, hap⟩
              refine hb_callV (rest := []) hX hts hb_gd Y_Md_come (c_Md_come hE M9 y b0 b1 b2 b3 b4 b5 b6 b7 b8 b9 b10 b11 0 ho pa tm na np bal mi ky ac st he cl un dn ds dd dl hm37 (by omega) (by omega) k (-1) hl9) ml_Md_100 im_Md_come se_Md_come hK fy14 hC_Md.1 hz hP hD hS hA rfl hl.1 rfl (Nat.le_of_ble_eq_true rfl) ⟨Nat.le_of_ble_eq_true rfl, Nat.le_of_ble_eq_true rfl⟩ ⟨Nat.le_of_ble_eq_true rfl, Nat.le_of_ble_eq_true rfl⟩ d_Md_undo_56 (fun v40 M38 H locs hq39 hP hD hS _ hkp => ?_)
              obtain ⟨ev42, h41⟩ := hq39
              subst ev42
              obtain ⟨fy43, g44, g45, g46, g47, g48, g49, g50, g51, g52, g53, g54, g55, -⟩ := id h41
              refine W.eq (g2 := F0 m 59 ls [.int (nI np)]) rfl ?_
              refine lv_istore (lv' := [(5, .int (nI np)), (0, .ref y), (1, .int k), (2, .long le), (4, .int to)]) hx hb d_Md_undo_59 hl (by decide) rfl (fun ls hl => ?_)
              refine lv_ldc2 (v := (-6)) hx hb hown (hts _ kc_Md_107) d_Md_undo_61 ?_
              exact hb_lret hAe hx hb hr hlocks hP hD hS (Nat.le_of_ble_eq_true rfl) (Nat.le_of_ble_eq_true rfl) (⟨rfl, ⟨fy43, g44, g45, g46, g47, g48, g49, g50, g51, g52, g53, g54, g55, hap⟩⟩) d_Md_undo_64
      · skip
        exfalso; revert c27; decide
set_option maxHeartbeats 4000000 in
set_option maxRecDepth 100000 in
/-- undo: st -/
theorem c_Md_undo_st {l : Launch} {s0 : State} {D : va_G} {cI cJ cO : ClassId} {e0 mi : Nat} (hE : hb_E l s0 D cI cJ cO e0 mi) (M : hb_M) (y b0 b1 b2 b3 b4 b5 b6 b7 b8 b9 b10 b11 : Nat) (cd ho pa tm : Int32) (na np : Nat) (bal mi : Nat → Int64) (ky ac st : Nat → Int32) (he cl : Nat → Int64) (un dn ds : Nat → Int32) (dd : Nat → Int64) (dl : Nat → Int32) (h : mR cI cJ M y b0 b1 b2 b3 b4 b5 b6 b7 b8 b9 b10 b11 cd ho pa tm na np bal mi ky ac st he cl un dn ds dd dl) (hna : na ≤ 16) (hnp : np ≤ 60) (k : Int32) (j : Nat) (hj : j < np) (hpl : hb_plc ky k np = nI j) (hkk : ¬ (k < 0 ∨ 1000000 < k)) (le : Int64) (hl0 : ¬ le < 0) (to : Int32) (hs : st j = 3 ∨ 0 < cl j) : hb_Met l D hb_cl s0 y_Md_undo b_Md_undo 6 (some .long) { frames := 3, cells := 0, slots := 0, locals := 100 } [.ref y, .int k, .long le, .int to] M (fun v M1 => v = some (.long (-9)) ∧ mR cI cJ M1 y b0 b1 b2 b3 b4 b5 b6 b7 b8 b9 b10 b11 0 ho pa tm na np bal mi ky ac st he cl un dn ds dd dl) := by
  refine hb_Met.of (by decide) (Nat.le_of_ble_eq_true rfl) ?_
  intro p e s m below meth c A hAe hX hz hP hD hA hS ls hl
  obtain ⟨hx, hb, hr, hml, hown, hlocks, hnm, hG, hnh⟩ := id hX
  have hown : s.vm.findClass "HoldBookModel" = some m.cls := hown
  have hts := hE.ts hG ([.ref y, .int k, .long le, .int to] : List Value).toArray
  have hK := hE.kn hG
  have hl : lv_has ls 6 [(0, .ref y), (1, .int k), (2, .long le), (4, .int to)] := hl
  obtain ⟨fy, g0, g1, g2, g3, g4, g5, g6, g7, g8, g9, g10, g11, hap⟩ := id h
  refine lv_aload_n hx hb d_Md_undo_0 rfl (lv_at hl 0 rfl) ?_
  refine lv_iload_n hx hb d_Md_undo_1 rfl (lv_at hl 1 rfl) ?_
  refine hb_callS (rest := [.ref y]) hX hts hb_gd Y_Md_isKey (c_Md_isKey hE M k) ml_Md_75 st_Md_isKey hz hP hD hS hA rfl hl.1 rfl (Nat.le_of_ble_eq_true rfl) ⟨Nat.le_of_ble_eq_true rfl, Nat.le_of_ble_eq_true rfl⟩ ⟨Nat.le_of_ble_eq_true rfl, Nat.le_of_ble_eq_true rfl⟩ d_Md_undo_2 (fun v3 M1 H locs hq2 hP hD hS _ hkp => ?_)
  obtain ⟨ev4, eM5⟩ := hq2
  rw [if_neg hkk] at ev4
  subst ev4
  rw [eM5] at hP hD
  refine W.eq (g2 := F0 m 5 ls [.int 1, .ref y]) rfl ?_
  refine lv_if_eq (tgt := 18) hx hb d_Md_undo_5 (by decide) (fun c6 => ?_) (fun c6 => ?_)
  · skip
    exfalso; revert c6; decide
  · skip
    refine lv_lload_n hx hb d_Md_undo_8 rfl (lv_at hl 2 rfl) ?_
    refine lv_lconst (v := 0) hx hb d_Md_undo_9 (by decide) ?_
    refine hb_lc_lt (tgt := 18) hx hb d_Md_undo_10 d_Md_undo_11 (by decide) (fun c7 => ?_) (fun c7 => ?_)
    · skip
      exact absurd c7 hl0
    · skip
      refine lv_iconst (v := 1) hx hb d_Md_undo_14 (by decide) ?_
      refine lv_goto (tgt := 19) hx hb d_Md_undo_15 (by decide) ?_
      have hm8 : mR cI cJ M y b0 b1 b2 b3 b4 b5 b6 b7 b8 b9 b10 b11 cd ho pa tm na np bal mi ky ac st he cl un dn ds dd dl := ⟨fy, g0, g1, g2, g3, g4, g5, g6, g7, g8, g9, g10, g11, hap⟩
      refine hb_callV (rest := []) hX hts hb_gd Y_Md_goes (c_Md_goes hE M y b0 b1 b2 b3 b4 b5 b6 b7 b8 b9 b10 b11 cd ho pa tm na np bal mi ky ac st he cl un dn ds dd dl hm8 (by omega) (by omega) 1 (by decide)) ml_Md_83 im_Md_goes se_Md_goes hK fy hC_Md.1 hz hP hD hS hA rfl hl.1 rfl (Nat.le_of_ble_eq_true rfl) ⟨Nat.le_of_ble_eq_true rfl, Nat.le_of_ble_eq_true rfl⟩ ⟨Nat.le_of_ble_eq_true rfl, Nat.le_of_ble_eq_true rfl⟩ d_Md_undo_19 (fun v11 M9 H locs hq10 hP hD hS _ hkp => ?_)
      obtain ⟨ev12, h13⟩ := hq10
      subst ev12
      rw [if_neg (by decide : ¬ (1 : Int32) = 0)] at h13
      obtain ⟨fy14, g15, g16, g17, g18, g19, g20, g21, g22, g23, g24, g25, g26, -⟩ := id h13
      refine W.eq (g2 := F0 m 22 ls [.int 1]) rfl ?_
      refine lv_if_ne (tgt := 27) hx hb d_Md_undo_22 (by decide) (fun c27 => ?_) (fun c27 => ?_)
      · skip
        refine lv_aload_n hx hb d_Md_undo_27 rfl (lv_at hl 0 rfl) ?_
        refine lv_iload_n hx hb d_Md_undo_28 rfl (lv_at hl 1 rfl) ?_
        have hm28 : mR cI cJ M9 y b0 b1 b2 b3 b4 b5 b6 b7 b8 b9 b10 b11 0 ho pa tm na np bal mi ky ac st he cl un dn ds dd dl := ⟨fy14, g15, g16, g17, g18, g19, g20, g21, g22, g23, g24, g25, g26, hap⟩
        refine hb_callV (rest := []) hX hts hb_gd Y_Md_place (c_Md_place hE M9 y b0 b1 b2 b3 b4 b5 b6 b7 b8 b9 b10 b11 0 ho pa tm na np bal mi ky ac st he cl un dn ds dd dl hm28 (by omega) (by omega) k) ml_Md_87 im_Md_place se_Md_place hK fy14 hC_Md.1 hz hP hD hS hA rfl hl.1 rfl (Nat.le_of_ble_eq_true rfl) ⟨Nat.le_of_ble_eq_true rfl, Nat.le_of_ble_eq_true rfl⟩ ⟨Nat.le_of_ble_eq_true rfl, Nat.le_of_ble_eq_true rfl⟩ d_Md_undo_29 (fun v31 M29 H locs hq30 hP hD hS _ hkp => ?_)
        obtain ⟨ev32, eM33⟩ := hq30
        subst ev32
        rw [eM33] at hP hD
        refine W.eq (g2 := F0 m 32 ls [.int (hb_plc ky k np)]) rfl ?_
        refine W.eq (g2 := F0 m 32 ls [.int (nI j)]) (by rw [hpl]) ?_
        refine lv_istore (lv' := [(5, .int (nI j)), (0, .ref y), (1, .int k), (2, .long le), (4, .int to)]) hx hb d_Md_undo_32 hl (by decide) rfl (fun ls hl => ?_)
        refine lv_iload hx hb d_Md_undo_34 (lv_at hl 0 rfl) ?_
        refine lv_if_ge (tgt := 65) hx hb d_Md_undo_36 (by decide) (fun c34 => ?_) (fun c34 => ?_)
        · skip
          have c34n := hb_ngti c34
          refine lv_aload_n hx hb d_Md_undo_65 rfl (lv_at hl 1 rfl) ?_
          refine hb_get hx hb hts hown hC_Md hK hP fy14 10 (by decide) rfl fl_Md_23 rfl d_Md_undo_66 ?_
          refine lv_iload hx hb d_Md_undo_69 (lv_at hl 0 rfl) ?_
          refine va_iald hx hb hK (hP.one g19) 0 0 rfl rfl (vp_in_nI (by omega) (by omega)) d_Md_undo_71 ?_
          refine W.eq (g2 := F0 m 72 ls [.int (st j)]) (by rw [nI_clamp (show j < 2 ^ 31 by omega)]) ?_
          refine lv_iconst (v := 3) hx hb d_Md_undo_72 (by decide) ?_
          refine lv_icmp_eq (tgt := 88) hx hb d_Md_undo_73 (by decide) (fun c35 => ?_) (fun c35 => ?_)
          · skip
            refine lv_ldc2 (v := (-9)) hx hb hown (hts _ kc_Md_109) d_Md_undo_88 ?_
            exact hb_lret hAe hx hb hr hlocks hP hD hS (Nat.le_of_ble_eq_true rfl) (Nat.le_of_ble_eq_true rfl) (⟨rfl, ⟨fy14, g15, g16, g17, g18, g19, g20, g21, g22, g23, g24, g25, g26, hap⟩⟩) d_Md_undo_91
          · skip
            refine lv_aload_n hx hb d_Md_undo_76 rfl (lv_at hl 1 rfl) ?_
            refine hb_get hx hb hts hown hC_Md hK hP fy14 12 (by decide) rfl fl_Md_29 rfl d_Md_undo_77 ?_
            refine lv_iload hx hb d_Md_undo_80 (lv_at hl 0 rfl) ?_
            refine va_lald hx hb hK (hP.one g21) 0 1 rfl rfl (vp_in_nI (by omega) (by omega)) d_Md_undo_82 ?_
            refine W.eq (g2 := F0 m 83 ls [.long (cl j)]) (by rw [nI_clamp (show j < 2 ^ 31 by omega)]) ?_
            refine lv_lconst (v := 0) hx hb d_Md_undo_83 (by decide) ?_
            refine hb_lc_le (tgt := 92) hx hb d_Md_undo_84 d_Md_undo_85 (by decide) (fun c36 => ?_) (fun c36 => ?_)
            · skip
              have c36n := hb_ngt c36
              exact absurd hs (by intro z; rcases z with z | z; exact absurd z (by assumption); exact absurd z c36n)
            · skip
              have c36n := hb_gt c36
              refine lv_ldc2 (v := (-9)) hx hb hown (hts _ kc_Md_109) d_Md_undo_88 ?_
              exact hb_lret hAe hx hb hr hlocks hP hD hS (Nat.le_of_ble_eq_true rfl) (Nat.le_of_ble_eq_true rfl) (⟨rfl, ⟨fy14, g15, g16, g17, g18, g19, g20, g21, g22, g23, g24, g25, g26, hap⟩⟩) d_Md_undo_91
        · skip
          have c34n := hb_gti c34
          exact absurd c34n (nI_pos (by omega))
      · skip
        exfalso; revert c27; decide
set_option maxHeartbeats 4000000 in
set_option maxRecDepth 100000 in
/-- undo: rel -/
theorem c_Md_undo_rel {l : Launch} {s0 : State} {D : va_G} {cI cJ cO : ClassId} {e0 mi : Nat} (hE : hb_E l s0 D cI cJ cO e0 mi) (M : hb_M) (y b0 b1 b2 b3 b4 b5 b6 b7 b8 b9 b10 b11 : Nat) (cd ho pa tm : Int32) (na np : Nat) (bal mi : Nat → Int64) (ky ac st : Nat → Int32) (he cl : Nat → Int64) (un dn ds : Nat → Int32) (dd : Nat → Int64) (dl : Nat → Int32) (h : mR cI cJ M y b0 b1 b2 b3 b4 b5 b6 b7 b8 b9 b10 b11 cd ho pa tm na np bal mi ky ac st he cl un dn ds dd dl) (hna : na ≤ 16) (hnp : np ≤ 60) (k : Int32) (j : Nat) (hj : j < np) (hpl : hb_plc ky k np = nI j) (hkk : ¬ (k < 0 ∨ 1000000 < k)) (le : Int64) (hl0 : ¬ le < 0) (to : Int32) (hs : ¬ (st j = 3 ∨ 0 < cl j)) (h1 : st j ≠ 1) : hb_Met l D hb_cl s0 y_Md_undo b_Md_undo 6 (some .long) { frames := 3, cells := 0, slots := 0, locals := 100 } [.ref y, .int k, .long le, .int to] M (fun v M1 => v = some (.long (he j)) ∧ mR cI cJ M1 y b0 b1 b2 b3 b4 b5 b6 b7 b8 b9 b10 b11 0 ho pa tm na np bal mi ky ac st he cl un dn ds dd dl) := by
  refine hb_Met.of (by decide) (Nat.le_of_ble_eq_true rfl) ?_
  intro p e s m below meth c A hAe hX hz hP hD hA hS ls hl
  obtain ⟨hx, hb, hr, hml, hown, hlocks, hnm, hG, hnh⟩ := id hX
  have hown : s.vm.findClass "HoldBookModel" = some m.cls := hown
  have hts := hE.ts hG ([.ref y, .int k, .long le, .int to] : List Value).toArray
  have hK := hE.kn hG
  have hl : lv_has ls 6 [(0, .ref y), (1, .int k), (2, .long le), (4, .int to)] := hl
  obtain ⟨fy, g0, g1, g2, g3, g4, g5, g6, g7, g8, g9, g10, g11, hap⟩ := id h
  refine lv_aload_n hx hb d_Md_undo_0 rfl (lv_at hl 0 rfl) ?_
  refine lv_iload_n hx hb d_Md_undo_1 rfl (lv_at hl 1 rfl) ?_
  refine hb_callS (rest := [.ref y]) hX hts hb_gd Y_Md_isKey (c_Md_isKey hE M k) ml_Md_75 st_Md_isKey hz hP hD hS hA rfl hl.1 rfl (Nat.le_of_ble_eq_true rfl) ⟨Nat.le_of_ble_eq_true rfl, Nat.le_of_ble_eq_true rfl⟩ ⟨Nat.le_of_ble_eq_true rfl, Nat.le_of_ble_eq_true rfl⟩ d_Md_undo_2 (fun v3 M1 H locs hq2 hP hD hS _ hkp => ?_)
  obtain ⟨ev4, eM5⟩ := hq2
  rw [if_neg hkk] at ev4
  subst ev4
  rw [eM5] at hP hD
  refine W.eq (g2 := F0 m 5 ls [.int 1, .ref y]) rfl ?_
  refine lv_if_eq (tgt := 18) hx hb d_Md_undo_5 (by decide) (fun c6 => ?_) (fun c6 => ?_)
  · skip
    exfalso; revert c6; decide
  · skip
    refine lv_lload_n hx hb d_Md_undo_8 rfl (lv_at hl 2 rfl) ?_
    refine lv_lconst (v := 0) hx hb d_Md_undo_9 (by decide) ?_
    refine hb_lc_lt (tgt := 18) hx hb d_Md_undo_10 d_Md_undo_11 (by decide) (fun c7 => ?_) (fun c7 => ?_)
    · skip
      exact absurd c7 hl0
    · skip
      refine lv_iconst (v := 1) hx hb d_Md_undo_14 (by decide) ?_
      refine lv_goto (tgt := 19) hx hb d_Md_undo_15 (by decide) ?_
      have hm8 : mR cI cJ M y b0 b1 b2 b3 b4 b5 b6 b7 b8 b9 b10 b11 cd ho pa tm na np bal mi ky ac st he cl un dn ds dd dl := ⟨fy, g0, g1, g2, g3, g4, g5, g6, g7, g8, g9, g10, g11, hap⟩
      refine hb_callV (rest := []) hX hts hb_gd Y_Md_goes (c_Md_goes hE M y b0 b1 b2 b3 b4 b5 b6 b7 b8 b9 b10 b11 cd ho pa tm na np bal mi ky ac st he cl un dn ds dd dl hm8 (by omega) (by omega) 1 (by decide)) ml_Md_83 im_Md_goes se_Md_goes hK fy hC_Md.1 hz hP hD hS hA rfl hl.1 rfl (Nat.le_of_ble_eq_true rfl) ⟨Nat.le_of_ble_eq_true rfl, Nat.le_of_ble_eq_true rfl⟩ ⟨Nat.le_of_ble_eq_true rfl, Nat.le_of_ble_eq_true rfl⟩ d_Md_undo_19 (fun v11 M9 H locs hq10 hP hD hS _ hkp => ?_)
      obtain ⟨ev12, h13⟩ := hq10
      subst ev12
      rw [if_neg (by decide : ¬ (1 : Int32) = 0)] at h13
      obtain ⟨fy14, g15, g16, g17, g18, g19, g20, g21, g22, g23, g24, g25, g26, -⟩ := id h13
      refine W.eq (g2 := F0 m 22 ls [.int 1]) rfl ?_
      refine lv_if_ne (tgt := 27) hx hb d_Md_undo_22 (by decide) (fun c27 => ?_) (fun c27 => ?_)
      · skip
        refine lv_aload_n hx hb d_Md_undo_27 rfl (lv_at hl 0 rfl) ?_
        refine lv_iload_n hx hb d_Md_undo_28 rfl (lv_at hl 1 rfl) ?_
        have hm28 : mR cI cJ M9 y b0 b1 b2 b3 b4 b5 b6 b7 b8 b9 b10 b11 0 ho pa tm na np bal mi ky ac st he cl un dn ds dd dl := ⟨fy14, g15, g16, g17, g18, g19, g20, g21, g22, g23, g24, g25, g26, hap⟩
        refine hb_callV (rest := []) hX hts hb_gd Y_Md_place (c_Md_place hE M9 y b0 b1 b2 b3 b4 b5 b6 b7 b8 b9 b10 b11 0 ho pa tm na np bal mi ky ac st he cl un dn ds dd dl hm28 (by omega) (by omega) k) ml_Md_87 im_Md_place se_Md_place hK fy14 hC_Md.1 hz hP hD hS hA rfl hl.1 rfl (Nat.le_of_ble_eq_true rfl) ⟨Nat.le_of_ble_eq_true rfl, Nat.le_of_ble_eq_true rfl⟩ ⟨Nat.le_of_ble_eq_true rfl, Nat.le_of_ble_eq_true rfl⟩ d_Md_undo_29 (fun v31 M29 H locs hq30 hP hD hS _ hkp => ?_)
        obtain ⟨ev32, eM33⟩ := hq30
        subst ev32
        rw [eM33] at hP hD
        refine W.eq (g2 := F0 m 32 ls [.int (hb_plc ky k np)]) rfl ?_
        refine W.eq (g2 := F0 m 32 ls [.int (nI j)]) (by rw [hpl]) ?_
        refine lv_istore (lv' := [(5, .int (nI j)), (0, .ref y), (1, .int k), (2, .long le), (4, .int to)]) hx hb d_Md_undo_32 hl (by decide) rfl (fun ls hl => ?_)
        refine lv_iload hx hb d_Md_undo_34 (lv_at hl 0 rfl) ?_
        refine lv_if_ge (tgt := 65) hx hb d_Md_undo_36 (by decide) (fun c34 => ?_) (fun c34 => ?_)
        · skip
          have c34n := hb_ngti c34
          refine lv_aload_n hx hb d_Md_undo_65 rfl (lv_at hl 1 rfl) ?_
          refine hb_get hx hb hts hown hC_Md hK hP fy14 10 (by decide) rfl fl_Md_23 rfl d_Md_undo_66 ?_
          refine lv_iload hx hb d_Md_undo_69 (lv_at hl 0 rfl) ?_
          refine va_iald hx hb hK (hP.one g19) 0 0 rfl rfl (vp_in_nI (by omega) (by omega)) d_Md_undo_71 ?_
          refine W.eq (g2 := F0 m 72 ls [.int (st j)]) (by rw [nI_clamp (show j < 2 ^ 31 by omega)]) ?_
          refine lv_iconst (v := 3) hx hb d_Md_undo_72 (by decide) ?_
          refine lv_icmp_eq (tgt := 88) hx hb d_Md_undo_73 (by decide) (fun c35 => ?_) (fun c35 => ?_)
          · skip
            exact absurd (Or.inl c35) hs
          · skip
            refine lv_aload_n hx hb d_Md_undo_76 rfl (lv_at hl 1 rfl) ?_
            refine hb_get hx hb hts hown hC_Md hK hP fy14 12 (by decide) rfl fl_Md_29 rfl d_Md_undo_77 ?_
            refine lv_iload hx hb d_Md_undo_80 (lv_at hl 0 rfl) ?_
            refine va_lald hx hb hK (hP.one g21) 0 1 rfl rfl (vp_in_nI (by omega) (by omega)) d_Md_undo_82 ?_
            refine W.eq (g2 := F0 m 83 ls [.long (cl j)]) (by rw [nI_clamp (show j < 2 ^ 31 by omega)]) ?_
            refine lv_lconst (v := 0) hx hb d_Md_undo_83 (by decide) ?_
            refine hb_lc_le (tgt := 92) hx hb d_Md_undo_84 d_Md_undo_85 (by decide) (fun c36 => ?_) (fun c36 => ?_)
            · skip
              have c36n := hb_ngt c36
              refine lv_aload_n hx hb d_Md_undo_92 rfl (lv_at hl 1 rfl) ?_
              refine hb_get hx hb hts hown hC_Md hK hP fy14 10 (by decide) rfl fl_Md_23 rfl d_Md_undo_93 ?_
              refine lv_iload hx hb d_Md_undo_96 (lv_at hl 0 rfl) ?_
              refine va_iald hx hb hK (hP.one g19) 0 0 rfl rfl (vp_in_nI (by omega) (by omega)) d_Md_undo_98 ?_
              refine W.eq (g2 := F0 m 99 ls [.int (st j)]) (by rw [nI_clamp (show j < 2 ^ 31 by omega)]) ?_
              refine lv_iconst (v := 1) hx hb d_Md_undo_99 (by decide) ?_
              refine lv_icmp_ne (tgt := 138) hx hb d_Md_undo_100 (by decide) (fun c37 => ?_) (fun c37 => ?_)
              · skip
                refine lv_aload_n hx hb d_Md_undo_138 rfl (lv_at hl 1 rfl) ?_
                refine hb_get hx hb hts hown hC_Md hK hP fy14 11 (by decide) rfl fl_Md_26 rfl d_Md_undo_139 ?_
                refine lv_iload hx hb d_Md_undo_142 (lv_at hl 0 rfl) ?_
                refine va_lald hx hb hK (hP.one g20) 0 1 rfl rfl (vp_in_nI (by omega) (by omega)) d_Md_undo_144 ?_
                refine W.eq (g2 := F0 m 145 ls [.long (he j)]) (by rw [nI_clamp (show j < 2 ^ 31 by omega)]) ?_
                exact hb_lret hAe hx hb hr hlocks hP hD hS (Nat.le_of_ble_eq_true rfl) (Nat.le_of_ble_eq_true rfl) (⟨rfl, ⟨fy14, g15, g16, g17, g18, g19, g20, g21, g22, g23, g24, g25, g26, hap⟩⟩) d_Md_undo_145
              · skip
                exact absurd c37 h1
            · skip
              have c36n := hb_gt c36
              exact absurd (Or.inr c36n) hs
        · skip
          have c34n := hb_gti c34
          exact absurd c34n (nI_pos (by omega))
      · skip
        exfalso; revert c27; decide
set_option maxHeartbeats 4000000 in
set_option maxRecDepth 100000 in
/-- undo: keep -/
theorem c_Md_undo_keep {l : Launch} {s0 : State} {D : va_G} {cI cJ cO : ClassId} {e0 mi : Nat} (hE : hb_E l s0 D cI cJ cO e0 mi) (M : hb_M) (y b0 b1 b2 b3 b4 b5 b6 b7 b8 b9 b10 b11 : Nat) (cd ho pa tm : Int32) (na np : Nat) (bal mi : Nat → Int64) (ky ac st : Nat → Int32) (he cl : Nat → Int64) (un dn ds : Nat → Int32) (dd : Nat → Int64) (dl : Nat → Int32) (h : mR cI cJ M y b0 b1 b2 b3 b4 b5 b6 b7 b8 b9 b10 b11 cd ho pa tm na np bal mi ky ac st he cl un dn ds dd dl) (hna : na ≤ 16) (hnp : np ≤ 60) (k : Int32) (j : Nat) (hj : j < np) (hpl : hb_plc ky k np = nI j) (hkk : ¬ (k < 0 ∨ 1000000 < k)) (le : Int64) (hl0 : ¬ le < 0) (to : Int32) (hs : ¬ (st j = 3 ∨ 0 < cl j)) (h1 : st j = 1) (h2 : 0 < le ∧ le < he j) : hb_Met l D hb_cl s0 y_Md_undo b_Md_undo 6 (some .long) { frames := 3, cells := 0, slots := 0, locals := 100 } [.ref y, .int k, .long le, .int to] M (fun v M1 => v = some (.long le) ∧ mR cI cJ M1 y b0 b1 b2 b3 b4 b5 b6 b7 b8 b9 b10 b11 0 ho pa tm na np bal mi ky ac st (vp_updL he j le) cl un dn ds dd dl) := by
  refine hb_Met.of (by decide) (Nat.le_of_ble_eq_true rfl) ?_
  intro p e s m below meth c A hAe hX hz hP hD hA hS ls hl
  obtain ⟨hx, hb, hr, hml, hown, hlocks, hnm, hG, hnh⟩ := id hX
  have hown : s.vm.findClass "HoldBookModel" = some m.cls := hown
  have hts := hE.ts hG ([.ref y, .int k, .long le, .int to] : List Value).toArray
  have hK := hE.kn hG
  have hl : lv_has ls 6 [(0, .ref y), (1, .int k), (2, .long le), (4, .int to)] := hl
  obtain ⟨fy, g0, g1, g2, g3, g4, g5, g6, g7, g8, g9, g10, g11, hap⟩ := id h
  refine lv_aload_n hx hb d_Md_undo_0 rfl (lv_at hl 0 rfl) ?_
  refine lv_iload_n hx hb d_Md_undo_1 rfl (lv_at hl 1 rfl) ?_
  refine hb_callS (rest := [.ref y]) hX hts hb_gd Y_Md_isKey (c_Md_isKey hE M k) ml_Md_75 st_Md_isKey hz hP hD hS hA rfl hl.1 rfl (Nat.le_of_ble_eq_true rfl) ⟨Nat.le_of_ble_eq_true rfl, Nat.le_of_ble_eq_true rfl⟩ ⟨Nat.le_of_ble_eq_true rfl, Nat.le_of_ble_eq_true rfl⟩ d_Md_undo_2 (fun v3 M1 H locs hq2 hP hD hS _ hkp => ?_)
  obtain ⟨ev4, eM5⟩ := hq2
  rw [if_neg hkk] at ev4
  subst ev4
  rw [eM5] at hP hD
  refine W.eq (g2 := F0 m 5 ls [.int 1, .ref y]) rfl ?_
  refine lv_if_eq (tgt := 18) hx hb d_Md_undo_5 (by decide) (fun c6 => ?_) (fun c6 => ?_)
  · skip
    exfalso; revert c6; decide
  · skip
    refine lv_lload_n hx hb d_Md_undo_8 rfl (lv_at hl 2 rfl) ?_
    refine lv_lconst (v := 0) hx hb d_Md_undo_9 (by decide) ?_
    refine hb_lc_lt (tgt := 18) hx hb d_Md_undo_10 d_Md_undo_11 (by decide) (fun c7 => ?_) (fun c7 => ?_)
    · skip
      exact absurd c7 hl0
    · skip
      refine lv_iconst (v := 1) hx hb d_Md_undo_14 (by decide) ?_
      refine lv_goto (tgt := 19) hx hb d_Md_undo_15 (by decide) ?_
      have hm8 : mR cI cJ M y b0 b1 b2 b3 b4 b5 b6 b7 b8 b9 b10 b11 cd ho pa tm na np bal mi ky ac st he cl un dn ds dd dl := ⟨fy, g0, g1, g2, g3, g4, g5, g6, g7, g8, g9, g10, g11, hap⟩
      refine hb_callV (rest := []) hX hts hb_gd Y_Md_goes (c_Md_goes hE M y b0 b1 b2 b3 b4 b5 b6 b7 b8 b9 b10 b11 cd ho pa tm na np bal mi ky ac st he cl un dn ds dd dl hm8 (by omega) (by omega) 1 (by decide)) ml_Md_83 im_Md_goes se_Md_goes hK fy hC_Md.1 hz hP hD hS hA rfl hl.1 rfl (Nat.le_of_ble_eq_true rfl) ⟨Nat.le_of_ble_eq_true rfl, Nat.le_of_ble_eq_true rfl⟩ ⟨Nat.le_of_ble_eq_true rfl, Nat.le_of_ble_eq_true rfl⟩ d_Md_undo_19 (fun v11 M9 H locs hq10 hP hD hS _ hkp => ?_)
      obtain ⟨ev12, h13⟩ := hq10
      subst ev12
      rw [if_neg (by decide : ¬ (1 : Int32) = 0)] at h13
      obtain ⟨fy14, g15, g16, g17, g18, g19, g20, g21, g22, g23, g24, g25, g26, -⟩ := id h13
      refine W.eq (g2 := F0 m 22 ls [.int 1]) rfl ?_
      refine lv_if_ne (tgt := 27) hx hb d_Md_undo_22 (by decide) (fun c27 => ?_) (fun c27 => ?_)
      · skip
        refine lv_aload_n hx hb d_Md_undo_27 rfl (lv_at hl 0 rfl) ?_
        refine lv_iload_n hx hb d_Md_undo_28 rfl (lv_at hl 1 rfl) ?_
        have hm28 : mR cI cJ M9 y b0 b1 b2 b3 b4 b5 b6 b7 b8 b9 b10 b11 0 ho pa tm na np bal mi ky ac st he cl un dn ds dd dl := ⟨fy14, g15, g16, g17, g18, g19, g20, g21, g22, g23, g24, g25, g26, hap⟩
        refine hb_callV (rest := []) hX hts hb_gd Y_Md_place (c_Md_place hE M9 y b0 b1 b2 b3 b4 b5 b6 b7 b8 b9 b10 b11 0 ho pa tm na np bal mi ky ac st he cl un dn ds dd dl hm28 (by omega) (by omega) k) ml_Md_87 im_Md_place se_Md_place hK fy14 hC_Md.1 hz hP hD hS hA rfl hl.1 rfl (Nat.le_of_ble_eq_true rfl) ⟨Nat.le_of_ble_eq_true rfl, Nat.le_of_ble_eq_true rfl⟩ ⟨Nat.le_of_ble_eq_true rfl, Nat.le_of_ble_eq_true rfl⟩ d_Md_undo_29 (fun v31 M29 H locs hq30 hP hD hS _ hkp => ?_)
        obtain ⟨ev32, eM33⟩ := hq30
        subst ev32
        rw [eM33] at hP hD
        refine W.eq (g2 := F0 m 32 ls [.int (hb_plc ky k np)]) rfl ?_
        refine W.eq (g2 := F0 m 32 ls [.int (nI j)]) (by rw [hpl]) ?_
        refine lv_istore (lv' := [(5, .int (nI j)), (0, .ref y), (1, .int k), (2, .long le), (4, .int to)]) hx hb d_Md_undo_32 hl (by decide) rfl (fun ls hl => ?_)
        refine lv_iload hx hb d_Md_undo_34 (lv_at hl 0 rfl) ?_
        refine lv_if_ge (tgt := 65) hx hb d_Md_undo_36 (by decide) (fun c34 => ?_) (fun c34 => ?_)
        · skip
          have c34n := hb_ngti c34
          refine lv_aload_n hx hb d_Md_undo_65 rfl (lv_at hl 1 rfl) ?_
          refine hb_get hx hb hts hown hC_Md hK hP fy14 10 (by decide) rfl fl_Md_23 rfl d_Md_undo_66 ?_
          refine lv_iload hx hb d_Md_undo_69 (lv_at hl 0 rfl) ?_
          refine va_iald hx hb hK (hP.one g19) 0 0 rfl rfl (vp_in_nI (by omega) (by omega)) d_Md_undo_71 ?_
          refine W.eq (g2 := F0 m 72 ls [.int (st j)]) (by rw [nI_clamp (show j < 2 ^ 31 by omega)]) ?_
          refine lv_iconst (v := 3) hx hb d_Md_undo_72 (by decide) ?_
          refine lv_icmp_eq (tgt := 88) hx hb d_Md_undo_73 (by decide) (fun c35 => ?_) (fun c35 => ?_)
          · skip
            exact absurd (Or.inl c35) hs
          · skip
            refine lv_aload_n hx hb d_Md_undo_76 rfl (lv_at hl 1 rfl) ?_
            refine hb_get hx hb hts hown hC_Md hK hP fy14 12 (by decide) rfl fl_Md_29 rfl d_Md_undo_77 ?_
            refine lv_iload hx hb d_Md_undo_80 (lv_at hl 0 rfl) ?_
            refine va_lald hx hb hK (hP.one g21) 0 1 rfl rfl (vp_in_nI (by omega) (by omega)) d_Md_undo_82 ?_
            refine W.eq (g2 := F0 m 83 ls [.long (cl j)]) (by rw [nI_clamp (show j < 2 ^ 31 by omega)]) ?_
            refine lv_lconst (v := 0) hx hb d_Md_undo_83 (by decide) ?_
            refine hb_lc_le (tgt := 92) hx hb d_Md_undo_84 d_Md_undo_85 (by decide) (fun c36 => ?_) (fun c36 => ?_)
            · skip
              have c36n := hb_ngt c36
              refine lv_aload_n hx hb d_Md_undo_92 rfl (lv_at hl 1 rfl) ?_
              refine hb_get hx hb hts hown hC_Md hK hP fy14 10 (by decide) rfl fl_Md_23 rfl d_Md_undo_93 ?_
              refine lv_iload hx hb d_Md_undo_96 (lv_at hl 0 rfl) ?_
              refine va_iald hx hb hK (hP.one g19) 0 0 rfl rfl (vp_in_nI (by omega) (by omega)) d_Md_undo_98 ?_
              refine W.eq (g2 := F0 m 99 ls [.int (st j)]) (by rw [nI_clamp (show j < 2 ^ 31 by omega)]) ?_
              refine lv_iconst (v := 1) hx hb d_Md_undo_99 (by decide) ?_
              refine lv_icmp_ne (tgt := 138) hx hb d_Md_undo_100 (by decide) (fun c37 => ?_) (fun c37 => ?_)
              · skip
                exact absurd h1 c37
              · skip
                refine lv_lload_n hx hb d_Md_undo_103 rfl (lv_at hl 3 rfl) ?_
                refine lv_lconst (v := 0) hx hb d_Md_undo_104 (by decide) ?_
                refine hb_lc_le (tgt := 132) hx hb d_Md_undo_105 d_Md_undo_106 (by decide) (fun c38 => ?_) (fun c38 => ?_)
                · skip
                  have c38n := hb_ngt c38
                  exact absurd h2.1 c38n
                · skip
                  have c38n := hb_gt c38
                  refine lv_lload_n hx hb d_Md_undo_109 rfl (lv_at hl 3 rfl) ?_
                  refine lv_aload_n hx hb d_Md_undo_110 rfl (lv_at hl 1 rfl) ?_
                  refine hb_get hx hb hts hown hC_Md hK hP fy14 11 (by decide) rfl fl_Md_26 rfl d_Md_undo_111 ?_
                  refine lv_iload hx hb d_Md_undo_114 (lv_at hl 0 rfl) ?_
                  refine va_lald hx hb hK (hP.one g20) 0 1 rfl rfl (vp_in_nI (by omega) (by omega)) d_Md_undo_116 ?_
                  refine W.eq (g2 := F0 m 117 ls [.long (he j), .long le]) (by rw [nI_clamp (show j < 2 ^ 31 by omega)]) ?_
                  refine hb_lc_ge (tgt := 132) hx hb d_Md_undo_117 d_Md_undo_118 (by decide) (fun c39 => ?_) (fun c39 => ?_)
                  · skip
                    have c39n := hb_ngt c39
                    exact absurd h2.2 c39n
                  · skip
                    have c39n := hb_gt c39
                    refine lv_aload_n hx hb d_Md_undo_121 rfl (lv_at hl 1 rfl) ?_
                    refine hb_get hx hb hts hown hC_Md hK hP fy14 11 (by decide) rfl fl_Md_26 rfl d_Md_undo_122 ?_
                    refine lv_iload hx hb d_Md_undo_125 (lv_at hl 0 rfl) ?_
                    refine lv_lload_n hx hb d_Md_undo_127 rfl (lv_at hl 3 rfl) ?_
                    refine hb_last hx hb hK hP hD hS g20 (vp_in_nI (by omega) (by omega)) d_Md_undo_128 (fun M40 H locs eM41 hP hD hS => ?_)
                    rw [nI_clamp (show j < 2 ^ 31 by omega)] at eM41
                    have f42 : M40 b5 = some (.inl (cJ, 60, .inr (.inl (vp_updL he j le)))) := by rw [eM41]; exact hb_up_self
                    have f43 : M40 y = some (.inr (4, [.int 0, .int ho, .int pa, .int tm, .int (nI na), .ref b0, .ref b1, .int (nI np), .ref b2, .ref b3, .ref b4, .ref b5, .ref b6, .ref b7, .ref b8, .ref b9, .ref b10, .ref b11])) := by rw [eM41, hb_up_ne (fun q9 => by rw [q9, g20] at fy14; cases fy14)]; exact fy14
                    have f44 : M40 b0 = some (.inl (cJ, 16, .inr (.inl bal))) := by rw [eM41, hb_up_ne (hap.ne 0 5 (by decide) rfl rfl)]; exact g15
                    have f45 : M40 b1 = some (.inl (cJ, 16, .inr (.inl mi))) := by rw [eM41, hb_up_ne (hap.ne 1 5 (by decide) rfl rfl)]; exact g16
                    have f46 : M40 b2 = some (.inl (cI, 60, .inl ky)) := by rw [eM41, hb_up_ne (hap.ne 2 5 (by decide) rfl rfl)]; exact g17
                    have f47 : M40 b3 = some (.inl (cI, 60, .inl ac)) := by rw [eM41, hb_up_ne (hap.ne 3 5 (by decide) rfl rfl)]; exact g18
                    have f48 : M40 b4 = some (.inl (cI, 60, .inl st)) := by rw [eM41, hb_up_ne (hap.ne 4 5 (by decide) rfl rfl)]; exact g19
                    have f49 : M40 b6 = some (.inl (cJ, 60, .inr (.inl cl))) := by rw [eM41, hb_up_ne (hap.ne 6 5 (by decide) rfl rfl)]; exact g21
                    have f50 : M40 b7 = some (.inl (cI, 60, .inl un)) := by rw [eM41, hb_up_ne (hap.ne 7 5 (by decide) rfl rfl)]; exact g22
                    have f51 : M40 b8 = some (.inl (cI, 60, .inl dn)) := by rw [eM41, hb_up_ne (hap.ne 8 5 (by decide) rfl rfl)]; exact g23
                    have f52 : M40 b9 = some (.inl (cI, 60, .inl ds)) := by rw [eM41, hb_up_ne (hap.ne 9 5 (by decide) rfl rfl)]; exact g24
                    have f53 : M40 b10 = some (.inl (cJ, 60, .inr (.inl dd))) := by rw [eM41, hb_up_ne (hap.ne 10 5 (by decide) rfl rfl)]; exact g25
                    have f54 : M40 b11 = some (.inl (cI, 60, .inl dl)) := by rw [eM41, hb_up_ne (hap.ne 11 5 (by decide) rfl rfl)]; exact g26
                    refine lv_goto (tgt := 138) hx hb d_Md_undo_129 (by decide) ?_
                    refine lv_aload_n hx hb d_Md_undo_138 rfl (lv_at hl 1 rfl) ?_
                    refine hb_get hx hb hts hown hC_Md hK hP f43 11 (by decide) rfl fl_Md_26 rfl d_Md_undo_139 ?_
                    refine lv_iload hx hb d_Md_undo_142 (lv_at hl 0 rfl) ?_
                    refine va_lald hx hb hK (hP.one f42) 0 1 rfl rfl (vp_in_nI (by omega) (by omega)) d_Md_undo_144 ?_
                    refine W.eq (g2 := F0 m 145 ls [.long le]) (by rw [nI_clamp (show j < 2 ^ 31 by omega), hb_ul]) ?_
                    exact hb_lret hAe hx hb hr hlocks hP hD hS (Nat.le_of_ble_eq_true rfl) (Nat.le_of_ble_eq_true rfl) (⟨rfl, ⟨f43, f44, f45, f46, f47, f48, f42, f49, f50, f51, f52, f53, f54, hap⟩⟩) d_Md_undo_145
            · skip
              have c36n := hb_gt c36
              exact absurd (Or.inr c36n) hs
        · skip
          have c34n := hb_gti c34
          exact absurd c34n (nI_pos (by omega))
      · skip
        exfalso; revert c27; decide
set_option maxHeartbeats 4000000 in
set_option maxRecDepth 100000 in
/-- undo: end -/
theorem c_Md_undo_end {l : Launch} {s0 : State} {D : va_G} {cI cJ cO : ClassId} {e0 mi : Nat} (hE : hb_E l s0 D cI cJ cO e0 mi) (M : hb_M) (y b0 b1 b2 b3 b4 b5 b6 b7 b8 b9 b10 b11 : Nat) (cd ho pa tm : Int32) (na np : Nat) (bal mi : Nat → Int64) (ky ac st : Nat → Int32) (he cl : Nat → Int64) (un dn ds : Nat → Int32) (dd : Nat → Int64) (dl : Nat → Int32) (h : mR cI cJ M y b0 b1 b2 b3 b4 b5 b6 b7 b8 b9 b10 b11 cd ho pa tm na np bal mi ky ac st he cl un dn ds dd dl) (hna : na ≤ 16) (hnp : np ≤ 60) (k : Int32) (j : Nat) (hj : j < np) (hpl : hb_plc ky k np = nI j) (hkk : ¬ (k < 0 ∨ 1000000 < k)) (le : Int64) (hl0 : ¬ le < 0) (to : Int32) (hs : ¬ (st j = 3 ∨ 0 < cl j)) (h1 : st j = 1) (h2 : ¬ (0 < le ∧ le < he j)) : hb_Met l D hb_cl s0 y_Md_undo b_Md_undo 6 (some .long) { frames := 3, cells := 0, slots := 0, locals := 100 } [.ref y, .int k, .long le, .int to] M (fun v M1 => v = some (.long 0) ∧ mR cI cJ M1 y b0 b1 b2 b3 b4 b5 b6 b7 b8 b9 b10 b11 0 ho pa tm na np bal mi ky ac (upd st j (if 0 < cl j then 3 else 2)) (vp_updL he j 0) cl (upd un j 0) (upd dn j (if 0 < cl j then tm else -1)) ds dd dl) := by
  refine hb_Met.of (by decide) (Nat.le_of_ble_eq_true rfl) ?_
  intro p e s m below meth c A hAe hX hz hP hD hA hS ls hl
  obtain ⟨hx, hb, hr, hml, hown, hlocks, hnm, hG, hnh⟩ := id hX
  have hown : s.vm.findClass "HoldBookModel" = some m.cls := hown
  have hts := hE.ts hG ([.ref y, .int k, .long le, .int to] : List Value).toArray
  have hK := hE.kn hG
  have hl : lv_has ls 6 [(0, .ref y), (1, .int k), (2, .long le), (4, .int to)] := hl
  obtain ⟨fy, g0, g1, g2, g3, g4, g5, g6, g7, g8, g9, g10, g11, hap⟩ := id h
  refine lv_aload_n hx hb d_Md_undo_0 rfl (lv_at hl 0 rfl) ?_
  refine lv_iload_n hx hb d_Md_undo_1 rfl (lv_at hl 1 rfl) ?_
  refine hb_callS (rest := [.ref y]) hX hts hb_gd Y_Md_isKey (c_Md_isKey hE M k) ml_Md_75 st_Md_isKey hz hP hD hS hA rfl hl.1 rfl (Nat.le_of_ble_eq_true rfl) ⟨Nat.le_of_ble_eq_true rfl, Nat.le_of_ble_eq_true rfl⟩ ⟨Nat.le_of_ble_eq_true rfl, Nat.le_of_ble_eq_true rfl⟩ d_Md_undo_2 (fun v3 M1 H locs hq2 hP hD hS _ hkp => ?_)
  obtain ⟨ev4, eM5⟩ := hq2
  rw [if_neg hkk] at ev4
  subst ev4
  rw [eM5] at hP hD
  refine W.eq (g2 := F0 m 5 ls [.int 1, .ref y]) rfl ?_
  refine lv_if_eq (tgt := 18) hx hb d_Md_undo_5 (by decide) (fun c6 => ?_) (fun c6 => ?_)
  · skip
    exfalso; revert c6; decide
  · skip
    refine lv_lload_n hx hb d_Md_undo_8 rfl (lv_at hl 2 rfl) ?_
    refine lv_lconst (v := 0) hx hb d_Md_undo_9 (by decide) ?_
    refine hb_lc_lt (tgt := 18) hx hb d_Md_undo_10 d_Md_undo_11 (by decide) (fun c7 => ?_) (fun c7 => ?_)
    · skip
      exact absurd c7 hl0
    · skip
      refine lv_iconst (v := 1) hx hb d_Md_undo_14 (by decide) ?_
      refine lv_goto (tgt := 19) hx hb d_Md_undo_15 (by decide) ?_
      have hm8 : mR cI cJ M y b0 b1 b2 b3 b4 b5 b6 b7 b8 b9 b10 b11 cd ho pa tm na np bal mi ky ac st he cl un dn ds dd dl := ⟨fy, g0, g1, g2, g3, g4, g5, g6, g7, g8, g9, g10, g11, hap⟩
      refine hb_callV (rest := []) hX hts hb_gd Y_Md_goes (c_Md_goes hE M y b0 b1 b2 b3 b4 b5 b6 b7 b8 b9 b10 b11 cd ho pa tm na np bal mi ky ac st he cl un dn ds dd dl hm8 (by omega) (by omega) 1 (by decide)) ml_Md_83 im_Md_goes se_Md_goes hK fy hC_Md.1 hz hP hD hS hA rfl hl.1 rfl (Nat.le_of_ble_eq_true rfl) ⟨Nat.le_of_ble_eq_true rfl, Nat.le_of_ble_eq_true rfl⟩ ⟨Nat.le_of_ble_eq_true rfl, Nat.le_of_ble_eq_true rfl⟩ d_Md_undo_19 (fun v11 M9 H locs hq10 hP hD hS _ hkp => ?_)
      obtain ⟨ev12, h13⟩ := hq10
      subst ev12
      rw [if_neg (by decide : ¬ (1 : Int32) = 0)] at h13
      obtain ⟨fy14, g15, g16, g17, g18, g19, g20, g21, g22, g23, g24, g25, g26, -⟩ := id h13
      refine W.eq (g2 := F0 m 22 ls [.int 1]) rfl ?_
      refine lv_if_ne (tgt := 27) hx hb d_Md_undo_22 (by decide) (fun c27 => ?_) (fun c27 => ?_)
      · skip
        refine lv_aload_n hx hb d_Md_undo_27 rfl (lv_at hl 0 rfl) ?_
        refine lv_iload_n hx hb d_Md_undo_28 rfl (lv_at hl 1 rfl) ?_
        have hm28 : mR cI cJ M9 y b0 b1 b2 b3 b4 b5 b6 b7 b8 b9 b10 b11 0 ho pa tm na np bal mi ky ac st he cl un dn ds dd dl := ⟨fy14, g15, g16, g17, g18, g19, g20, g21, g22, g23, g24, g25, g26, hap⟩
        refine hb_callV (rest := []) hX hts hb_gd Y_Md_place (c_Md_place hE M9 y b0 b1 b2 b3 b4 b5 b6 b7 b8 b9 b10 b11 0 ho pa tm na np bal mi ky ac st he cl un dn ds dd dl hm28 (by omega) (by omega) k) ml_Md_87 im_Md_place se_Md_place hK fy14 hC_Md.1 hz hP hD hS hA rfl hl.1 rfl (Nat.le_of_ble_eq_true rfl) ⟨Nat.le_of_ble_eq_true rfl, Nat.le_of_ble_eq_true rfl⟩ ⟨Nat.le_of_ble_eq_true rfl, Nat.le_of_ble_eq_true rfl⟩ d_Md_undo_29 (fun v31 M29 H locs hq30 hP hD hS _ hkp => ?_)
        obtain ⟨ev32, eM33⟩ := hq30
        subst ev32
        rw [eM33] at hP hD
        refine W.eq (g2 := F0 m 32 ls [.int (hb_plc ky k np)]) rfl ?_
        refine W.eq (g2 := F0 m 32 ls [.int (nI j)]) (by rw [hpl]) ?_
        refine lv_istore (lv' := [(5, .int (nI j)), (0, .ref y), (1, .int k), (2, .long le), (4, .int to)]) hx hb d_Md_undo_32 hl (by decide) rfl (fun ls hl => ?_)
        refine lv_iload hx hb d_Md_undo_34 (lv_at hl 0 rfl) ?_
        refine lv_if_ge (tgt := 65) hx hb d_Md_undo_36 (by decide) (fun c34 => ?_) (fun c34 => ?_)
        · skip
          have c34n := hb_ngti c34
          refine lv_aload_n hx hb d_Md_undo_65 rfl (lv_at hl 1 rfl) ?_
          refine hb_get hx hb hts hown hC_Md hK hP fy14 10 (by decide) rfl fl_Md_23 rfl d_Md_undo_66 ?_
          refine lv_iload hx hb d_Md_undo_69 (lv_at hl 0 rfl) ?_
          refine va_iald hx hb hK (hP.one g19) 0 0 rfl rfl (vp_in_nI (by omega) (by omega)) d_Md_undo_71 ?_
          refine W.eq (g2 := F0 m 72 ls [.int (st j)]) (by rw [nI_clamp (show j < 2 ^ 31 by omega)]) ?_
          refine lv_iconst (v := 3) hx hb d_Md_undo_72 (by decide) ?_
          refine lv_icmp_eq (tgt := 88) hx hb d_Md_undo_73 (by decide) (fun c35 => ?_) (fun c35 => ?_)
          · skip
            exact absurd (Or.inl c35) hs
          · skip
            refine lv_aload_n hx hb d_Md_undo_76 rfl (lv_at hl 1 rfl) ?_
            refine hb_get hx hb hts hown hC_Md hK hP fy14 12 (by decide) rfl fl_Md_29 rfl d_Md_undo_77 ?_
            refine lv_iload hx hb d_Md_undo_80 (lv_at hl 0 rfl) ?_
            refine va_lald hx hb hK (hP.one g21) 0 1 rfl rfl (vp_in_nI (by omega) (by omega)) d_Md_undo_82 ?_
            refine W.eq (g2 := F0 m 83 ls [.long (cl j)]) (by rw [nI_clamp (show j < 2 ^ 31 by omega)]) ?_
            refine lv_lconst (v := 0) hx hb d_Md_undo_83 (by decide) ?_
            refine hb_lc_le (tgt := 92) hx hb d_Md_undo_84 d_Md_undo_85 (by decide) (fun c36 => ?_) (fun c36 => ?_)
            · skip
              have c36n := hb_ngt c36
              refine lv_aload_n hx hb d_Md_undo_92 rfl (lv_at hl 1 rfl) ?_
              refine hb_get hx hb hts hown hC_Md hK hP fy14 10 (by decide) rfl fl_Md_23 rfl d_Md_undo_93 ?_
              refine lv_iload hx hb d_Md_undo_96 (lv_at hl 0 rfl) ?_
              refine va_iald hx hb hK (hP.one g19) 0 0 rfl rfl (vp_in_nI (by omega) (by omega)) d_Md_undo_98 ?_
              refine W.eq (g2 := F0 m 99 ls [.int (st j)]) (by rw [nI_clamp (show j < 2 ^ 31 by omega)]) ?_
              refine lv_iconst (v := 1) hx hb d_Md_undo_99 (by decide) ?_
              refine lv_icmp_ne (tgt := 138) hx hb d_Md_undo_100 (by decide) (fun c37 => ?_) (fun c37 => ?_)
              · skip
                exact absurd h1 c37
              · skip
                refine lv_lload_n hx hb d_Md_undo_103 rfl (lv_at hl 3 rfl) ?_
                refine lv_lconst (v := 0) hx hb d_Md_undo_104 (by decide) ?_
                refine hb_lc_le (tgt := 132) hx hb d_Md_undo_105 d_Md_undo_106 (by decide) (fun c38 => ?_) (fun c38 => ?_)
                · skip
                  have c38n := hb_ngt c38
                  refine lv_aload_n hx hb d_Md_undo_132 rfl (lv_at hl 1 rfl) ?_
                  refine lv_iload hx hb d_Md_undo_133 (lv_at hl 0 rfl) ?_
                  have hm39 : mR cI cJ M9 y b0 b1 b2 b3 b4 b5 b6 b7 b8 b9 b10 b11 0 ho pa tm na np bal mi ky ac st he cl un dn ds dd dl := ⟨fy14, g15, g16, g17, g18, g19, g20, g21, g22, g23, g24, g25, g26, hap⟩
                  refine hb_callV (rest := []) hX hts hb_gd Y_Md_ends (c_Md_ends hE M9 y b0 b1 b2 b3 b4 b5 b6 b7 b8 b9 b10 b11 0 ho pa tm na np bal mi ky ac st he cl un dn ds dd dl hm39 (by omega) (by omega) j (by omega)) ml_Md_113 im_Md_ends se_Md_ends hK fy14 hC_Md.1 hz hP hD hS hA rfl hl.1 rfl (Nat.le_of_ble_eq_true rfl) ⟨Nat.le_of_ble_eq_true rfl, Nat.le_of_ble_eq_true rfl⟩ ⟨Nat.le_of_ble_eq_true rfl, Nat.le_of_ble_eq_true rfl⟩ d_Md_undo_135 (fun v42 M40 H locs hq41 hP hD hS _ hkp => ?_)
                  obtain ⟨ev44, h43⟩ := hq41
                  subst ev44
                  obtain ⟨fy45, g46, g47, g48, g49, g50, g51, g52, g53, g54, g55, g56, g57, -⟩ := id h43
                  refine W.eq (g2 := F0 m 138 ls []) rfl ?_
                  refine lv_aload_n hx hb d_Md_undo_138 rfl (lv_at hl 1 rfl) ?_
                  refine hb_get hx hb hts hown hC_Md hK hP fy45 11 (by decide) rfl fl_Md_26 rfl d_Md_undo_139 ?_
                  refine lv_iload hx hb d_Md_undo_142 (lv_at hl 0 rfl) ?_
                  refine va_lald hx hb hK (hP.one g51) 0 1 rfl rfl (vp_in_nI (by omega) (by omega)) d_Md_undo_144 ?_
                  refine W.eq (g2 := F0 m 145 ls [.long 0]) (by rw [nI_clamp (show j < 2 ^ 31 by omega), hb_ul]) ?_
                  exact hb_lret hAe hx hb hr hlocks hP hD hS (Nat.le_of_ble_eq_true rfl) (Nat.le_of_ble_eq_true rfl) (⟨rfl, ⟨fy45, g46, g47, g48, g49, g50, g51, g52, g53, g54, g55, g56, g57, hap⟩⟩) d_Md_undo_145
                · skip
                  have c38n := hb_gt c38
                  refine lv_lload_n hx hb d_Md_undo_109 rfl (lv_at hl 3 rfl) ?_
                  refine lv_aload_n hx hb d_Md_undo_110 rfl (lv_at hl 1 rfl) ?_
                  refine hb_get hx hb hts hown hC_Md hK hP fy14 11 (by decide) rfl fl_Md_26 rfl d_Md_undo_111 ?_
                  refine lv_iload hx hb d_Md_undo_114 (lv_at hl 0 rfl) ?_
                  refine va_lald hx hb hK (hP.one g20) 0 1 rfl rfl (vp_in_nI (by omega) (by omega)) d_Md_undo_116 ?_
                  refine W.eq (g2 := F0 m 117 ls [.long (he j), .long le]) (by rw [nI_clamp (show j < 2 ^ 31 by omega)]) ?_
                  refine hb_lc_ge (tgt := 132) hx hb d_Md_undo_117 d_Md_undo_118 (by decide) (fun c58 => ?_) (fun c58 => ?_)
                  · skip
                    have c58n := hb_ngt c58
                    refine lv_aload_n hx hb d_Md_undo_132 rfl (lv_at hl 1 rfl) ?_
                    refine lv_iload hx hb d_Md_undo_133 (lv_at hl 0 rfl) ?_
                    have hm59 : mR cI cJ M9 y b0 b1 b2 b3 b4 b5 b6 b7 b8 b9 b10 b11 0 ho pa tm na np bal mi ky ac st he cl un dn ds dd dl := ⟨fy14, g15, g16, g17, g18, g19, g20, g21, g22, g23, g24, g25, g26, hap⟩
                    refine hb_callV (rest := []) hX hts hb_gd Y_Md_ends (c_Md_ends hE M9 y b0 b1 b2 b3 b4 b5 b6 b7 b8 b9 b10 b11 0 ho pa tm na np bal mi ky ac st he cl un dn ds dd dl hm59 (by omega) (by omega) j (by omega)) ml_Md_113 im_Md_ends se_Md_ends hK fy14 hC_Md.1 hz hP hD hS hA rfl hl.1 rfl (Nat.le_of_ble_eq_true rfl) ⟨Nat.le_of_ble_eq_true rfl, Nat.le_of_ble_eq_true rfl⟩ ⟨Nat.le_of_ble_eq_true rfl, Nat.le_of_ble_eq_true rfl⟩ d_Md_undo_135 (fun v62 M60 H locs hq61 hP hD hS _ hkp => ?_)
                    obtain ⟨ev64, h63⟩ := hq61
                    subst ev64
                    obtain ⟨fy65, g66, g67, g68, g69, g70, g71, g72, g73, g74, g75, g76, g77, -⟩ := id h63
                    refine W.eq (g2 := F0 m 138 ls []) rfl ?_
                    refine lv_aload_n hx hb d_Md_undo_138 rfl (lv_at hl 1 rfl) ?_
                    refine hb_get hx hb hts hown hC_Md hK hP fy65 11 (by decide) rfl fl_Md_26 rfl d_Md_undo_139 ?_
                    refine lv_iload hx hb d_Md_undo_142 (lv_at hl 0 rfl) ?_
                    refine va_lald hx hb hK (hP.one g71) 0 1 rfl rfl (vp_in_nI (by omega) (by omega)) d_Md_undo_144 ?_
                    refine W.eq (g2 := F0 m 145 ls [.long 0]) (by rw [nI_clamp (show j < 2 ^ 31 by omega), hb_ul]) ?_
                    exact hb_lret hAe hx hb hr hlocks hP hD hS (Nat.le_of_ble_eq_true rfl) (Nat.le_of_ble_eq_true rfl) (⟨rfl, ⟨fy65, g66, g67, g68, g69, g70, g71, g72, g73, g74, g75, g76, g77, hap⟩⟩) d_Md_undo_145
                  · skip
                    have c58n := hb_gt c58
                    exact absurd ⟨c38n, c58n⟩ h2
            · skip
              have c36n := hb_gt c36
              exact absurd (Or.inr c36n) hs
        · skip
          have c34n := hb_gti c34
          exact absurd c34n (nI_pos (by omega))
      · skip
        exfalso; revert c27; decide
set_option maxHeartbeats 4000000 in
set_option maxRecDepth 100000 in
/-- charge: no -/
theorem c_Md_charge_no {l : Launch} {s0 : State} {D : va_G} {cI cJ cO : ClassId} {e0 mi : Nat} (hE : hb_E l s0 D cI cJ cO e0 mi) (M : hb_M) (y b0 b1 b2 b3 b4 b5 b6 b7 b8 b9 b10 b11 : Nat) (cd ho pa tm : Int32) (na np : Nat) (bal mi : Nat → Int64) (ky ac st : Nat → Int32) (he cl : Nat → Int64) (un dn ds : Nat → Int32) (dd : Nat → Int64) (dl : Nat → Int32) (h : mR cI cJ M y b0 b1 b2 b3 b4 b5 b6 b7 b8 b9 b10 b11 cd ho pa tm na np bal mi ky ac st he cl un dn ds dd dl) (hna : na ≤ 16) (hnp : np ≤ 60) (k : Int32) (hpl : hb_plc ky k np = -1) (hkk : ¬ (k < 0 ∨ 1000000 < k)) (am : Int64) (hm : ¬ am < 1) : hb_Met l D hb_cl s0 y_Md_charge b_Md_charge 5 (some .int) { frames := 3, cells := 0, slots := 0, locals := 100 } [.ref y, .int k, .long am] M (fun v M1 => v = some (.int (-6)) ∧ mR cI cJ M1 y b0 b1 b2 b3 b4 b5 b6 b7 b8 b9 b10 b11 0 ho pa tm na np bal mi ky ac st he cl un dn ds dd dl) := by
  refine hb_Met.of (by decide) (Nat.le_of_ble_eq_true rfl) ?_
  intro p e s m below meth c A hAe hX hz hP hD hA hS ls hl
  obtain ⟨hx, hb, hr, hml, hown, hlocks, hnm, hG, hnh⟩ := id hX
  have hown : s.vm.findClass "HoldBookModel" = some m.cls := hown
  have hts := hE.ts hG ([.ref y, .int k, .long am] : List Value).toArray
  have hK := hE.kn hG
  have hl : lv_has ls 5 [(0, .ref y), (1, .int k), (2, .long am)] := hl
  obtain ⟨fy, g0, g1, g2, g3, g4, g5, g6, g7, g8, g9, g10, g11, hap⟩ := id h
  refine lv_aload_n hx hb d_Md_charge_0 rfl (lv_at hl 0 rfl) ?_
  refine lv_iload_n hx hb d_Md_charge_1 rfl (lv_at hl 1 rfl) ?_
  refine hb_callS (rest := [.ref y]) hX hts hb_gd Y_Md_isKey (c_Md_isKey hE M k) ml_Md_75 st_Md_isKey hz hP hD hS hA rfl hl.1 rfl (Nat.le_of_ble_eq_true rfl) ⟨Nat.le_of_ble_eq_true rfl, Nat.le_of_ble_eq_true rfl⟩ ⟨Nat.le_of_ble_eq_true rfl, Nat.le_of_ble_eq_true rfl⟩ d_Md_charge_2 (fun v3 M1 H locs hq2 hP hD hS _ hkp => ?_)
  obtain ⟨ev4, eM5⟩ := hq2
  rw [if_neg hkk] at ev4
  subst ev4
  rw [eM5] at hP hD
  refine W.eq (g2 := F0 m 5 ls [.int 1, .ref y]) rfl ?_
  refine lv_if_eq (tgt := 18) hx hb d_Md_charge_5 (by decide) (fun c6 => ?_) (fun c6 => ?_)
  · skip
    exfalso; revert c6; decide
  · skip
    refine lv_lload_n hx hb d_Md_charge_8 rfl (lv_at hl 2 rfl) ?_
    refine lv_lconst (v := 1) hx hb d_Md_charge_9 (by decide) ?_
    refine hb_lc_lt (tgt := 18) hx hb d_Md_charge_10 d_Md_charge_11 (by decide) (fun c7 => ?_) (fun c7 => ?_)
    · skip
      exact absurd c7 hm
    · skip
      refine lv_iconst (v := 1) hx hb d_Md_charge_14 (by decide) ?_
      refine lv_goto (tgt := 19) hx hb d_Md_charge_15 (by decide) ?_
      have hm8 : mR cI cJ M y b0 b1 b2 b3 b4 b5 b6 b7 b8 b9 b10 b11 cd ho pa tm na np bal mi ky ac st he cl un dn ds dd dl := ⟨fy, g0, g1, g2, g3, g4, g5, g6, g7, g8, g9, g10, g11, hap⟩
      refine hb_callV (rest := []) hX hts hb_gd Y_Md_goes (c_Md_goes hE M y b0 b1 b2 b3 b4 b5 b6 b7 b8 b9 b10 b11 cd ho pa tm na np bal mi ky ac st he cl un dn ds dd dl hm8 (by omega) (by omega) 1 (by decide)) ml_Md_83 im_Md_goes se_Md_goes hK fy hC_Md.1 hz hP hD hS hA rfl hl.1 rfl (Nat.le_of_ble_eq_true rfl) ⟨Nat.le_of_ble_eq_true rfl, Nat.le_of_ble_eq_true rfl⟩ ⟨Nat.le_of_ble_eq_true rfl, Nat.le_of_ble_eq_true rfl⟩ d_Md_charge_19 (fun v11 M9 H locs hq10 hP hD hS _ hkp => ?_)
      obtain ⟨ev12, h13⟩ := hq10
      subst ev12
      rw [if_neg (by decide : ¬ (1 : Int32) = 0)] at h13
      obtain ⟨fy14, g15, g16, g17, g18, g19, g20, g21, g22, g23, g24, g25, g26, -⟩ := id h13
      refine W.eq (g2 := F0 m 22 ls [.int 1]) rfl ?_
      refine lv_if_ne (tgt := 27) hx hb d_Md_charge_22 (by decide) (fun c27 => ?_) (fun c27 => ?_)
      · skip
        refine lv_aload_n hx hb d_Md_charge_27 rfl (lv_at hl 0 rfl) ?_
        refine lv_iload_n hx hb d_Md_charge_28 rfl (lv_at hl 1 rfl) ?_
        have hm28 : mR cI cJ M9 y b0 b1 b2 b3 b4 b5 b6 b7 b8 b9 b10 b11 0 ho pa tm na np bal mi ky ac st he cl un dn ds dd dl := ⟨fy14, g15, g16, g17, g18, g19, g20, g21, g22, g23, g24, g25, g26, hap⟩
        refine hb_callV (rest := []) hX hts hb_gd Y_Md_place (c_Md_place hE M9 y b0 b1 b2 b3 b4 b5 b6 b7 b8 b9 b10 b11 0 ho pa tm na np bal mi ky ac st he cl un dn ds dd dl hm28 (by omega) (by omega) k) ml_Md_87 im_Md_place se_Md_place hK fy14 hC_Md.1 hz hP hD hS hA rfl hl.1 rfl (Nat.le_of_ble_eq_true rfl) ⟨Nat.le_of_ble_eq_true rfl, Nat.le_of_ble_eq_true rfl⟩ ⟨Nat.le_of_ble_eq_true rfl, Nat.le_of_ble_eq_true rfl⟩ d_Md_charge_29 (fun v31 M29 H locs hq30 hP hD hS _ hkp => ?_)
        obtain ⟨ev32, eM33⟩ := hq30
        subst ev32
        rw [eM33] at hP hD
        refine W.eq (g2 := F0 m 32 ls [.int (hb_plc ky k np)]) rfl ?_
        refine W.eq (g2 := F0 m 32 ls [.int (-1)]) (by rw [hpl]) ?_
        refine lv_istore (lv' := [(4, .int (-1)), (0, .ref y), (1, .int k), (2, .long am)]) hx hb d_Md_charge_32 hl (by decide) rfl (fun ls hl => ?_)
        refine lv_iload hx hb d_Md_charge_34 (lv_at hl 0 rfl) ?_
        refine lv_if_ge (tgt := 42) hx hb d_Md_charge_36 (by decide) (fun c34 => ?_) (fun c34 => ?_)
        · skip
          have c34n := hb_ngti c34
          exfalso; revert c34; decide
        · skip
          have c34n := hb_gti c34
          refine lv_bipush (v := (-6)) hx hb d_Md_charge_39 (by decide) ?_
          exact hb_iret hAe hx hb hr hlocks hP hD hS (Nat.le_of_ble_eq_true rfl) (Nat.le_of_ble_eq_true rfl) (⟨rfl, ⟨fy14, g15, g16, g17, g18, g19, g20, g21, g22, g23, g24, g25, g26, hap⟩⟩) d_Md_charge_41
      · skip
        exfalso; revert c27; decide
set_option maxHeartbeats 4000000 in
set_option maxRecDepth 100000 in
/-- charge: st -/
theorem c_Md_charge_st {l : Launch} {s0 : State} {D : va_G} {cI cJ cO : ClassId} {e0 mi : Nat} (hE : hb_E l s0 D cI cJ cO e0 mi) (M : hb_M) (y b0 b1 b2 b3 b4 b5 b6 b7 b8 b9 b10 b11 : Nat) (cd ho pa tm : Int32) (na np : Nat) (bal mi : Nat → Int64) (ky ac st : Nat → Int32) (he cl : Nat → Int64) (un dn ds : Nat → Int32) (dd : Nat → Int64) (dl : Nat → Int32) (h : mR cI cJ M y b0 b1 b2 b3 b4 b5 b6 b7 b8 b9 b10 b11 cd ho pa tm na np bal mi ky ac st he cl un dn ds dd dl) (hna : na ≤ 16) (hnp : np ≤ 60) (k : Int32) (j : Nat) (hj : j < np) (hpl : hb_plc ky k np = nI j) (hkk : ¬ (k < 0 ∨ 1000000 < k)) (am : Int64) (hm : ¬ am < 1) (hs : st j ≠ 3 ∨ ds j ≠ 0) : hb_Met l D hb_cl s0 y_Md_charge b_Md_charge 5 (some .int) { frames := 3, cells := 0, slots := 0, locals := 100 } [.ref y, .int k, .long am] M (fun v M1 => v = some (.int (-9)) ∧ mR cI cJ M1 y b0 b1 b2 b3 b4 b5 b6 b7 b8 b9 b10 b11 0 ho pa tm na np bal mi ky ac st he cl un dn ds dd dl) := by
  refine hb_Met.of (by decide) (Nat.le_of_ble_eq_true rfl) ?_
  intro p e s m below meth c A hAe hX hz hP hD hA hS ls hl
  obtain ⟨hx, hb, hr, hml, hown, hlocks, hnm, hG, hnh⟩ := id hX
  have hown : s.vm.findClass "HoldBookModel" = some m.cls := hown
  have hts := hE.ts hG ([.ref y, .int k, .long am] : List Value).toArray
  have hK := hE.kn hG
  have hl : lv_has ls 5 [(0, .ref y), (1, .int k), (2, .long am)] := hl
  obtain ⟨fy, g0, g1, g2, g3, g4, g5, g6, g7, g8, g9, g10, g11, hap⟩ := id h
  refine lv_aload_n hx hb d_Md_charge_0 rfl (lv_at hl 0 rfl) ?_
  refine lv_iload_n hx hb d_Md_charge_1 rfl (lv_at hl 1 rfl) ?_
  refine hb_callS (rest := [.ref y]) hX hts hb_gd Y_Md_isKey (c_Md_isKey hE M k) ml_Md_75 st_Md_isKey hz hP hD hS hA rfl hl.1 rfl (Nat.le_of_ble_eq_true rfl) ⟨Nat.le_of_ble_eq_true rfl, Nat.le_of_ble_eq_true rfl⟩ ⟨Nat.le_of_ble_eq_true rfl, Nat.le_of_ble_eq_true rfl⟩ d_Md_charge_2 (fun v3 M1 H locs hq2 hP hD hS _ hkp => ?_)
  obtain ⟨ev4, eM5⟩ := hq2
  rw [if_neg hkk] at ev4
  subst ev4
  rw [eM5] at hP hD
  refine W.eq (g2 := F0 m 5 ls [.int 1, .ref y]) rfl ?_
  refine lv_if_eq (tgt := 18) hx hb d_Md_charge_5 (by decide) (fun c6 => ?_) (fun c6 => ?_)
  · skip
    exfalso; revert c6; decide
  · skip
    refine lv_lload_n hx hb d_Md_charge_8 rfl (lv_at hl 2 rfl) ?_
    refine lv_lconst (v := 1) hx hb d_Md_charge_9 (by decide) ?_
    refine hb_lc_lt (tgt := 18) hx hb d_Md_charge_10 d_Md_charge_11 (by decide) (fun c7 => ?_) (fun c7 => ?_)
    · skip
      exact absurd c7 hm
    · skip
      refine lv_iconst (v := 1) hx hb d_Md_charge_14 (by decide) ?_
      refine lv_goto (tgt := 19) hx hb d_Md_charge_15 (by decide) ?_
      have hm8 : mR cI cJ M y b0 b1 b2 b3 b4 b5 b6 b7 b8 b9 b10 b11 cd ho pa tm na np bal mi ky ac st he cl un dn ds dd dl := ⟨fy, g0, g1, g2, g3, g4, g5, g6, g7, g8, g9, g10, g11, hap⟩
      refine hb_callV (rest := []) hX hts hb_gd Y_Md_goes (c_Md_goes hE M y b0 b1 b2 b3 b4 b5 b6 b7 b8 b9 b10 b11 cd ho pa tm na np bal mi ky ac st he cl un dn ds dd dl hm8 (by omega) (by omega) 1 (by decide)) ml_Md_83 im_Md_goes se_Md_goes hK fy hC_Md.1 hz hP hD hS hA rfl hl.1 rfl (Nat.le_of_ble_eq_true rfl) ⟨Nat.le_of_ble_eq_true rfl, Nat.le_of_ble_eq_true rfl⟩ ⟨Nat.le_of_ble_eq_true rfl, Nat.le_of_ble_eq_true rfl⟩ d_Md_charge_19 (fun v11 M9 H locs hq10 hP hD hS _ hkp => ?_)
      obtain ⟨ev12, h13⟩ := hq10
      subst ev12
      rw [if_neg (by decide : ¬ (1 : Int32) = 0)] at h13
      obtain ⟨fy14, g15, g16, g17, g18, g19, g20, g21, g22, g23, g24, g25, g26, -⟩ := id h13
      refine W.eq (g2 := F0 m 22 ls [.int 1]) rfl ?_
      refine lv_if_ne (tgt := 27) hx hb d_Md_charge_22 (by decide) (fun c27 => ?_) (fun c27 => ?_)
      · skip
        refine lv_aload_n hx hb d_Md_charge_27 rfl (lv_at hl 0 rfl) ?_
        refine lv_iload_n hx hb d_Md_charge_28 rfl (lv_at hl 1 rfl) ?_
        have hm28 : mR cI cJ M9 y b0 b1 b2 b3 b4 b5 b6 b7 b8 b9 b10 b11 0 ho pa tm na np bal mi ky ac st he cl un dn ds dd dl := ⟨fy14, g15, g16, g17, g18, g19, g20, g21, g22, g23, g24, g25, g26, hap⟩
        refine hb_callV (rest := []) hX hts hb_gd Y_Md_place (c_Md_place hE M9 y b0 b1 b2 b3 b4 b5 b6 b7 b8 b9 b10 b11 0 ho pa tm na np bal mi ky ac st he cl un dn ds dd dl hm28 (by omega) (by omega) k) ml_Md_87 im_Md_place se_Md_place hK fy14 hC_Md.1 hz hP hD hS hA rfl hl.1 rfl (Nat.le_of_ble_eq_true rfl) ⟨Nat.le_of_ble_eq_true rfl, Nat.le_of_ble_eq_true rfl⟩ ⟨Nat.le_of_ble_eq_true rfl, Nat.le_of_ble_eq_true rfl⟩ d_Md_charge_29 (fun v31 M29 H locs hq30 hP hD hS _ hkp => ?_)
        obtain ⟨ev32, eM33⟩ := hq30
        subst ev32
        rw [eM33] at hP hD
        refine W.eq (g2 := F0 m 32 ls [.int (hb_plc ky k np)]) rfl ?_
        refine W.eq (g2 := F0 m 32 ls [.int (nI j)]) (by rw [hpl]) ?_
        refine lv_istore (lv' := [(4, .int (nI j)), (0, .ref y), (1, .int k), (2, .long am)]) hx hb d_Md_charge_32 hl (by decide) rfl (fun ls hl => ?_)
        refine lv_iload hx hb d_Md_charge_34 (lv_at hl 0 rfl) ?_
        refine lv_if_ge (tgt := 42) hx hb d_Md_charge_36 (by decide) (fun c34 => ?_) (fun c34 => ?_)
        · skip
          have c34n := hb_ngti c34
          refine lv_aload_n hx hb d_Md_charge_42 rfl (lv_at hl 1 rfl) ?_
          refine hb_get hx hb hts hown hC_Md hK hP fy14 10 (by decide) rfl fl_Md_23 rfl d_Md_charge_43 ?_
          refine lv_iload hx hb d_Md_charge_46 (lv_at hl 0 rfl) ?_
          refine va_iald hx hb hK (hP.one g19) 0 0 rfl rfl (vp_in_nI (by omega) (by omega)) d_Md_charge_48 ?_
          refine W.eq (g2 := F0 m 49 ls [.int (st j)]) (by rw [nI_clamp (show j < 2 ^ 31 by omega)]) ?_
          refine lv_iconst (v := 3) hx hb d_Md_charge_49 (by decide) ?_
          refine lv_icmp_ne (tgt := 63) hx hb d_Md_charge_50 (by decide) (fun c35 => ?_) (fun c35 => ?_)
          · skip
            refine lv_bipush (v := (-9)) hx hb d_Md_charge_63 (by decide) ?_
            exact hb_iret hAe hx hb hr hlocks hP hD hS (Nat.le_of_ble_eq_true rfl) (Nat.le_of_ble_eq_true rfl) (⟨rfl, ⟨fy14, g15, g16, g17, g18, g19, g20, g21, g22, g23, g24, g25, g26, hap⟩⟩) d_Md_charge_65
          · skip
            refine lv_aload_n hx hb d_Md_charge_53 rfl (lv_at hl 1 rfl) ?_
            refine hb_get hx hb hts hown hC_Md hK hP fy14 15 (by decide) rfl fl_Md_38 rfl d_Md_charge_54 ?_
            refine lv_iload hx hb d_Md_charge_57 (lv_at hl 0 rfl) ?_
            refine va_iald hx hb hK (hP.one g24) 0 0 rfl rfl (vp_in_nI (by omega) (by omega)) d_Md_charge_59 ?_
            refine W.eq (g2 := F0 m 60 ls [.int (ds j)]) (by rw [nI_clamp (show j < 2 ^ 31 by omega)]) ?_
            refine lv_if_eq (tgt := 66) hx hb d_Md_charge_60 (by decide) (fun c36 => ?_) (fun c36 => ?_)
            · skip
              exact absurd hs (by intro z; rcases z with z | z; exact absurd (by assumption) z; exact absurd c36 z)
            · skip
              refine lv_bipush (v := (-9)) hx hb d_Md_charge_63 (by decide) ?_
              exact hb_iret hAe hx hb hr hlocks hP hD hS (Nat.le_of_ble_eq_true rfl) (Nat.le_of_ble_eq_true rfl) (⟨rfl, ⟨fy14, g15, g16, g17, g18, g19, g20, g21, g22, g23, g24, g25, g26, hap⟩⟩) d_Md_charge_65
        · skip
          have c34n := hb_gti c34
          exact absurd c34n (nI_pos (by omega))
      · skip
        exfalso; revert c27; decide
set_option maxHeartbeats 4000000 in
set_option maxRecDepth 100000 in
/-- charge: late -/
theorem c_Md_charge_late {l : Launch} {s0 : State} {D : va_G} {cI cJ cO : ClassId} {e0 mi : Nat} (hE : hb_E l s0 D cI cJ cO e0 mi) (M : hb_M) (y b0 b1 b2 b3 b4 b5 b6 b7 b8 b9 b10 b11 : Nat) (cd ho pa tm : Int32) (na np : Nat) (bal mi : Nat → Int64) (ky ac st : Nat → Int32) (he cl : Nat → Int64) (un dn ds : Nat → Int32) (dd : Nat → Int64) (dl : Nat → Int32) (h : mR cI cJ M y b0 b1 b2 b3 b4 b5 b6 b7 b8 b9 b10 b11 cd ho pa tm na np bal mi ky ac st he cl un dn ds dd dl) (hna : na ≤ 16) (hnp : np ≤ 60) (k : Int32) (j : Nat) (hj : j < np) (hpl : hb_plc ky k np = nI j) (hkk : ¬ (k < 0 ∨ 1000000 < k)) (am : Int64) (hm : ¬ am < 1) (hs : st j = 3) (hd0 : ds j = 0) (hld : dn j + pa < tm) : hb_Met l D hb_cl s0 y_Md_charge b_Md_charge 5 (some .int) { frames := 3, cells := 0, slots := 0, locals := 100 } [.ref y, .int k, .long am] M (fun v M1 => v = some (.int (-10)) ∧ mR cI cJ M1 y b0 b1 b2 b3 b4 b5 b6 b7 b8 b9 b10 b11 0 ho pa tm na np bal mi ky ac st he cl un dn ds dd dl) := by
  refine hb_Met.of (by decide) (Nat.le_of_ble_eq_true rfl) ?_
  intro p e s m below meth c A hAe hX hz hP hD hA hS ls hl
  obtain ⟨hx, hb, hr, hml, hown, hlocks, hnm, hG, hnh⟩ := id hX
  have hown : s.vm.findClass "HoldBookModel" = some m.cls := hown
  have hts := hE.ts hG ([.ref y, .int k, .long am] : List Value).toArray
  have hK := hE.kn hG
  have hl : lv_has ls 5 [(0, .ref y), (1, .int k), (2, .long am)] := hl
  obtain ⟨fy, g0, g1, g2, g3, g4, g5, g6, g7, g8, g9, g10, g11, hap⟩ := id h
  refine lv_aload_n hx hb d_Md_charge_0 rfl (lv_at hl 0 rfl) ?_
  refine lv_iload_n hx hb d_Md_charge_1 rfl (lv_at hl 1 rfl) ?_
  refine hb_callS (rest := [.ref y]) hX hts hb_gd Y_Md_isKey (c_Md_isKey hE M k) ml_Md_75 st_Md_isKey hz hP hD hS hA rfl hl.1 rfl (Nat.le_of_ble_eq_true rfl) ⟨Nat.le_of_ble_eq_true rfl, Nat.le_of_ble_eq_true rfl⟩ ⟨Nat.le_of_ble_eq_true rfl, Nat.le_of_ble_eq_true rfl⟩ d_Md_charge_2 (fun v3 M1 H locs hq2 hP hD hS _ hkp => ?_)
  obtain ⟨ev4, eM5⟩ := hq2
  rw [if_neg hkk] at ev4
  subst ev4
  rw [eM5] at hP hD
  refine W.eq (g2 := F0 m 5 ls [.int 1, .ref y]) rfl ?_
  refine lv_if_eq (tgt := 18) hx hb d_Md_charge_5 (by decide) (fun c6 => ?_) (fun c6 => ?_)
  · skip
    exfalso; revert c6; decide
  · skip
    refine lv_lload_n hx hb d_Md_charge_8 rfl (lv_at hl 2 rfl) ?_
    refine lv_lconst (v := 1) hx hb d_Md_charge_9 (by decide) ?_
    refine hb_lc_lt (tgt := 18) hx hb d_Md_charge_10 d_Md_charge_11 (by decide) (fun c7 => ?_) (fun c7 => ?_)
    · skip
      exact absurd c7 hm
    · skip
      refine lv_iconst (v := 1) hx hb d_Md_charge_14 (by decide) ?_
      refine lv_goto (tgt := 19) hx hb d_Md_charge_15 (by decide) ?_
      have hm8 : mR cI cJ M y b0 b1 b2 b3 b4 b5 b6 b7 b8 b9 b10 b11 cd ho pa tm na np bal mi ky ac st he cl un dn ds dd dl := ⟨fy, g0, g1, g2, g3, g4, g5, g6, g7, g8, g9, g10, g11, hap⟩
      refine hb_callV (rest := []) hX hts hb_gd Y_Md_goes (c_Md_goes hE M y b0 b1 b2 b3 b4 b5 b6 b7 b8 b9 b10 b11 cd ho pa tm na np bal mi ky ac st he cl un dn ds dd dl hm8 (by omega) (by omega) 1 (by decide)) ml_Md_83 im_Md_goes se_Md_goes hK fy hC_Md.1 hz hP hD hS hA rfl hl.1 rfl (Nat.le_of_ble_eq_true rfl) ⟨Nat.le_of_ble_eq_true rfl, Nat.le_of_ble_eq_true rfl⟩ ⟨Nat.le_of_ble_eq_true rfl, Nat.le_of_ble_eq_true rfl⟩ d_Md_charge_19 (fun v11 M9 H locs hq10 hP hD hS _ hkp => ?_)
      obtain ⟨ev12, h13⟩ := hq10
      subst ev12
      rw [if_neg (by decide : ¬ (1 : Int32) = 0)] at h13
      obtain ⟨fy14, g15, g16, g17, g18, g19, g20, g21, g22, g23, g24, g25, g26, -⟩ := id h13
      refine W.eq (g2 := F0 m 22 ls [.int 1]) rfl ?_
      refine lv_if_ne (tgt := 27) hx hb d_Md_charge_22 (by decide) (fun c27 => ?_) (fun c27 => ?_)
      · skip
        refine lv_aload_n hx hb d_Md_charge_27 rfl (lv_at hl 0 rfl) ?_
        refine lv_iload_n hx hb d_Md_charge_28 rfl (lv_at hl 1 rfl) ?_
        have hm28 : mR cI cJ M9 y b0 b1 b2 b3 b4 b5 b6 b7 b8 b9 b10 b11 0 ho pa tm na np bal mi ky ac st he cl un dn ds dd dl := ⟨fy14, g15, g16, g17, g18, g19, g20, g21, g22, g23, g24, g25, g26, hap⟩
        refine hb_callV (rest := []) hX hts hb_gd Y_Md_place (c_Md_place hE M9 y b0 b1 b2 b3 b4 b5 b6 b7 b8 b9 b10 b11 0 ho pa tm na np bal mi ky ac st he cl un dn ds dd dl hm28 (by omega) (by omega) k) ml_Md_87 im_Md_place se_Md_place hK fy14 hC_Md.1 hz hP hD hS hA rfl hl.1 rfl (Nat.le_of_ble_eq_true rfl) ⟨Nat.le_of_ble_eq_true rfl, Nat.le_of_ble_eq_true rfl⟩ ⟨Nat.le_of_ble_eq_true rfl, Nat.le_of_ble_eq_true rfl⟩ d_Md_charge_29 (fun v31 M29 H locs hq30 hP hD hS _ hkp => ?_)
        obtain ⟨ev32, eM33⟩ := hq30
        subst ev32
        rw [eM33] at hP hD
        refine W.eq (g2 := F0 m 32 ls [.int (hb_plc ky k np)]) rfl ?_
        refine W.eq (g2 := F0 m 32 ls [.int (nI j)]) (by rw [hpl]) ?_
        refine lv_istore (lv' := [(4, .int (nI j)), (0, .ref y), (1, .int k), (2, .long am)]) hx hb d_Md_charge_32 hl (by decide) rfl (fun ls hl => ?_)
        refine lv_iload hx hb d_Md_charge_34 (lv_at hl 0 rfl) ?_
        refine lv_if_ge (tgt := 42) hx hb d_Md_charge_36 (by decide) (fun c34 => ?_) (fun c34 => ?_)
        · skip
          have c34n := hb_ngti c34
          refine lv_aload_n hx hb d_Md_charge_42 rfl (lv_at hl 1 rfl) ?_
          refine hb_get hx hb hts hown hC_Md hK hP fy14 10 (by decide) rfl fl_Md_23 rfl d_Md_charge_43 ?_
          refine lv_iload hx hb d_Md_charge_46 (lv_at hl 0 rfl) ?_
          refine va_iald hx hb hK (hP.one g19) 0 0 rfl rfl (vp_in_nI (by omega) (by omega)) d_Md_charge_48 ?_
          refine W.eq (g2 := F0 m 49 ls [.int (st j)]) (by rw [nI_clamp (show j < 2 ^ 31 by omega)]) ?_
          refine lv_iconst (v := 3) hx hb d_Md_charge_49 (by decide) ?_
          refine lv_icmp_ne (tgt := 63) hx hb d_Md_charge_50 (by decide) (fun c35 => ?_) (fun c35 => ?_)
          · skip
            exact absurd hs c35
          · skip
            refine lv_aload_n hx hb d_Md_charge_53 rfl (lv_at hl 1 rfl) ?_
            refine hb_get hx hb hts hown hC_Md hK hP fy14 15 (by decide) rfl fl_Md_38 rfl d_Md_charge_54 ?_
            refine lv_iload hx hb d_Md_charge_57 (lv_at hl 0 rfl) ?_
            refine va_iald hx hb hK (hP.one g24) 0 0 rfl rfl (vp_in_nI (by omega) (by omega)) d_Md_charge_59 ?_
            refine W.eq (g2 := F0 m 60 ls [.int (ds j)]) (by rw [nI_clamp (show j < 2 ^ 31 by omega)]) ?_
            refine lv_if_eq (tgt := 66) hx hb d_Md_charge_60 (by decide) (fun c36 => ?_) (fun c36 => ?_)
            · skip
              refine lv_aload_n hx hb d_Md_charge_66 rfl (lv_at hl 1 rfl) ?_
              refine hb_get hx hb hts hown hC_Md hK hP fy14 3 (by decide) rfl fl_Md_104 rfl d_Md_charge_67 ?_
              refine lv_aload_n hx hb d_Md_charge_70 rfl (lv_at hl 1 rfl) ?_
              refine hb_get hx hb hts hown hC_Md hK hP fy14 14 (by decide) rfl fl_Md_35 rfl d_Md_charge_71 ?_
              refine lv_iload hx hb d_Md_charge_74 (lv_at hl 0 rfl) ?_
              refine va_iald hx hb hK (hP.one g23) 0 0 rfl rfl (vp_in_nI (by omega) (by omega)) d_Md_charge_76 ?_
              refine W.eq (g2 := F0 m 77 ls [.int (dn j), .int tm]) (by rw [nI_clamp (show j < 2 ^ 31 by omega)]) ?_
              refine lv_aload_n hx hb d_Md_charge_77 rfl (lv_at hl 1 rfl) ?_
              refine hb_get hx hb hts hown hC_Md hK hP fy14 2 (by decide) rfl fl_Md_51 rfl d_Md_charge_78 ?_
              refine lv_iadd hx hb d_Md_charge_81 ?_
              refine lv_icmp_le (tgt := 88) hx hb d_Md_charge_82 (by decide) (fun c37 => ?_) (fun c37 => ?_)
              · skip
                have c37n := hb_ngti c37
                exact absurd hld c37n
              · skip
                have c37n := hb_gti c37
                refine lv_bipush (v := (-10)) hx hb d_Md_charge_85 (by decide) ?_
                exact hb_iret hAe hx hb hr hlocks hP hD hS (Nat.le_of_ble_eq_true rfl) (Nat.le_of_ble_eq_true rfl) (⟨rfl, ⟨fy14, g15, g16, g17, g18, g19, g20, g21, g22, g23, g24, g25, g26, hap⟩⟩) d_Md_charge_87
            · skip
              exact absurd hd0 c36
        · skip
          have c34n := hb_gti c34
          exact absurd c34n (nI_pos (by omega))
      · skip
        exfalso; revert c27; decide
set_option maxHeartbeats 4000000 in
set_option maxRecDepth 100000 in
/-- charge: mu -/
theorem c_Md_charge_mu {l : Launch} {s0 : State} {D : va_G} {cI cJ cO : ClassId} {e0 mi : Nat} (hE : hb_E l s0 D cI cJ cO e0 mi) (M : hb_M) (y b0 b1 b2 b3 b4 b5 b6 b7 b8 b9 b10 b11 : Nat) (cd ho pa tm : Int32) (na np : Nat) (bal mi : Nat → Int64) (ky ac st : Nat → Int32) (he cl : Nat → Int64) (un dn ds : Nat → Int32) (dd : Nat → Int64) (dl : Nat → Int32) (h : mR cI cJ M y b0 b1 b2 b3 b4 b5 b6 b7 b8 b9 b10 b11 cd ho pa tm na np bal mi ky ac st he cl un dn ds dd dl) (hna : na ≤ 16) (hnp : np ≤ 60) (k : Int32) (j : Nat) (hj : j < np) (hpl : hb_plc ky k np = nI j) (hkk : ¬ (k < 0 ∨ 1000000 < k)) (am : Int64) (hm : ¬ am < 1) (hs : st j = 3) (hd0 : ds j = 0) (hld : ¬ dn j + pa < tm) (hmu : cl j < am) : hb_Met l D hb_cl s0 y_Md_charge b_Md_charge 5 (some .int) { frames := 3, cells := 0, slots := 0, locals := 100 } [.ref y, .int k, .long am] M (fun v M1 => v = some (.int (-11)) ∧ mR cI cJ M1 y b0 b1 b2 b3 b4 b5 b6 b7 b8 b9 b10 b11 0 ho pa tm na np bal mi ky ac st he cl un dn ds dd dl) := by
  refine hb_Met.of (by decide) (Nat.le_of_ble_eq_true rfl) ?_
  intro p e s m below meth c A hAe hX hz hP hD hA hS ls hl
  obtain ⟨hx, hb, hr, hml, hown, hlocks, hnm, hG, hnh⟩ := id hX
  have hown : s.vm.findClass "HoldBookModel" = some m.cls := hown
  have hts := hE.ts hG ([.ref y, .int k, .long am] : List Value).toArray
  have hK := hE.kn hG
  have hl : lv_has ls 5 [(0, .ref y), (1, .int k), (2, .long am)] := hl
  obtain ⟨fy, g0, g1, g2, g3, g4, g5, g6, g7, g8, g9, g10, g11, hap⟩ := id h
  refine lv_aload_n hx hb d_Md_charge_0 rfl (lv_at hl 0 rfl) ?_
  refine lv_iload_n hx hb d_Md_charge_1 rfl (lv_at hl 1 rfl) ?_
  refine hb_callS (rest := [.ref y]) hX hts hb_gd Y_Md_isKey (c_Md_isKey hE M k) ml_Md_75 st_Md_isKey hz hP hD hS hA rfl hl.1 rfl (Nat.le_of_ble_eq_true rfl) ⟨Nat.le_of_ble_eq_true rfl, Nat.le_of_ble_eq_true rfl⟩ ⟨Nat.le_of_ble_eq_true rfl, Nat.le_of_ble_eq_true rfl⟩ d_Md_charge_2 (fun v3 M1 H locs hq2 hP hD hS _ hkp => ?_)
  obtain ⟨ev4, eM5⟩ := hq2
  rw [if_neg hkk] at ev4
  subst ev4
  rw [eM5] at hP hD
  refine W.eq (g2 := F0 m 5 ls [.int 1, .ref y]) rfl ?_
  refine lv_if_eq (tgt := 18) hx hb d_Md_charge_5 (by decide) (fun c6 => ?_) (fun c6 => ?_)
  · skip
    exfalso; revert c6; decide
  · skip
    refine lv_lload_n hx hb d_Md_charge_8 rfl (lv_at hl 2 rfl) ?_
    refine lv_lconst (v := 1) hx hb d_Md_charge_9 (by decide) ?_
    refine hb_lc_lt (tgt := 18) hx hb d_Md_charge_10 d_Md_charge_11 (by decide) (fun c7 => ?_) (fun c7 => ?_)
    · skip
      exact absurd c7 hm
    · skip
      refine lv_iconst (v := 1) hx hb d_Md_charge_14 (by decide) ?_
      refine lv_goto (tgt := 19) hx hb d_Md_charge_15 (by decide) ?_
      have hm8 : mR cI cJ M y b0 b1 b2 b3 b4 b5 b6 b7 b8 b9 b10 b11 cd ho pa tm na np bal mi ky ac st he cl un dn ds dd dl := ⟨fy, g0, g1, g2, g3, g4, g5, g6, g7, g8, g9, g10, g11, hap⟩
      refine hb_callV (rest := []) hX hts hb_gd Y_Md_goes (c_Md_goes hE M y b0 b1 b2 b3 b4 b5 b6 b7 b8 b9 b10 b11 cd ho pa tm na np bal mi ky ac st he cl un dn ds dd dl hm8 (by omega) (by omega) 1 (by decide)) ml_Md_83 im_Md_goes se_Md_goes hK fy hC_Md.1 hz hP hD hS hA rfl hl.1 rfl (Nat.le_of_ble_eq_true rfl) ⟨Nat.le_of_ble_eq_true rfl, Nat.le_of_ble_eq_true rfl⟩ ⟨Nat.le_of_ble_eq_true rfl, Nat.le_of_ble_eq_true rfl⟩ d_Md_charge_19 (fun v11 M9 H locs hq10 hP hD hS _ hkp => ?_)
      obtain ⟨ev12, h13⟩ := hq10
      subst ev12
      rw [if_neg (by decide : ¬ (1 : Int32) = 0)] at h13
      obtain ⟨fy14, g15, g16, g17, g18, g19, g20, g21, g22, g23, g24, g25, g26, -⟩ := id h13
      refine W.eq (g2 := F0 m 22 ls [.int 1]) rfl ?_
      refine lv_if_ne (tgt := 27) hx hb d_Md_charge_22 (by decide) (fun c27 => ?_) (fun c27 => ?_)
      · skip
        refine lv_aload_n hx hb d_Md_charge_27 rfl (lv_at hl 0 rfl) ?_
        refine lv_iload_n hx hb d_Md_charge_28 rfl (lv_at hl 1 rfl) ?_
        have hm28 : mR cI cJ M9 y b0 b1 b2 b3 b4 b5 b6 b7 b8 b9 b10 b11 0 ho pa tm na np bal mi ky ac st he cl un dn ds dd dl := ⟨fy14, g15, g16, g17, g18, g19, g20, g21, g22, g23, g24, g25, g26, hap⟩
        refine hb_callV (rest := []) hX hts hb_gd Y_Md_place (c_Md_place hE M9 y b0 b1 b2 b3 b4 b5 b6 b7 b8 b9 b10 b11 0 ho pa tm na np bal mi ky ac st he cl un dn ds dd dl hm28 (by omega) (by omega) k) ml_Md_87 im_Md_place se_Md_place hK fy14 hC_Md.1 hz hP hD hS hA rfl hl.1 rfl (Nat.le_of_ble_eq_true rfl) ⟨Nat.le_of_ble_eq_true rfl, Nat.le_of_ble_eq_true rfl⟩ ⟨Nat.le_of_ble_eq_true rfl, Nat.le_of_ble_eq_true rfl⟩ d_Md_charge_29 (fun v31 M29 H locs hq30 hP hD hS _ hkp => ?_)
        obtain ⟨ev32, eM33⟩ := hq30
        subst ev32
        rw [eM33] at hP hD
        refine W.eq (g2 := F0 m 32 ls [.int (hb_plc ky k np)]) rfl ?_
        refine W.eq (g2 := F0 m 32 ls [.int (nI j)]) (by rw [hpl]) ?_
        refine lv_istore (lv' := [(4, .int (nI j)), (0, .ref y), (1, .int k), (2, .long am)]) hx hb d_Md_charge_32 hl (by decide) rfl (fun ls hl => ?_)
        refine lv_iload hx hb d_Md_charge_34 (lv_at hl 0 rfl) ?_
        refine lv_if_ge (tgt := 42) hx hb d_Md_charge_36 (by decide) (fun c34 => ?_) (fun c34 => ?_)
        · skip
          have c34n := hb_ngti c34
          refine lv_aload_n hx hb d_Md_charge_42 rfl (lv_at hl 1 rfl) ?_
          refine hb_get hx hb hts hown hC_Md hK hP fy14 10 (by decide) rfl fl_Md_23 rfl d_Md_charge_43 ?_
          refine lv_iload hx hb d_Md_charge_46 (lv_at hl 0 rfl) ?_
          refine va_iald hx hb hK (hP.one g19) 0 0 rfl rfl (vp_in_nI (by omega) (by omega)) d_Md_charge_48 ?_
          refine W.eq (g2 := F0 m 49 ls [.int (st j)]) (by rw [nI_clamp (show j < 2 ^ 31 by omega)]) ?_
          refine lv_iconst (v := 3) hx hb d_Md_charge_49 (by decide) ?_
          refine lv_icmp_ne (tgt := 63) hx hb d_Md_charge_50 (by decide) (fun c35 => ?_) (fun c35 => ?_)
          · skip
            exact absurd hs c35
          · skip
            refine lv_aload_n hx hb d_Md_charge_53 rfl (lv_at hl 1 rfl) ?_
            refine hb_get hx hb hts hown hC_Md hK hP fy14 15 (by decide) rfl fl_Md_38 rfl d_Md_charge_54 ?_
            refine lv_iload hx hb d_Md_charge_57 (lv_at hl 0 rfl) ?_
            refine va_iald hx hb hK (hP.one g24) 0 0 rfl rfl (vp_in_nI (by omega) (by omega)) d_Md_charge_59 ?_
            refine W.eq (g2 := F0 m 60 ls [.int (ds j)]) (by rw [nI_clamp (show j < 2 ^ 31 by omega)]) ?_
            refine lv_if_eq (tgt := 66) hx hb d_Md_charge_60 (by decide) (fun c36 => ?_) (fun c36 => ?_)
            · skip
              refine lv_aload_n hx hb d_Md_charge_66 rfl (lv_at hl 1 rfl) ?_
              refine hb_get hx hb hts hown hC_Md hK hP fy14 3 (by decide) rfl fl_Md_104 rfl d_Md_charge_67 ?_
              refine lv_aload_n hx hb d_Md_charge_70 rfl (lv_at hl 1 rfl) ?_
              refine hb_get hx hb hts hown hC_Md hK hP fy14 14 (by decide) rfl fl_Md_35 rfl d_Md_charge_71 ?_
              refine lv_iload hx hb d_Md_charge_74 (lv_at hl 0 rfl) ?_
              refine va_iald hx hb hK (hP.one g23) 0 0 rfl rfl (vp_in_nI (by omega) (by omega)) d_Md_charge_76 ?_
              refine W.eq (g2 := F0 m 77 ls [.int (dn j), .int tm]) (by rw [nI_clamp (show j < 2 ^ 31 by omega)]) ?_
              refine lv_aload_n hx hb d_Md_charge_77 rfl (lv_at hl 1 rfl) ?_
              refine hb_get hx hb hts hown hC_Md hK hP fy14 2 (by decide) rfl fl_Md_51 rfl d_Md_charge_78 ?_
              refine lv_iadd hx hb d_Md_charge_81 ?_
              refine lv_icmp_le (tgt := 88) hx hb d_Md_charge_82 (by decide) (fun c37 => ?_) (fun c37 => ?_)
              · skip
                have c37n := hb_ngti c37
                refine lv_lload_n hx hb d_Md_charge_88 rfl (lv_at hl 3 rfl) ?_
                refine lv_aload_n hx hb d_Md_charge_89 rfl (lv_at hl 1 rfl) ?_
                refine hb_get hx hb hts hown hC_Md hK hP fy14 12 (by decide) rfl fl_Md_29 rfl d_Md_charge_90 ?_
                refine lv_iload hx hb d_Md_charge_93 (lv_at hl 0 rfl) ?_
                refine va_lald hx hb hK (hP.one g21) 0 1 rfl rfl (vp_in_nI (by omega) (by omega)) d_Md_charge_95 ?_
                refine W.eq (g2 := F0 m 96 ls [.long (cl j), .long am]) (by rw [nI_clamp (show j < 2 ^ 31 by omega)]) ?_
                refine hb_lc_le (tgt := 103) hx hb d_Md_charge_96 d_Md_charge_97 (by decide) (fun c38 => ?_) (fun c38 => ?_)
                · skip
                  have c38n := hb_ngt c38
                  exact absurd hmu c38n
                · skip
                  have c38n := hb_gt c38
                  refine lv_bipush (v := (-11)) hx hb d_Md_charge_100 (by decide) ?_
                  exact hb_iret hAe hx hb hr hlocks hP hD hS (Nat.le_of_ble_eq_true rfl) (Nat.le_of_ble_eq_true rfl) (⟨rfl, ⟨fy14, g15, g16, g17, g18, g19, g20, g21, g22, g23, g24, g25, g26, hap⟩⟩) d_Md_charge_102
              · skip
                have c37n := hb_gti c37
                exact absurd c37n hld
            · skip
              exact absurd hd0 c36
        · skip
          have c34n := hb_gti c34
          exact absurd c34n (nI_pos (by omega))
      · skip
        exfalso; revert c27; decide
set_option maxHeartbeats 4000000 in
set_option maxRecDepth 100000 in
/-- charge: ok -/
theorem c_Md_charge_ok {l : Launch} {s0 : State} {D : va_G} {cI cJ cO : ClassId} {e0 mi : Nat} (hE : hb_E l s0 D cI cJ cO e0 mi) (M : hb_M) (y b0 b1 b2 b3 b4 b5 b6 b7 b8 b9 b10 b11 : Nat) (cd ho pa tm : Int32) (na np : Nat) (bal mi : Nat → Int64) (ky ac st : Nat → Int32) (he cl : Nat → Int64) (un dn ds : Nat → Int32) (dd : Nat → Int64) (dl : Nat → Int32) (h : mR cI cJ M y b0 b1 b2 b3 b4 b5 b6 b7 b8 b9 b10 b11 cd ho pa tm na np bal mi ky ac st he cl un dn ds dd dl) (hna : na ≤ 16) (hnp : np ≤ 60) (k : Int32) (j : Nat) (hj : j < np) (hpl : hb_plc ky k np = nI j) (hkk : ¬ (k < 0 ∨ 1000000 < k)) (am : Int64) (hm : ¬ am < 1) (hs : st j = 3) (hd0 : ds j = 0) (hld : ¬ dn j + pa < tm) (hmu : ¬ cl j < am) (ka : Nat) (hka : ka < 16) (hac : ac j = nI ka) : hb_Met l D hb_cl s0 y_Md_charge b_Md_charge 5 (some .int) { frames := 3, cells := 0, slots := 0, locals := 100 } [.ref y, .int k, .long am] M (fun v M1 => v = some (.int 1) ∧ mR cI cJ M1 y b0 b1 b2 b3 b4 b5 b6 b7 b8 b9 b10 b11 0 ho pa tm na np (vp_updL bal ka (bal ka + am)) mi ky ac st he cl un dn (upd ds j 1) (vp_updL dd j am) (upd dl j (tm + pa))) := by
  refine hb_Met.of (by decide) (Nat.le_of_ble_eq_true rfl) ?_
  intro p e s m below meth c A hAe hX hz hP hD hA hS ls hl
  obtain ⟨hx, hb, hr, hml, hown, hlocks, hnm, hG, hnh⟩ := id hX
  have hown : s.vm.findClass "HoldBookModel" = some m.cls := hown
  have hts := hE.ts hG ([.ref y, .int k, .long am] : List Value).toArray
  have hK := hE.kn hG
  have hl : lv_has ls 5 [(0, .ref y), (1, .int k), (2, .long am)] := hl
  obtain ⟨fy, g0, g1, g2, g3, g4, g5, g6, g7, g8, g9, g10, g11, hap⟩ := id h
  refine lv_aload_n hx hb d_Md_charge_0 rfl (lv_at hl 0 rfl) ?_
  refine lv_iload_n hx hb d_Md_charge_1 rfl (lv_at hl 1 rfl) ?_
  refine hb_callS (rest := [.ref y]) hX hts hb_gd Y_Md_isKey (c_Md_isKey hE M k) ml_Md_75 st_Md_isKey hz hP hD hS hA rfl hl.1 rfl (Nat.le_of_ble_eq_true rfl) ⟨Nat.le_of_ble_eq_true rfl, Nat.le_of_ble_eq_true rfl⟩ ⟨Nat.le_of_ble_eq_true rfl, Nat.le_of_ble_eq_true rfl⟩ d_Md_charge_2 (fun v3 M1 H locs hq2 hP hD hS _ hkp => ?_)
  obtain ⟨ev4, eM5⟩ := hq2
  rw [if_neg hkk] at ev4
  subst ev4
  rw [eM5] at hP hD
  refine W.eq (g2 := F0 m 5 ls [.int 1, .ref y]) rfl ?_
  refine lv_if_eq (tgt := 18) hx hb d_Md_charge_5 (by decide) (fun c6 => ?_) (fun c6 => ?_)
  · skip
    exfalso; revert c6; decide
  · skip
    refine lv_lload_n hx hb d_Md_charge_8 rfl (lv_at hl 2 rfl) ?_
    refine lv_lconst (v := 1) hx hb d_Md_charge_9 (by decide) ?_
    refine hb_lc_lt (tgt := 18) hx hb d_Md_charge_10 d_Md_charge_11 (by decide) (fun c7 => ?_) (fun c7 => ?_)
    · skip
      exact absurd c7 hm
    · skip
      refine lv_iconst (v := 1) hx hb d_Md_charge_14 (by decide) ?_
      refine lv_goto (tgt := 19) hx hb d_Md_charge_15 (by decide) ?_
      have hm8 : mR cI cJ M y b0 b1 b2 b3 b4 b5 b6 b7 b8 b9 b10 b11 cd ho pa tm na np bal mi ky ac st he cl un dn ds dd dl := ⟨fy, g0, g1, g2, g3, g4, g5, g6, g7, g8, g9, g10, g11, hap⟩
      refine hb_callV (rest := []) hX hts hb_gd Y_Md_goes (c_Md_goes hE M y b0 b1 b2 b3 b4 b5 b6 b7 b8 b9 b10 b11 cd ho pa tm na np bal mi ky ac st he cl un dn ds dd dl hm8 (by omega) (by omega) 1 (by decide)) ml_Md_83 im_Md_goes se_Md_goes hK fy hC_Md.1 hz hP hD hS hA rfl hl.1 rfl (Nat.le_of_ble_eq_true rfl) ⟨Nat.le_of_ble_eq_true rfl, Nat.le_of_ble_eq_true rfl⟩ ⟨Nat.le_of_ble_eq_true rfl, Nat.le_of_ble_eq_true rfl⟩ d_Md_charge_19 (fun v11 M9 H locs hq10 hP hD hS _ hkp => ?_)
      obtain ⟨ev12, h13⟩ := hq10
      subst ev12
      rw [if_neg (by decide : ¬ (1 : Int32) = 0)] at h13
      obtain ⟨fy14, g15, g16, g17, g18, g19, g20, g21, g22, g23, g24, g25, g26, -⟩ := id h13
      refine W.eq (g2 := F0 m 22 ls [.int 1]) rfl ?_
      refine lv_if_ne (tgt := 27) hx hb d_Md_charge_22 (by decide) (fun c27 => ?_) (fun c27 => ?_)
      · skip
        refine lv_aload_n hx hb d_Md_charge_27 rfl (lv_at hl 0 rfl) ?_
        refine lv_iload_n hx hb d_Md_charge_28 rfl (lv_at hl 1 rfl) ?_
        have hm28 : mR cI cJ M9 y b0 b1 b2 b3 b4 b5 b6 b7 b8 b9 b10 b11 0 ho pa tm na np bal mi ky ac st he cl un dn ds dd dl := ⟨fy14, g15, g16, g17, g18, g19, g20, g21, g22, g23, g24, g25, g26, hap⟩
        refine hb_callV (rest := []) hX hts hb_gd Y_Md_place (c_Md_place hE M9 y b0 b1 b2 b3 b4 b5 b6 b7 b8 b9 b10 b11 0 ho pa tm na np bal mi ky ac st he cl un dn ds dd dl hm28 (by omega) (by omega) k) ml_Md_87 im_Md_place se_Md_place hK fy14 hC_Md.1 hz hP hD hS hA rfl hl.1 rfl (Nat.le_of_ble_eq_true rfl) ⟨Nat.le_of_ble_eq_true rfl, Nat.le_of_ble_eq_true rfl⟩ ⟨Nat.le_of_ble_eq_true rfl, Nat.le_of_ble_eq_true rfl⟩ d_Md_charge_29 (fun v31 M29 H locs hq30 hP hD hS _ hkp => ?_)
        obtain ⟨ev32, eM33⟩ := hq30
        subst ev32
        rw [eM33] at hP hD
        refine W.eq (g2 := F0 m 32 ls [.int (hb_plc ky k np)]) rfl ?_
        refine W.eq (g2 := F0 m 32 ls [.int (nI j)]) (by rw [hpl]) ?_
        refine lv_istore (lv' := [(4, .int (nI j)), (0, .ref y), (1, .int k), (2, .long am)]) hx hb d_Md_charge_32 hl (by decide) rfl (fun ls hl => ?_)
        refine lv_iload hx hb d_Md_charge_34 (lv_at hl 0 rfl) ?_
        refine lv_if_ge (tgt := 42) hx hb d_Md_charge_36 (by decide) (fun c34 => ?_) (fun c34 => ?_)
        · skip
          have c34n := hb_ngti c34
          refine lv_aload_n hx hb d_Md_charge_42 rfl (lv_at hl 1 rfl) ?_
          refine hb_get hx hb hts hown hC_Md hK hP fy14 10 (by decide) rfl fl_Md_23 rfl d_Md_charge_43 ?_
          refine lv_iload hx hb d_Md_charge_46 (lv_at hl 0 rfl) ?_
          refine va_iald hx hb hK (hP.one g19) 0 0 rfl rfl (vp_in_nI (by omega) (by omega)) d_Md_charge_48 ?_
          refine W.eq (g2 := F0 m 49 ls [.int (st j)]) (by rw [nI_clamp (show j < 2 ^ 31 by omega)]) ?_
          refine lv_iconst (v := 3) hx hb d_Md_charge_49 (by decide) ?_
          refine lv_icmp_ne (tgt := 63) hx hb d_Md_charge_50 (by decide) (fun c35 => ?_) (fun c35 => ?_)
          · skip
            exact absurd hs c35
          · skip
            refine lv_aload_n hx hb d_Md_charge_53 rfl (lv_at hl 1 rfl) ?_
            refine hb_get hx hb hts hown hC_Md hK hP fy14 15 (by decide) rfl fl_Md_38 rfl d_Md_charge_54 ?_
            refine lv_iload hx hb d_Md_charge_57 (lv_at hl 0 rfl) ?_
            refine va_iald hx hb hK (hP.one g24) 0 0 rfl rfl (vp_in_nI (by omega) (by omega)) d_Md_charge_59 ?_
            refine W.eq (g2 := F0 m 60 ls [.int (ds j)]) (by rw [nI_clamp (show j < 2 ^ 31 by omega)]) ?_
            refine lv_if_eq (tgt := 66) hx hb d_Md_charge_60 (by decide) (fun c36 => ?_) (fun c36 => ?_)
            · skip
              refine lv_aload_n hx hb d_Md_charge_66 rfl (lv_at hl 1 rfl) ?_
              refine hb_get hx hb hts hown hC_Md hK hP fy14 3 (by decide) rfl fl_Md_104 rfl d_Md_charge_67 ?_
              refine lv_aload_n hx hb d_Md_charge_70 rfl (lv_at hl 1 rfl) ?_
              refine hb_get hx hb hts hown hC_Md hK hP fy14 14 (by decide) rfl fl_Md_35 rfl d_Md_charge_71 ?_
              refine lv_iload hx hb d_Md_charge_74 (lv_at hl 0 rfl) ?_
              refine va_iald hx hb hK (hP.one g23) 0 0 rfl rfl (vp_in_nI (by omega) (by omega)) d_Md_charge_76 ?_
              refine W.eq (g2 := F0 m 77 ls [.int (dn j), .int tm]) (by rw [nI_clamp (show j < 2 ^ 31 by omega)]) ?_
              refine lv_aload_n hx hb d_Md_charge_77 rfl (lv_at hl 1 rfl) ?_
              refine hb_get hx hb hts hown hC_Md hK hP fy14 2 (by decide) rfl fl_Md_51 rfl d_Md_charge_78 ?_
              refine lv_iadd hx hb d_Md_charge_81 ?_
              refine lv_icmp_le (tgt := 88) hx hb d_Md_charge_82 (by decide) (fun c37 => ?_) (fun c37 => ?_)
              · skip
                have c37n := hb_ngti c37
                refine lv_lload_n hx hb d_Md_charge_88 rfl (lv_at hl 3 rfl) ?_
                refine lv_aload_n hx hb d_Md_charge_89 rfl (lv_at hl 1 rfl) ?_
                refine hb_get hx hb hts hown hC_Md hK hP fy14 12 (by decide) rfl fl_Md_29 rfl d_Md_charge_90 ?_
                refine lv_iload hx hb d_Md_charge_93 (lv_at hl 0 rfl) ?_
                refine va_lald hx hb hK (hP.one g21) 0 1 rfl rfl (vp_in_nI (by omega) (by omega)) d_Md_charge_95 ?_
                refine W.eq (g2 := F0 m 96 ls [.long (cl j), .long am]) (by rw [nI_clamp (show j < 2 ^ 31 by omega)]) ?_
                refine hb_lc_le (tgt := 103) hx hb d_Md_charge_96 d_Md_charge_97 (by decide) (fun c38 => ?_) (fun c38 => ?_)
                · skip
                  have c38n := hb_ngt c38
                  refine lv_aload_n hx hb d_Md_charge_103 rfl (lv_at hl 1 rfl) ?_
                  refine hb_get hx hb hts hown hC_Md hK hP fy14 15 (by decide) rfl fl_Md_38 rfl d_Md_charge_104 ?_
                  refine lv_iload hx hb d_Md_charge_107 (lv_at hl 0 rfl) ?_
                  refine lv_iconst (v := 1) hx hb d_Md_charge_109 (by decide) ?_
                  refine hb_iast hx hb hK hP hD hS g24 (vp_in_nI (by omega) (by omega)) d_Md_charge_110 (fun M39 H locs eM40 hP hD hS => ?_)
                  rw [nI_clamp (show j < 2 ^ 31 by omega)] at eM40
                  have f41 : M39 b9 = some (.inl (cI, 60, .inl (upd ds j 1))) := by rw [eM40]; exact hb_up_self
                  have f42 : M39 y = some (.inr (4, [.int 0, .int ho, .int pa, .int tm, .int (nI na), .ref b0, .ref b1, .int (nI np), .ref b2, .ref b3, .ref b4, .ref b5, .ref b6, .ref b7, .ref b8, .ref b9, .ref b10, .ref b11])) := by rw [eM40, hb_up_ne (fun q9 => by rw [q9, g24] at fy14; cases fy14)]; exact fy14
                  have f43 : M39 b0 = some (.inl (cJ, 16, .inr (.inl bal))) := by rw [eM40, hb_up_ne (hap.ne 0 9 (by decide) rfl rfl)]; exact g15
                  have f44 : M39 b1 = some (.inl (cJ, 16, .inr (.inl mi))) := by rw [eM40, hb_up_ne (hap.ne 1 9 (by decide) rfl rfl)]; exact g16
                  have f45 : M39 b2 = some (.inl (cI, 60, .inl ky)) := by rw [eM40, hb_up_ne (hap.ne 2 9 (by decide) rfl rfl)]; exact g17
                  have f46 : M39 b3 = some (.inl (cI, 60, .inl ac)) := by rw [eM40, hb_up_ne (hap.ne 3 9 (by decide) rfl rfl)]; exact g18
                  have f47 : M39 b4 = some (.inl (cI, 60, .inl st)) := by rw [eM40, hb_up_ne (hap.ne 4 9 (by decide) rfl rfl)]; exact g19
                  have f48 : M39 b5 = some (.inl (cJ, 60, .inr (.inl he))) := by rw [eM40, hb_up_ne (hap.ne 5 9 (by decide) rfl rfl)]; exact g20
                  have f49 : M39 b6 = some (.inl (cJ, 60, .inr (.inl cl))) := by rw [eM40, hb_up_ne (hap.ne 6 9 (by decide) rfl rfl)]; exact g21
                  have f50 : M39 b7 = some (.inl (cI, 60, .inl un)) := by rw [eM40, hb_up_ne (hap.ne 7 9 (by decide) rfl rfl)]; exact g22
                  have f51 : M39 b8 = some (.inl (cI, 60, .inl dn)) := by rw [eM40, hb_up_ne (hap.ne 8 9 (by decide) rfl rfl)]; exact g23
                  have f52 : M39 b10 = some (.inl (cJ, 60, .inr (.inl dd))) := by rw [eM40, hb_up_ne (hap.ne 10 9 (by decide) rfl rfl)]; exact g25
                  have f53 : M39 b11 = some (.inl (cI, 60, .inl dl)) := by rw [eM40, hb_up_ne (hap.ne 11 9 (by decide) rfl rfl)]; exact g26
                  refine lv_aload_n hx hb d_Md_charge_111 rfl (lv_at hl 1 rfl) ?_
                  refine hb_get hx hb hts hown hC_Md hK hP f42 16 (by decide) rfl fl_Md_41 rfl d_Md_charge_112 ?_
                  refine lv_iload hx hb d_Md_charge_115 (lv_at hl 0 rfl) ?_
                  refine lv_lload_n hx hb d_Md_charge_117 rfl (lv_at hl 3 rfl) ?_
                  refine hb_last hx hb hK hP hD hS f52 (vp_in_nI (by omega) (by omega)) d_Md_charge_118 (fun M54 H locs eM55 hP hD hS => ?_)
                  rw [nI_clamp (show j < 2 ^ 31 by omega)] at eM55
                  have f56 : M54 b10 = some (.inl (cJ, 60, .inr (.inl (vp_updL dd j am)))) := by rw [eM55]; exact hb_up_self
                  have f57 : M54 b9 = some (.inl (cI, 60, .inl (upd ds j 1))) := by rw [eM55, hb_up_ne (hap.ne 9 10 (by decide) rfl rfl)]; exact f41
                  have f58 : M54 y = some (.inr (4, [.int 0, .int ho, .int pa, .int tm, .int (nI na), .ref b0, .ref b1, .int (nI np), .ref b2, .ref b3, .ref b4, .ref b5, .ref b6, .ref b7, .ref b8, .ref b9, .ref b10, .ref b11])) := by rw [eM55, hb_up_ne (fun q9 => by rw [q9, f52] at f42; cases f42)]; exact f42
                  have f59 : M54 b0 = some (.inl (cJ, 16, .inr (.inl bal))) := by rw [eM55, hb_up_ne (hap.ne 0 10 (by decide) rfl rfl)]; exact f43
                  have f60 : M54 b1 = some (.inl (cJ, 16, .inr (.inl mi))) := by rw [eM55, hb_up_ne (hap.ne 1 10 (by decide) rfl rfl)]; exact f44
                  have f61 : M54 b2 = some (.inl (cI, 60, .inl ky)) := by rw [eM55, hb_up_ne (hap.ne 2 10 (by decide) rfl rfl)]; exact f45
                  have f62 : M54 b3 = some (.inl (cI, 60, .inl ac)) := by rw [eM55, hb_up_ne (hap.ne 3 10 (by decide) rfl rfl)]; exact f46
                  have f63 : M54 b4 = some (.inl (cI, 60, .inl st)) := by rw [eM55, hb_up_ne (hap.ne 4 10 (by decide) rfl rfl)]; exact f47
                  have f64 : M54 b5 = some (.inl (cJ, 60, .inr (.inl he))) := by rw [eM55, hb_up_ne (hap.ne 5 10 (by decide) rfl rfl)]; exact f48
                  have f65 : M54 b6 = some (.inl (cJ, 60, .inr (.inl cl))) := by rw [eM55, hb_up_ne (hap.ne 6 10 (by decide) rfl rfl)]; exact f49
                  have f66 : M54 b7 = some (.inl (cI, 60, .inl un)) := by rw [eM55, hb_up_ne (hap.ne 7 10 (by decide) rfl rfl)]; exact f50
                  have f67 : M54 b8 = some (.inl (cI, 60, .inl dn)) := by rw [eM55, hb_up_ne (hap.ne 8 10 (by decide) rfl rfl)]; exact f51
                  have f68 : M54 b11 = some (.inl (cI, 60, .inl dl)) := by rw [eM55, hb_up_ne (hap.ne 11 10 (by decide) rfl rfl)]; exact f53
                  refine lv_aload_n hx hb d_Md_charge_119 rfl (lv_at hl 1 rfl) ?_
                  refine hb_get hx hb hts hown hC_Md hK hP f58 17 (by decide) rfl fl_Md_44 rfl d_Md_charge_120 ?_
                  refine lv_iload hx hb d_Md_charge_123 (lv_at hl 0 rfl) ?_
                  refine lv_aload_n hx hb d_Md_charge_125 rfl (lv_at hl 1 rfl) ?_
                  refine hb_get hx hb hts hown hC_Md hK hP f58 3 (by decide) rfl fl_Md_104 rfl d_Md_charge_126 ?_
                  refine lv_aload_n hx hb d_Md_charge_129 rfl (lv_at hl 1 rfl) ?_
                  refine hb_get hx hb hts hown hC_Md hK hP f58 2 (by decide) rfl fl_Md_51 rfl d_Md_charge_130 ?_
                  refine lv_iadd hx hb d_Md_charge_133 ?_
                  refine hb_iast hx hb hK hP hD hS f68 (vp_in_nI (by omega) (by omega)) d_Md_charge_134 (fun M69 H locs eM70 hP hD hS => ?_)
                  rw [nI_clamp (show j < 2 ^ 31 by omega)] at eM70
                  have f71 : M69 b11 = some (.inl (cI, 60, .inl (upd dl j (tm + pa)))) := by rw [eM70]; exact hb_up_self
                  have f72 : M69 b10 = some (.inl (cJ, 60, .inr (.inl (vp_updL dd j am)))) := by rw [eM70, hb_up_ne (hap.ne 10 11 (by decide) rfl rfl)]; exact f56
                  have f73 : M69 b9 = some (.inl (cI, 60, .inl (upd ds j 1))) := by rw [eM70, hb_up_ne (hap.ne 9 11 (by decide) rfl rfl)]; exact f57
                  have f74 : M69 y = some (.inr (4, [.int 0, .int ho, .int pa, .int tm, .int (nI na), .ref b0, .ref b1, .int (nI np), .ref b2, .ref b3, .ref b4, .ref b5, .ref b6, .ref b7, .ref b8, .ref b9, .ref b10, .ref b11])) := by rw [eM70, hb_up_ne (fun q9 => by rw [q9, f68] at f58; cases f58)]; exact f58
                  have f75 : M69 b0 = some (.inl (cJ, 16, .inr (.inl bal))) := by rw [eM70, hb_up_ne (hap.ne 0 11 (by decide) rfl rfl)]; exact f59
                  have f76 : M69 b1 = some (.inl (cJ, 16, .inr (.inl mi))) := by rw [eM70, hb_up_ne (hap.ne 1 11 (by decide) rfl rfl)]; exact f60
                  have f77 : M69 b2 = some (.inl (cI, 60, .inl ky)) := by rw [eM70, hb_up_ne (hap.ne 2 11 (by decide) rfl rfl)]; exact f61
                  have f78 : M69 b3 = some (.inl (cI, 60, .inl ac)) := by rw [eM70, hb_up_ne (hap.ne 3 11 (by decide) rfl rfl)]; exact f62
                  have f79 : M69 b4 = some (.inl (cI, 60, .inl st)) := by rw [eM70, hb_up_ne (hap.ne 4 11 (by decide) rfl rfl)]; exact f63
                  have f80 : M69 b5 = some (.inl (cJ, 60, .inr (.inl he))) := by rw [eM70, hb_up_ne (hap.ne 5 11 (by decide) rfl rfl)]; exact f64
                  have f81 : M69 b6 = some (.inl (cJ, 60, .inr (.inl cl))) := by rw [eM70, hb_up_ne (hap.ne 6 11 (by decide) rfl rfl)]; exact f65
                  have f82 : M69 b7 = some (.inl (cI, 60, .inl un)) := by rw [eM70, hb_up_ne (hap.ne 7 11 (by decide) rfl rfl)]; exact f66
                  have f83 : M69 b8 = some (.inl (cI, 60, .inl dn)) := by rw [eM70, hb_up_ne (hap.ne 8 11 (by decide) rfl rfl)]; exact f67
                  refine lv_aload_n hx hb d_Md_charge_135 rfl (lv_at hl 1 rfl) ?_
                  refine hb_get hx hb hts hown hC_Md hK hP f74 5 (by decide) rfl fl_Md_7 rfl d_Md_charge_136 ?_
                  refine lv_aload_n hx hb d_Md_charge_139 rfl (lv_at hl 1 rfl) ?_
                  refine hb_get hx hb hts hown hC_Md hK hP f74 9 (by decide) rfl fl_Md_20 rfl d_Md_charge_140 ?_
                  refine lv_iload hx hb d_Md_charge_143 (lv_at hl 0 rfl) ?_
                  refine va_iald hx hb hK (hP.one f78) 0 0 rfl rfl (vp_in_nI (by omega) (by omega)) d_Md_charge_145 ?_
                  refine W.eq (g2 := F0 m 146 ls [.int (ac j), .ref b0]) (by rw [nI_clamp (show j < 2 ^ 31 by omega)]) ?_
                  refine W.eq (g2 := F0 m 146 ls [.int (nI ka), .ref b0]) (by rw [hac]) ?_
                  refine lv_dup2_11 hx hb d_Md_charge_146 rfl rfl ?_
                  refine va_lald hx hb hK (hP.one f75) 0 1 rfl rfl (vp_in_nI (by omega) (by omega)) d_Md_charge_147 ?_
                  refine W.eq (g2 := F0 m 148 ls [.long (bal ka), .int (nI ka), .ref b0]) (by rw [nI_clamp (show ka < 2 ^ 31 by omega)]) ?_
                  refine lv_lload_n hx hb d_Md_charge_148 rfl (lv_at hl 3 rfl) ?_
                  refine lv_ladd hx hb d_Md_charge_149 ?_
                  refine hb_last hx hb hK hP hD hS f75 (vp_in_nI (by omega) (by omega)) d_Md_charge_150 (fun M84 H locs eM85 hP hD hS => ?_)
                  rw [nI_clamp (show ka < 2 ^ 31 by omega)] at eM85
                  have f86 : M84 b0 = some (.inl (cJ, 16, .inr (.inl (vp_updL bal ka ((bal ka) + am))))) := by rw [eM85]; exact hb_up_self
                  have f87 : M84 b11 = some (.inl (cI, 60, .inl (upd dl j (tm + pa)))) := by rw [eM85, hb_up_ne (hap.ne 11 0 (by decide) rfl rfl)]; exact f71
                  have f88 : M84 b10 = some (.inl (cJ, 60, .inr (.inl (vp_updL dd j am)))) := by rw [eM85, hb_up_ne (hap.ne 10 0 (by decide) rfl rfl)]; exact f72
                  have f89 : M84 b9 = some (.inl (cI, 60, .inl (upd ds j 1))) := by rw [eM85, hb_up_ne (hap.ne 9 0 (by decide) rfl rfl)]; exact f73
                  have f90 : M84 y = some (.inr (4, [.int 0, .int ho, .int pa, .int tm, .int (nI na), .ref b0, .ref b1, .int (nI np), .ref b2, .ref b3, .ref b4, .ref b5, .ref b6, .ref b7, .ref b8, .ref b9, .ref b10, .ref b11])) := by rw [eM85, hb_up_ne (fun q9 => by rw [q9, f75] at f74; cases f74)]; exact f74
                  have f91 : M84 b1 = some (.inl (cJ, 16, .inr (.inl mi))) := by rw [eM85, hb_up_ne (hap.ne 1 0 (by decide) rfl rfl)]; exact f76
                  have f92 : M84 b2 = some (.inl (cI, 60, .inl ky)) := by rw [eM85, hb_up_ne (hap.ne 2 0 (by decide) rfl rfl)]; exact f77
                  have f93 : M84 b3 = some (.inl (cI, 60, .inl ac)) := by rw [eM85, hb_up_ne (hap.ne 3 0 (by decide) rfl rfl)]; exact f78
                  have f94 : M84 b4 = some (.inl (cI, 60, .inl st)) := by rw [eM85, hb_up_ne (hap.ne 4 0 (by decide) rfl rfl)]; exact f79
                  have f95 : M84 b5 = some (.inl (cJ, 60, .inr (.inl he))) := by rw [eM85, hb_up_ne (hap.ne 5 0 (by decide) rfl rfl)]; exact f80
                  have f96 : M84 b6 = some (.inl (cJ, 60, .inr (.inl cl))) := by rw [eM85, hb_up_ne (hap.ne 6 0 (by decide) rfl rfl)]; exact f81
                  have f97 : M84 b7 = some (.inl (cI, 60, .inl un)) := by rw [eM85, hb_up_ne (hap.ne 7 0 (by decide) rfl rfl)]; exact f82
                  have f98 : M84 b8 = some (.inl (cI, 60, .inl dn)) := by rw [eM85, hb_up_ne (hap.ne 8 0 (by decide) rfl rfl)]; exact f83
                  refine lv_iconst (v := 1) hx hb d_Md_charge_151 (by decide) ?_
                  exact hb_iret hAe hx hb hr hlocks hP hD hS (Nat.le_of_ble_eq_true rfl) (Nat.le_of_ble_eq_true rfl) (⟨rfl, ⟨f90, f86, f91, f92, f93, f94, f95, f96, f97, f98, f89, f88, f87, hap⟩⟩) d_Md_charge_152
                · skip
                  have c38n := hb_gt c38
                  exact absurd c38n hmu
              · skip
                have c37n := hb_gti c37
                exact absurd c37n hld
            · skip
              exact absurd hd0 c36
        · skip
          have c34n := hb_gti c34
          exact absurd c34n (nI_pos (by omega))
      · skip
        exfalso; revert c27; decide
set_option maxHeartbeats 4000000 in
set_option maxRecDepth 100000 in
/-- represent: no -/
theorem c_Md_represent_no {l : Launch} {s0 : State} {D : va_G} {cI cJ cO : ClassId} {e0 mi : Nat} (hE : hb_E l s0 D cI cJ cO e0 mi) (M : hb_M) (y b0 b1 b2 b3 b4 b5 b6 b7 b8 b9 b10 b11 : Nat) (cd ho pa tm : Int32) (na np : Nat) (bal mi : Nat → Int64) (ky ac st : Nat → Int32) (he cl : Nat → Int64) (un dn ds : Nat → Int32) (dd : Nat → Int64) (dl : Nat → Int32) (h : mR cI cJ M y b0 b1 b2 b3 b4 b5 b6 b7 b8 b9 b10 b11 cd ho pa tm na np bal mi ky ac st he cl un dn ds dd dl) (hna : na ≤ 16) (hnp : np ≤ 60) (k : Int32) (hpl : hb_plc ky k np = -1) (hkk : ¬ (k < 0 ∨ 1000000 < k)) : hb_Met l D hb_cl s0 y_Md_represent b_Md_represent 3 (some .int) { frames := 3, cells := 0, slots := 0, locals := 100 } [.ref y, .int k] M (fun v M1 => v = some (.int (-6)) ∧ mR cI cJ M1 y b0 b1 b2 b3 b4 b5 b6 b7 b8 b9 b10 b11 0 ho pa tm na np bal mi ky ac st he cl un dn ds dd dl) := by
  refine hb_Met.of (by decide) (Nat.le_of_ble_eq_true rfl) ?_
  intro p e s m below meth c A hAe hX hz hP hD hA hS ls hl
  obtain ⟨hx, hb, hr, hml, hown, hlocks, hnm, hG, hnh⟩ := id hX
  have hown : s.vm.findClass "HoldBookModel" = some m.cls := hown
  have hts := hE.ts hG ([.ref y, .int k] : List Value).toArray
  have hK := hE.kn hG
  have hl : lv_has ls 3 [(0, .ref y), (1, .int k)] := hl
  obtain ⟨fy, g0, g1, g2, g3, g4, g5, g6, g7, g8, g9, g10, g11, hap⟩ := id h
  refine lv_aload_n hx hb d_Md_represent_0 rfl (lv_at hl 0 rfl) ?_
  refine lv_iload_n hx hb d_Md_represent_1 rfl (lv_at hl 1 rfl) ?_
  refine hb_callS (rest := [.ref y]) hX hts hb_gd Y_Md_isKey (c_Md_isKey hE M k) ml_Md_75 st_Md_isKey hz hP hD hS hA rfl hl.1 rfl (Nat.le_of_ble_eq_true rfl) ⟨Nat.le_of_ble_eq_true rfl, Nat.le_of_ble_eq_true rfl⟩ ⟨Nat.le_of_ble_eq_true rfl, Nat.le_of_ble_eq_true rfl⟩ d_Md_represent_2 (fun v3 M1 H locs hq2 hP hD hS _ hkp => ?_)
  obtain ⟨ev4, eM5⟩ := hq2
  rw [if_neg hkk] at ev4
  subst ev4
  rw [eM5] at hP hD
  refine W.eq (g2 := F0 m 5 ls [.int 1, .ref y]) rfl ?_
  have hm6 : mR cI cJ M y b0 b1 b2 b3 b4 b5 b6 b7 b8 b9 b10 b11 cd ho pa tm na np bal mi ky ac st he cl un dn ds dd dl := ⟨fy, g0, g1, g2, g3, g4, g5, g6, g7, g8, g9, g10, g11, hap⟩
  refine hb_callV (rest := []) hX hts hb_gd Y_Md_goes (c_Md_goes hE M y b0 b1 b2 b3 b4 b5 b6 b7 b8 b9 b10 b11 cd ho pa tm na np bal mi ky ac st he cl un dn ds dd dl hm6 (by omega) (by omega) 1 (by decide)) ml_Md_83 im_Md_goes se_Md_goes hK fy hC_Md.1 hz hP hD hS hA rfl hl.1 rfl (Nat.le_of_ble_eq_true rfl) ⟨Nat.le_of_ble_eq_true rfl, Nat.le_of_ble_eq_true rfl⟩ ⟨Nat.le_of_ble_eq_true rfl, Nat.le_of_ble_eq_true rfl⟩ d_Md_represent_5 (fun v9 M7 H locs hq8 hP hD hS _ hkp => ?_)
  obtain ⟨ev10, h11⟩ := hq8
  subst ev10
  rw [if_neg (by decide : ¬ (1 : Int32) = 0)] at h11
  obtain ⟨fy12, g13, g14, g15, g16, g17, g18, g19, g20, g21, g22, g23, g24, -⟩ := id h11
  refine W.eq (g2 := F0 m 8 ls [.int 1]) rfl ?_
  refine lv_if_ne (tgt := 13) hx hb d_Md_represent_8 (by decide) (fun c25 => ?_) (fun c25 => ?_)
  · skip
    refine lv_aload_n hx hb d_Md_represent_13 rfl (lv_at hl 0 rfl) ?_
    refine lv_iload_n hx hb d_Md_represent_14 rfl (lv_at hl 1 rfl) ?_
    have hm26 : mR cI cJ M7 y b0 b1 b2 b3 b4 b5 b6 b7 b8 b9 b10 b11 0 ho pa tm na np bal mi ky ac st he cl un dn ds dd dl := ⟨fy12, g13, g14, g15, g16, g17, g18, g19, g20, g21, g22, g23, g24, hap⟩
    refine hb_callV (rest := []) hX hts hb_gd Y_Md_place (c_Md_place hE M7 y b0 b1 b2 b3 b4 b5 b6 b7 b8 b9 b10 b11 0 ho pa tm na np bal mi ky ac st he cl un dn ds dd dl hm26 (by omega) (by omega) k) ml_Md_87 im_Md_place se_Md_place hK fy12 hC_Md.1 hz hP hD hS hA rfl hl.1 rfl (Nat.le_of_ble_eq_true rfl) ⟨Nat.le_of_ble_eq_true rfl, Nat.le_of_ble_eq_true rfl⟩ ⟨Nat.le_of_ble_eq_true rfl, Nat.le_of_ble_eq_true rfl⟩ d_Md_represent_15 (fun v29 M27 H locs hq28 hP hD hS _ hkp => ?_)
    obtain ⟨ev30, eM31⟩ := hq28
    subst ev30
    rw [eM31] at hP hD
    refine W.eq (g2 := F0 m 18 ls [.int (hb_plc ky k np)]) rfl ?_
    refine W.eq (g2 := F0 m 18 ls [.int (-1)]) (by rw [hpl]) ?_
    refine lv_istore_n (lv' := [(2, .int (-1)), (0, .ref y), (1, .int k)]) hx hb d_Md_represent_18 rfl hl (by decide) rfl (fun ls hl => ?_)
    refine lv_iload_n hx hb d_Md_represent_19 rfl (lv_at hl 0 rfl) ?_
    refine lv_if_lt (tgt := 33) hx hb d_Md_represent_20 (by decide) (fun c32 => ?_) (fun c32 => ?_)
    · skip
      refine lv_iload_n hx hb d_Md_represent_33 rfl (lv_at hl 0 rfl) ?_
      refine lv_if_ge (tgt := 42) hx hb d_Md_represent_34 (by decide) (fun c33 => ?_) (fun c33 => ?_)
      · skip
        have c33n := hb_ngti c33
        exfalso; revert c33; decide
      · skip
        have c33n := hb_gti c33
        refine lv_bipush (v := (-6)) hx hb d_Md_represent_37 (by decide) ?_
        refine lv_goto (tgt := 44) hx hb d_Md_represent_39 (by decide) ?_
        exact hb_iret hAe hx hb hr hlocks hP hD hS (Nat.le_of_ble_eq_true rfl) (Nat.le_of_ble_eq_true rfl) (⟨rfl, ⟨fy12, g13, g14, g15, g16, g17, g18, g19, g20, g21, g22, g23, g24, hap⟩⟩) d_Md_represent_44
    · skip
      exfalso; revert c32; decide
  · skip
    exfalso; revert c25; decide
set_option maxHeartbeats 4000000 in
set_option maxRecDepth 100000 in
/-- represent: st -/
theorem c_Md_represent_st {l : Launch} {s0 : State} {D : va_G} {cI cJ cO : ClassId} {e0 mi : Nat} (hE : hb_E l s0 D cI cJ cO e0 mi) (M : hb_M) (y b0 b1 b2 b3 b4 b5 b6 b7 b8 b9 b10 b11 : Nat) (cd ho pa tm : Int32) (na np : Nat) (bal mi : Nat → Int64) (ky ac st : Nat → Int32) (he cl : Nat → Int64) (un dn ds : Nat → Int32) (dd : Nat → Int64) (dl : Nat → Int32) (h : mR cI cJ M y b0 b1 b2 b3 b4 b5 b6 b7 b8 b9 b10 b11 cd ho pa tm na np bal mi ky ac st he cl un dn ds dd dl) (hna : na ≤ 16) (hnp : np ≤ 60) (k : Int32) (j : Nat) (hj : j < np) (hpl : hb_plc ky k np = nI j) (hkk : ¬ (k < 0 ∨ 1000000 < k)) (hs : ds j ≠ 1) : hb_Met l D hb_cl s0 y_Md_represent b_Md_represent 3 (some .int) { frames := 3, cells := 0, slots := 0, locals := 100 } [.ref y, .int k] M (fun v M1 => v = some (.int (-9)) ∧ mR cI cJ M1 y b0 b1 b2 b3 b4 b5 b6 b7 b8 b9 b10 b11 0 ho pa tm na np bal mi ky ac st he cl un dn ds dd dl) := by
  refine hb_Met.of (by decide) (Nat.le_of_ble_eq_true rfl) ?_
  intro p e s m below meth c A hAe hX hz hP hD hA hS ls hl
  obtain ⟨hx, hb, hr, hml, hown, hlocks, hnm, hG, hnh⟩ := id hX
  have hown : s.vm.findClass "HoldBookModel" = some m.cls := hown
  have hts := hE.ts hG ([.ref y, .int k] : List Value).toArray
  have hK := hE.kn hG
  have hl : lv_has ls 3 [(0, .ref y), (1, .int k)] := hl
  obtain ⟨fy, g0, g1, g2, g3, g4, g5, g6, g7, g8, g9, g10, g11, hap⟩ := id h
  refine lv_aload_n hx hb d_Md_represent_0 rfl (lv_at hl 0 rfl) ?_
  refine lv_iload_n hx hb d_Md_represent_1 rfl (lv_at hl 1 rfl) ?_
  refine hb_callS (rest := [.ref y]) hX hts hb_gd Y_Md_isKey (c_Md_isKey hE M k) ml_Md_75 st_Md_isKey hz hP hD hS hA rfl hl.1 rfl (Nat.le_of_ble_eq_true rfl) ⟨Nat.le_of_ble_eq_true rfl, Nat.le_of_ble_eq_true rfl⟩ ⟨Nat.le_of_ble_eq_true rfl, Nat.le_of_ble_eq_true rfl⟩ d_Md_represent_2 (fun v3 M1 H locs hq2 hP hD hS _ hkp => ?_)
  obtain ⟨ev4, eM5⟩ := hq2
  rw [if_neg hkk] at ev4
  subst ev4
  rw [eM5] at hP hD
  refine W.eq (g2 := F0 m 5 ls [.int 1, .ref y]) rfl ?_
  have hm6 : mR cI cJ M y b0 b1 b2 b3 b4 b5 b6 b7 b8 b9 b10 b11 cd ho pa tm na np bal mi ky ac st he cl un dn ds dd dl := ⟨fy, g0, g1, g2, g3, g4, g5, g6, g7, g8, g9, g10, g11, hap⟩
  refine hb_callV (rest := []) hX hts hb_gd Y_Md_goes (c_Md_goes hE M y b0 b1 b2 b3 b4 b5 b6 b7 b8 b9 b10 b11 cd ho pa tm na np bal mi ky ac st he cl un dn ds dd dl hm6 (by omega) (by omega) 1 (by decide)) ml_Md_83 im_Md_goes se_Md_goes hK fy hC_Md.1 hz hP hD hS hA rfl hl.1 rfl (Nat.le_of_ble_eq_true rfl) ⟨Nat.le_of_ble_eq_true rfl, Nat.le_of_ble_eq_true rfl⟩ ⟨Nat.le_of_ble_eq_true rfl, Nat.le_of_ble_eq_true rfl⟩ d_Md_represent_5 (fun v9 M7 H locs hq8 hP hD hS _ hkp => ?_)
  obtain ⟨ev10, h11⟩ := hq8
  subst ev10
  rw [if_neg (by decide : ¬ (1 : Int32) = 0)] at h11
  obtain ⟨fy12, g13, g14, g15, g16, g17, g18, g19, g20, g21, g22, g23, g24, -⟩ := id h11
  refine W.eq (g2 := F0 m 8 ls [.int 1]) rfl ?_
  refine lv_if_ne (tgt := 13) hx hb d_Md_represent_8 (by decide) (fun c25 => ?_) (fun c25 => ?_)
  · skip
    refine lv_aload_n hx hb d_Md_represent_13 rfl (lv_at hl 0 rfl) ?_
    refine lv_iload_n hx hb d_Md_represent_14 rfl (lv_at hl 1 rfl) ?_
    have hm26 : mR cI cJ M7 y b0 b1 b2 b3 b4 b5 b6 b7 b8 b9 b10 b11 0 ho pa tm na np bal mi ky ac st he cl un dn ds dd dl := ⟨fy12, g13, g14, g15, g16, g17, g18, g19, g20, g21, g22, g23, g24, hap⟩
    refine hb_callV (rest := []) hX hts hb_gd Y_Md_place (c_Md_place hE M7 y b0 b1 b2 b3 b4 b5 b6 b7 b8 b9 b10 b11 0 ho pa tm na np bal mi ky ac st he cl un dn ds dd dl hm26 (by omega) (by omega) k) ml_Md_87 im_Md_place se_Md_place hK fy12 hC_Md.1 hz hP hD hS hA rfl hl.1 rfl (Nat.le_of_ble_eq_true rfl) ⟨Nat.le_of_ble_eq_true rfl, Nat.le_of_ble_eq_true rfl⟩ ⟨Nat.le_of_ble_eq_true rfl, Nat.le_of_ble_eq_true rfl⟩ d_Md_represent_15 (fun v29 M27 H locs hq28 hP hD hS _ hkp => ?_)
    obtain ⟨ev30, eM31⟩ := hq28
    subst ev30
    rw [eM31] at hP hD
    refine W.eq (g2 := F0 m 18 ls [.int (hb_plc ky k np)]) rfl ?_
    refine W.eq (g2 := F0 m 18 ls [.int (nI j)]) (by rw [hpl]) ?_
    refine lv_istore_n (lv' := [(2, .int (nI j)), (0, .ref y), (1, .int k)]) hx hb d_Md_represent_18 rfl hl (by decide) rfl (fun ls hl => ?_)
    refine lv_iload_n hx hb d_Md_represent_19 rfl (lv_at hl 0 rfl) ?_
    refine lv_if_lt (tgt := 33) hx hb d_Md_represent_20 (by decide) (fun c32 => ?_) (fun c32 => ?_)
    · skip
      exact absurd c32 (nI_pos (by omega))
    · skip
      refine lv_aload_n hx hb d_Md_represent_23 rfl (lv_at hl 1 rfl) ?_
      refine hb_get hx hb hts hown hC_Md hK hP fy12 15 (by decide) rfl fl_Md_38 rfl d_Md_represent_24 ?_
      refine lv_iload_n hx hb d_Md_represent_27 rfl (lv_at hl 0 rfl) ?_
      refine va_iald hx hb hK (hP.one g22) 0 0 rfl rfl (vp_in_nI (by omega) (by omega)) d_Md_represent_28 ?_
      refine W.eq (g2 := F0 m 29 ls [.int (ds j)]) (by rw [nI_clamp (show j < 2 ^ 31 by omega)]) ?_
      refine lv_iconst (v := 1) hx hb d_Md_represent_29 (by decide) ?_
      refine lv_icmp_eq (tgt := 45) hx hb d_Md_represent_30 (by decide) (fun c33 => ?_) (fun c33 => ?_)
      · skip
        exact absurd c33 hs
      · skip
        refine lv_iload_n hx hb d_Md_represent_33 rfl (lv_at hl 0 rfl) ?_
        refine lv_if_ge (tgt := 42) hx hb d_Md_represent_34 (by decide) (fun c34 => ?_) (fun c34 => ?_)
        · skip
          have c34n := hb_ngti c34
          refine lv_bipush (v := (-9)) hx hb d_Md_represent_42 (by decide) ?_
          exact hb_iret hAe hx hb hr hlocks hP hD hS (Nat.le_of_ble_eq_true rfl) (Nat.le_of_ble_eq_true rfl) (⟨rfl, ⟨fy12, g13, g14, g15, g16, g17, g18, g19, g20, g21, g22, g23, g24, hap⟩⟩) d_Md_represent_44
        · skip
          have c34n := hb_gti c34
          exact absurd c34n (nI_pos (by omega))
  · skip
    exfalso; revert c25; decide
set_option maxHeartbeats 4000000 in
set_option maxRecDepth 100000 in
/-- represent: ok -/
theorem c_Md_represent_ok {l : Launch} {s0 : State} {D : va_G} {cI cJ cO : ClassId} {e0 mi : Nat} (hE : hb_E l s0 D cI cJ cO e0 mi) (M : hb_M) (y b0 b1 b2 b3 b4 b5 b6 b7 b8 b9 b10 b11 : Nat) (cd ho pa tm : Int32) (na np : Nat) (bal mi : Nat → Int64) (ky ac st : Nat → Int32) (he cl : Nat → Int64) (un dn ds : Nat → Int32) (dd : Nat → Int64) (dl : Nat → Int32) (h : mR cI cJ M y b0 b1 b2 b3 b4 b5 b6 b7 b8 b9 b10 b11 cd ho pa tm na np bal mi ky ac st he cl un dn ds dd dl) (hna : na ≤ 16) (hnp : np ≤ 60) (k : Int32) (j : Nat) (hj : j < np) (hpl : hb_plc ky k np = nI j) (hkk : ¬ (k < 0 ∨ 1000000 < k)) (hs : ds j = 1) : hb_Met l D hb_cl s0 y_Md_represent b_Md_represent 3 (some .int) { frames := 3, cells := 0, slots := 0, locals := 100 } [.ref y, .int k] M (fun v M1 => v = some (.int 1) ∧ mR cI cJ M1 y b0 b1 b2 b3 b4 b5 b6 b7 b8 b9 b10 b11 0 ho pa tm na np bal mi ky ac st he cl un dn (upd ds j 2) dd (upd dl j (tm + pa))) := by
  refine hb_Met.of (by decide) (Nat.le_of_ble_eq_true rfl) ?_
  intro p e s m below meth c A hAe hX hz hP hD hA hS ls hl
  obtain ⟨hx, hb, hr, hml, hown, hlocks, hnm, hG, hnh⟩ := id hX
  have hown : s.vm.findClass "HoldBookModel" = some m.cls := hown
  have hts := hE.ts hG ([.ref y, .int k] : List Value).toArray
  have hK := hE.kn hG
  have hl : lv_has ls 3 [(0, .ref y), (1, .int k)] := hl
  obtain ⟨fy, g0, g1, g2, g3, g4, g5, g6, g7, g8, g9, g10, g11, hap⟩ := id h
  refine lv_aload_n hx hb d_Md_represent_0 rfl (lv_at hl 0 rfl) ?_
  refine lv_iload_n hx hb d_Md_represent_1 rfl (lv_at hl 1 rfl) ?_
  refine hb_callS (rest := [.ref y]) hX hts hb_gd Y_Md_isKey (c_Md_isKey hE M k) ml_Md_75 st_Md_isKey hz hP hD hS hA rfl hl.1 rfl (Nat.le_of_ble_eq_true rfl) ⟨Nat.le_of_ble_eq_true rfl, Nat.le_of_ble_eq_true rfl⟩ ⟨Nat.le_of_ble_eq_true rfl, Nat.le_of_ble_eq_true rfl⟩ d_Md_represent_2 (fun v3 M1 H locs hq2 hP hD hS _ hkp => ?_)
  obtain ⟨ev4, eM5⟩ := hq2
  rw [if_neg hkk] at ev4
  subst ev4
  rw [eM5] at hP hD
  refine W.eq (g2 := F0 m 5 ls [.int 1, .ref y]) rfl ?_
  have hm6 : mR cI cJ M y b0 b1 b2 b3 b4 b5 b6 b7 b8 b9 b10 b11 cd ho pa tm na np bal mi ky ac st he cl un dn ds dd dl := ⟨fy, g0, g1, g2, g3, g4, g5, g6, g7, g8, g9, g10, g11, hap⟩
  refine hb_callV (rest := []) hX hts hb_gd Y_Md_goes (c_Md_goes hE M y b0 b1 b2 b3 b4 b5 b6 b7 b8 b9 b10 b11 cd ho pa tm na np bal mi ky ac st he cl un dn ds dd dl hm6 (by omega) (by omega) 1 (by decide)) ml_Md_83 im_Md_goes se_Md_goes hK fy hC_Md.1 hz hP hD hS hA rfl hl.1 rfl (Nat.le_of_ble_eq_true rfl) ⟨Nat.le_of_ble_eq_true rfl, Nat.le_of_ble_eq_true rfl⟩ ⟨Nat.le_of_ble_eq_true rfl, Nat.le_of_ble_eq_true rfl⟩ d_Md_represent_5 (fun v9 M7 H locs hq8 hP hD hS _ hkp => ?_)
  obtain ⟨ev10, h11⟩ := hq8
  subst ev10
  rw [if_neg (by decide : ¬ (1 : Int32) = 0)] at h11
  obtain ⟨fy12, g13, g14, g15, g16, g17, g18, g19, g20, g21, g22, g23, g24, -⟩ := id h11
  refine W.eq (g2 := F0 m 8 ls [.int 1]) rfl ?_
  refine lv_if_ne (tgt := 13) hx hb d_Md_represent_8 (by decide) (fun c25 => ?_) (fun c25 => ?_)
  · skip
    refine lv_aload_n hx hb d_Md_represent_13 rfl (lv_at hl 0 rfl) ?_
    refine lv_iload_n hx hb d_Md_represent_14 rfl (lv_at hl 1 rfl) ?_
    have hm26 : mR cI cJ M7 y b0 b1 b2 b3 b4 b5 b6 b7 b8 b9 b10 b11 0 ho pa tm na np bal mi ky ac st he cl un dn ds dd dl := ⟨fy12, g13, g14, g15, g16, g17, g18, g19, g20, g21, g22, g23, g24, hap⟩
    refine hb_callV (rest := []) hX hts hb_gd Y_Md_place (c_Md_place hE M7 y b0 b1 b2 b3 b4 b5 b6 b7 b8 b9 b10 b11 0 ho pa tm na np bal mi ky ac st he cl un dn ds dd dl hm26 (by omega) (by omega) k) ml_Md_87 im_Md_place se_Md_place hK fy12 hC_Md.1 hz hP hD hS hA rfl hl.1 rfl (Nat.le_of_ble_eq_true rfl) ⟨Nat.le_of_ble_eq_true rfl, Nat.le_of_ble_eq_true rfl⟩ ⟨Nat.le_of_ble_eq_true rfl, Nat.le_of_ble_eq_true rfl⟩ d_Md_represent_15 (fun v29 M27 H locs hq28 hP hD hS _ hkp => ?_)
    obtain ⟨ev30, eM31⟩ := hq28
    subst ev30
    rw [eM31] at hP hD
    refine W.eq (g2 := F0 m 18 ls [.int (hb_plc ky k np)]) rfl ?_
    refine W.eq (g2 := F0 m 18 ls [.int (nI j)]) (by rw [hpl]) ?_
    refine lv_istore_n (lv' := [(2, .int (nI j)), (0, .ref y), (1, .int k)]) hx hb d_Md_represent_18 rfl hl (by decide) rfl (fun ls hl => ?_)
    refine lv_iload_n hx hb d_Md_represent_19 rfl (lv_at hl 0 rfl) ?_
    refine lv_if_lt (tgt := 33) hx hb d_Md_represent_20 (by decide) (fun c32 => ?_) (fun c32 => ?_)
    · skip
      exact absurd c32 (nI_pos (by omega))
    · skip
      refine lv_aload_n hx hb d_Md_represent_23 rfl (lv_at hl 1 rfl) ?_
      refine hb_get hx hb hts hown hC_Md hK hP fy12 15 (by decide) rfl fl_Md_38 rfl d_Md_represent_24 ?_
      refine lv_iload_n hx hb d_Md_represent_27 rfl (lv_at hl 0 rfl) ?_
      refine va_iald hx hb hK (hP.one g22) 0 0 rfl rfl (vp_in_nI (by omega) (by omega)) d_Md_represent_28 ?_
      refine W.eq (g2 := F0 m 29 ls [.int (ds j)]) (by rw [nI_clamp (show j < 2 ^ 31 by omega)]) ?_
      refine lv_iconst (v := 1) hx hb d_Md_represent_29 (by decide) ?_
      refine lv_icmp_eq (tgt := 45) hx hb d_Md_represent_30 (by decide) (fun c33 => ?_) (fun c33 => ?_)
      · skip
        refine lv_aload_n hx hb d_Md_represent_45 rfl (lv_at hl 1 rfl) ?_
        refine hb_get hx hb hts hown hC_Md hK hP fy12 15 (by decide) rfl fl_Md_38 rfl d_Md_represent_46 ?_
        refine lv_iload_n hx hb d_Md_represent_49 rfl (lv_at hl 0 rfl) ?_
        refine lv_iconst (v := 2) hx hb d_Md_represent_50 (by decide) ?_
        refine hb_iast hx hb hK hP hD hS g22 (vp_in_nI (by omega) (by omega)) d_Md_represent_51 (fun M34 H locs eM35 hP hD hS => ?_)
        rw [nI_clamp (show j < 2 ^ 31 by omega)] at eM35
        have f36 : M34 b9 = some (.inl (cI, 60, .inl (upd ds j 2))) := by rw [eM35]; exact hb_up_self
        have f37 : M34 y = some (.inr (4, [.int 0, .int ho, .int pa, .int tm, .int (nI na), .ref b0, .ref b1, .int (nI np), .ref b2, .ref b3, .ref b4, .ref b5, .ref b6, .ref b7, .ref b8, .ref b9, .ref b10, .ref b11])) := by rw [eM35, hb_up_ne (fun q9 => by rw [q9, g22] at fy12; cases fy12)]; exact fy12
        have f38 : M34 b0 = some (.inl (cJ, 16, .inr (.inl bal))) := by rw [eM35, hb_up_ne (hap.ne 0 9 (by decide) rfl rfl)]; exact g13
        have f39 : M34 b1 = some (.inl (cJ, 16, .inr (.inl mi))) := by rw [eM35, hb_up_ne (hap.ne 1 9 (by decide) rfl rfl)]; exact g14
        have f40 : M34 b2 = some (.inl (cI, 60, .inl ky)) := by rw [eM35, hb_up_ne (hap.ne 2 9 (by decide) rfl rfl)]; exact g15
        have f41 : M34 b3 = some (.inl (cI, 60, .inl ac)) := by rw [eM35, hb_up_ne (hap.ne 3 9 (by decide) rfl rfl)]; exact g16
        have f42 : M34 b4 = some (.inl (cI, 60, .inl st)) := by rw [eM35, hb_up_ne (hap.ne 4 9 (by decide) rfl rfl)]; exact g17
        have f43 : M34 b5 = some (.inl (cJ, 60, .inr (.inl he))) := by rw [eM35, hb_up_ne (hap.ne 5 9 (by decide) rfl rfl)]; exact g18
        have f44 : M34 b6 = some (.inl (cJ, 60, .inr (.inl cl))) := by rw [eM35, hb_up_ne (hap.ne 6 9 (by decide) rfl rfl)]; exact g19
        have f45 : M34 b7 = some (.inl (cI, 60, .inl un)) := by rw [eM35, hb_up_ne (hap.ne 7 9 (by decide) rfl rfl)]; exact g20
        have f46 : M34 b8 = some (.inl (cI, 60, .inl dn)) := by rw [eM35, hb_up_ne (hap.ne 8 9 (by decide) rfl rfl)]; exact g21
        have f47 : M34 b10 = some (.inl (cJ, 60, .inr (.inl dd))) := by rw [eM35, hb_up_ne (hap.ne 10 9 (by decide) rfl rfl)]; exact g23
        have f48 : M34 b11 = some (.inl (cI, 60, .inl dl)) := by rw [eM35, hb_up_ne (hap.ne 11 9 (by decide) rfl rfl)]; exact g24
        refine lv_aload_n hx hb d_Md_represent_52 rfl (lv_at hl 1 rfl) ?_
        refine hb_get hx hb hts hown hC_Md hK hP f37 17 (by decide) rfl fl_Md_44 rfl d_Md_represent_53 ?_
        refine lv_iload_n hx hb d_Md_represent_56 rfl (lv_at hl 0 rfl) ?_
        refine lv_aload_n hx hb d_Md_represent_57 rfl (lv_at hl 1 rfl) ?_
        refine hb_get hx hb hts hown hC_Md hK hP f37 3 (by decide) rfl fl_Md_104 rfl d_Md_represent_58 ?_
        refine lv_aload_n hx hb d_Md_represent_61 rfl (lv_at hl 1 rfl) ?_
        refine hb_get hx hb hts hown hC_Md hK hP f37 2 (by decide) rfl fl_Md_51 rfl d_Md_represent_62 ?_
        refine lv_iadd hx hb d_Md_represent_65 ?_
        refine hb_iast hx hb hK hP hD hS f48 (vp_in_nI (by omega) (by omega)) d_Md_represent_66 (fun M49 H locs eM50 hP hD hS => ?_)
        rw [nI_clamp (show j < 2 ^ 31 by omega)] at eM50
        have f51 : M49 b11 = some (.inl (cI, 60, .inl (upd dl j (tm + pa)))) := by rw [eM50]; exact hb_up_self
        have f52 : M49 b9 = some (.inl (cI, 60, .inl (upd ds j 2))) := by rw [eM50, hb_up_ne (hap.ne 9 11 (by decide) rfl rfl)]; exact f36
        have f53 : M49 y = some (.inr (4, [.int 0, .int ho, .int pa, .int tm, .int (nI na), .ref b0, .ref b1, .int (nI np), .ref b2, .ref b3, .ref b4, .ref b5, .ref b6, .ref b7, .ref b8, .ref b9, .ref b10, .ref b11])) := by rw [eM50, hb_up_ne (fun q9 => by rw [q9, f48] at f37; cases f37)]; exact f37
        have f54 : M49 b0 = some (.inl (cJ, 16, .inr (.inl bal))) := by rw [eM50, hb_up_ne (hap.ne 0 11 (by decide) rfl rfl)]; exact f38
        have f55 : M49 b1 = some (.inl (cJ, 16, .inr (.inl mi))) := by rw [eM50, hb_up_ne (hap.ne 1 11 (by decide) rfl rfl)]; exact f39
        have f56 : M49 b2 = some (.inl (cI, 60, .inl ky)) := by rw [eM50, hb_up_ne (hap.ne 2 11 (by decide) rfl rfl)]; exact f40
        have f57 : M49 b3 = some (.inl (cI, 60, .inl ac)) := by rw [eM50, hb_up_ne (hap.ne 3 11 (by decide) rfl rfl)]; exact f41
        have f58 : M49 b4 = some (.inl (cI, 60, .inl st)) := by rw [eM50, hb_up_ne (hap.ne 4 11 (by decide) rfl rfl)]; exact f42
        have f59 : M49 b5 = some (.inl (cJ, 60, .inr (.inl he))) := by rw [eM50, hb_up_ne (hap.ne 5 11 (by decide) rfl rfl)]; exact f43
        have f60 : M49 b6 = some (.inl (cJ, 60, .inr (.inl cl))) := by rw [eM50, hb_up_ne (hap.ne 6 11 (by decide) rfl rfl)]; exact f44
        have f61 : M49 b7 = some (.inl (cI, 60, .inl un)) := by rw [eM50, hb_up_ne (hap.ne 7 11 (by decide) rfl rfl)]; exact f45
        have f62 : M49 b8 = some (.inl (cI, 60, .inl dn)) := by rw [eM50, hb_up_ne (hap.ne 8 11 (by decide) rfl rfl)]; exact f46
        have f63 : M49 b10 = some (.inl (cJ, 60, .inr (.inl dd))) := by rw [eM50, hb_up_ne (hap.ne 10 11 (by decide) rfl rfl)]; exact f47
        refine lv_iconst (v := 1) hx hb d_Md_represent_67 (by decide) ?_
        exact hb_iret hAe hx hb hr hlocks hP hD hS (Nat.le_of_ble_eq_true rfl) (Nat.le_of_ble_eq_true rfl) (⟨rfl, ⟨f53, f54, f55, f56, f57, f58, f59, f60, f61, f62, f52, f63, f51, hap⟩⟩) d_Md_represent_68
      · skip
        exact absurd hs c33
  · skip
    exfalso; revert c25; decide
set_option maxHeartbeats 4000000 in
set_option maxRecDepth 100000 in
/-- decide: no -/
theorem c_Md_decide_no {l : Launch} {s0 : State} {D : va_G} {cI cJ cO : ClassId} {e0 mi : Nat} (hE : hb_E l s0 D cI cJ cO e0 mi) (M : hb_M) (y b0 b1 b2 b3 b4 b5 b6 b7 b8 b9 b10 b11 : Nat) (cd ho pa tm : Int32) (na np : Nat) (bal mi : Nat → Int64) (ky ac st : Nat → Int32) (he cl : Nat → Int64) (un dn ds : Nat → Int32) (dd : Nat → Int64) (dl : Nat → Int32) (h : mR cI cJ M y b0 b1 b2 b3 b4 b5 b6 b7 b8 b9 b10 b11 cd ho pa tm na np bal mi ky ac st he cl un dn ds dd dl) (hna : na ≤ 16) (hnp : np ≤ 60) (k : Int32) (hpl : hb_plc ky k np = -1) (hkk : ¬ (k < 0 ∨ 1000000 < k)) (w : Int32) : hb_Met l D hb_cl s0 y_Md_decide b_Md_decide 4 (some .int) { frames := 3, cells := 0, slots := 0, locals := 100 } [.ref y, .int k, .int w] M (fun v M1 => v = some (.int (-6)) ∧ mR cI cJ M1 y b0 b1 b2 b3 b4 b5 b6 b7 b8 b9 b10 b11 0 ho pa tm na np bal mi ky ac st he cl un dn ds dd dl) := by
  refine hb_Met.of (by decide) (Nat.le_of_ble_eq_true rfl) ?_
  intro p e s m below meth c A hAe hX hz hP hD hA hS ls hl
  obtain ⟨hx, hb, hr, hml, hown, hlocks, hnm, hG, hnh⟩ := id hX
  have hown : s.vm.findClass "HoldBookModel" = some m.cls := hown
  have hts := hE.ts hG ([.ref y, .int k, .int w] : List Value).toArray
  have hK := hE.kn hG
  have hl : lv_has ls 4 [(0, .ref y), (1, .int k), (2, .int w)] := hl
  obtain ⟨fy, g0, g1, g2, g3, g4, g5, g6, g7, g8, g9, g10, g11, hap⟩ := id h
  refine lv_aload_n hx hb d_Md_decide_0 rfl (lv_at hl 0 rfl) ?_
  refine lv_iload_n hx hb d_Md_decide_1 rfl (lv_at hl 1 rfl) ?_
  refine hb_callS (rest := [.ref y]) hX hts hb_gd Y_Md_isKey (c_Md_isKey hE M k) ml_Md_75 st_Md_isKey hz hP hD hS hA rfl hl.1 rfl (Nat.le_of_ble_eq_true rfl) ⟨Nat.le_of_ble_eq_true rfl, Nat.le_of_ble_eq_true rfl⟩ ⟨Nat.le_of_ble_eq_true rfl, Nat.le_of_ble_eq_true rfl⟩ d_Md_decide_2 (fun v3 M1 H locs hq2 hP hD hS _ hkp => ?_)
  obtain ⟨ev4, eM5⟩ := hq2
  rw [if_neg hkk] at ev4
  subst ev4
  rw [eM5] at hP hD
  refine W.eq (g2 := F0 m 5 ls [.int 1, .ref y]) rfl ?_
  have hm6 : mR cI cJ M y b0 b1 b2 b3 b4 b5 b6 b7 b8 b9 b10 b11 cd ho pa tm na np bal mi ky ac st he cl un dn ds dd dl := ⟨fy, g0, g1, g2, g3, g4, g5, g6, g7, g8, g9, g10, g11, hap⟩
  refine hb_callV (rest := []) hX hts hb_gd Y_Md_goes (c_Md_goes hE M y b0 b1 b2 b3 b4 b5 b6 b7 b8 b9 b10 b11 cd ho pa tm na np bal mi ky ac st he cl un dn ds dd dl hm6 (by omega) (by omega) 1 (by decide)) ml_Md_83 im_Md_goes se_Md_goes hK fy hC_Md.1 hz hP hD hS hA rfl hl.1 rfl (Nat.le_of_ble_eq_true rfl) ⟨Nat.le_of_ble_eq_true rfl, Nat.le_of_ble_eq_true rfl⟩ ⟨Nat.le_of_ble_eq_true rfl, Nat.le_of_ble_eq_true rfl⟩ d_Md_decide_5 (fun v9 M7 H locs hq8 hP hD hS _ hkp => ?_)
  obtain ⟨ev10, h11⟩ := hq8
  subst ev10
  rw [if_neg (by decide : ¬ (1 : Int32) = 0)] at h11
  obtain ⟨fy12, g13, g14, g15, g16, g17, g18, g19, g20, g21, g22, g23, g24, -⟩ := id h11
  refine W.eq (g2 := F0 m 8 ls [.int 1]) rfl ?_
  refine lv_if_ne (tgt := 13) hx hb d_Md_decide_8 (by decide) (fun c25 => ?_) (fun c25 => ?_)
  · skip
    refine lv_aload_n hx hb d_Md_decide_13 rfl (lv_at hl 0 rfl) ?_
    refine lv_iload_n hx hb d_Md_decide_14 rfl (lv_at hl 1 rfl) ?_
    have hm26 : mR cI cJ M7 y b0 b1 b2 b3 b4 b5 b6 b7 b8 b9 b10 b11 0 ho pa tm na np bal mi ky ac st he cl un dn ds dd dl := ⟨fy12, g13, g14, g15, g16, g17, g18, g19, g20, g21, g22, g23, g24, hap⟩
    refine hb_callV (rest := []) hX hts hb_gd Y_Md_place (c_Md_place hE M7 y b0 b1 b2 b3 b4 b5 b6 b7 b8 b9 b10 b11 0 ho pa tm na np bal mi ky ac st he cl un dn ds dd dl hm26 (by omega) (by omega) k) ml_Md_87 im_Md_place se_Md_place hK fy12 hC_Md.1 hz hP hD hS hA rfl hl.1 rfl (Nat.le_of_ble_eq_true rfl) ⟨Nat.le_of_ble_eq_true rfl, Nat.le_of_ble_eq_true rfl⟩ ⟨Nat.le_of_ble_eq_true rfl, Nat.le_of_ble_eq_true rfl⟩ d_Md_decide_15 (fun v29 M27 H locs hq28 hP hD hS _ hkp => ?_)
    obtain ⟨ev30, eM31⟩ := hq28
    subst ev30
    rw [eM31] at hP hD
    refine W.eq (g2 := F0 m 18 ls [.int (hb_plc ky k np)]) rfl ?_
    refine W.eq (g2 := F0 m 18 ls [.int (-1)]) (by rw [hpl]) ?_
    refine lv_istore_n (lv' := [(3, .int (-1)), (0, .ref y), (1, .int k), (2, .int w)]) hx hb d_Md_decide_18 rfl hl (by decide) rfl (fun ls hl => ?_)
    refine lv_iload_n hx hb d_Md_decide_19 rfl (lv_at hl 0 rfl) ?_
    refine lv_if_lt (tgt := 33) hx hb d_Md_decide_20 (by decide) (fun c32 => ?_) (fun c32 => ?_)
    · skip
      refine lv_iload_n hx hb d_Md_decide_33 rfl (lv_at hl 0 rfl) ?_
      refine lv_if_ge (tgt := 42) hx hb d_Md_decide_34 (by decide) (fun c33 => ?_) (fun c33 => ?_)
      · skip
        have c33n := hb_ngti c33
        exfalso; revert c33; decide
      · skip
        have c33n := hb_gti c33
        refine lv_bipush (v := (-6)) hx hb d_Md_decide_37 (by decide) ?_
        refine lv_goto (tgt := 44) hx hb d_Md_decide_39 (by decide) ?_
        exact hb_iret hAe hx hb hr hlocks hP hD hS (Nat.le_of_ble_eq_true rfl) (Nat.le_of_ble_eq_true rfl) (⟨rfl, ⟨fy12, g13, g14, g15, g16, g17, g18, g19, g20, g21, g22, g23, g24, hap⟩⟩) d_Md_decide_44
    · skip
      exfalso; revert c32; decide
  · skip
    exfalso; revert c25; decide
set_option maxHeartbeats 4000000 in
set_option maxRecDepth 100000 in
/-- decide: st -/
theorem c_Md_decide_st {l : Launch} {s0 : State} {D : va_G} {cI cJ cO : ClassId} {e0 mi : Nat} (hE : hb_E l s0 D cI cJ cO e0 mi) (M : hb_M) (y b0 b1 b2 b3 b4 b5 b6 b7 b8 b9 b10 b11 : Nat) (cd ho pa tm : Int32) (na np : Nat) (bal mi : Nat → Int64) (ky ac st : Nat → Int32) (he cl : Nat → Int64) (un dn ds : Nat → Int32) (dd : Nat → Int64) (dl : Nat → Int32) (h : mR cI cJ M y b0 b1 b2 b3 b4 b5 b6 b7 b8 b9 b10 b11 cd ho pa tm na np bal mi ky ac st he cl un dn ds dd dl) (hna : na ≤ 16) (hnp : np ≤ 60) (k : Int32) (j : Nat) (hj : j < np) (hpl : hb_plc ky k np = nI j) (hkk : ¬ (k < 0 ∨ 1000000 < k)) (w : Int32) (hs : ds j ≠ 2) : hb_Met l D hb_cl s0 y_Md_decide b_Md_decide 4 (some .int) { frames := 3, cells := 0, slots := 0, locals := 100 } [.ref y, .int k, .int w] M (fun v M1 => v = some (.int (-9)) ∧ mR cI cJ M1 y b0 b1 b2 b3 b4 b5 b6 b7 b8 b9 b10 b11 0 ho pa tm na np bal mi ky ac st he cl un dn ds dd dl) := by
  refine hb_Met.of (by decide) (Nat.le_of_ble_eq_true rfl) ?_
  intro p e s m below meth c A hAe hX hz hP hD hA hS ls hl
  obtain ⟨hx, hb, hr, hml, hown, hlocks, hnm, hG, hnh⟩ := id hX
  have hown : s.vm.findClass "HoldBookModel" = some m.cls := hown
  have hts := hE.ts hG ([.ref y, .int k, .int w] : List Value).toArray
  have hK := hE.kn hG
  have hl : lv_has ls 4 [(0, .ref y), (1, .int k), (2, .int w)] := hl
  obtain ⟨fy, g0, g1, g2, g3, g4, g5, g6, g7, g8, g9, g10, g11, hap⟩ := id h
  refine lv_aload_n hx hb d_Md_decide_0 rfl (lv_at hl 0 rfl) ?_
  refine lv_iload_n hx hb d_Md_decide_1 rfl (lv_at hl 1 rfl) ?_
  refine hb_callS (rest := [.ref y]) hX hts hb_gd Y_Md_isKey (c_Md_isKey hE M k) ml_Md_75 st_Md_isKey hz hP hD hS hA rfl hl.1 rfl (Nat.le_of_ble_eq_true rfl) ⟨Nat.le_of_ble_eq_true rfl, Nat.le_of_ble_eq_true rfl⟩ ⟨Nat.le_of_ble_eq_true rfl, Nat.le_of_ble_eq_true rfl⟩ d_Md_decide_2 (fun v3 M1 H locs hq2 hP hD hS _ hkp => ?_)
  obtain ⟨ev4, eM5⟩ := hq2
  rw [if_neg hkk] at ev4
  subst ev4
  rw [eM5] at hP hD
  refine W.eq (g2 := F0 m 5 ls [.int 1, .ref y]) rfl ?_
  have hm6 : mR cI cJ M y b0 b1 b2 b3 b4 b5 b6 b7 b8 b9 b10 b11 cd ho pa tm na np bal mi ky ac st he cl un dn ds dd dl := ⟨fy, g0, g1, g2, g3, g4, g5, g6, g7, g8, g9, g10, g11, hap⟩
  refine hb_callV (rest := []) hX hts hb_gd Y_Md_goes (c_Md_goes hE M y b0 b1 b2 b3 b4 b5 b6 b7 b8 b9 b10 b11 cd ho pa tm na np bal mi ky ac st he cl un dn ds dd dl hm6 (by omega) (by omega) 1 (by decide)) ml_Md_83 im_Md_goes se_Md_goes hK fy hC_Md.1 hz hP hD hS hA rfl hl.1 rfl (Nat.le_of_ble_eq_true rfl) ⟨Nat.le_of_ble_eq_true rfl, Nat.le_of_ble_eq_true rfl⟩ ⟨Nat.le_of_ble_eq_true rfl, Nat.le_of_ble_eq_true rfl⟩ d_Md_decide_5 (fun v9 M7 H locs hq8 hP hD hS _ hkp => ?_)
  obtain ⟨ev10, h11⟩ := hq8
  subst ev10
  rw [if_neg (by decide : ¬ (1 : Int32) = 0)] at h11
  obtain ⟨fy12, g13, g14, g15, g16, g17, g18, g19, g20, g21, g22, g23, g24, -⟩ := id h11
  refine W.eq (g2 := F0 m 8 ls [.int 1]) rfl ?_
  refine lv_if_ne (tgt := 13) hx hb d_Md_decide_8 (by decide) (fun c25 => ?_) (fun c25 => ?_)
  · skip
    refine lv_aload_n hx hb d_Md_decide_13 rfl (lv_at hl 0 rfl) ?_
    refine lv_iload_n hx hb d_Md_decide_14 rfl (lv_at hl 1 rfl) ?_
    have hm26 : mR cI cJ M7 y b0 b1 b2 b3 b4 b5 b6 b7 b8 b9 b10 b11 0 ho pa tm na np bal mi ky ac st he cl un dn ds dd dl := ⟨fy12, g13, g14, g15, g16, g17, g18, g19, g20, g21, g22, g23, g24, hap⟩
    refine hb_callV (rest := []) hX hts hb_gd Y_Md_place (c_Md_place hE M7 y b0 b1 b2 b3 b4 b5 b6 b7 b8 b9 b10 b11 0 ho pa tm na np bal mi ky ac st he cl un dn ds dd dl hm26 (by omega) (by omega) k) ml_Md_87 im_Md_place se_Md_place hK fy12 hC_Md.1 hz hP hD hS hA rfl hl.1 rfl (Nat.le_of_ble_eq_true rfl) ⟨Nat.le_of_ble_eq_true rfl, Nat.le_of_ble_eq_true rfl⟩ ⟨Nat.le_of_ble_eq_true rfl, Nat.le_of_ble_eq_true rfl⟩ d_Md_decide_15 (fun v29 M27 H locs hq28 hP hD hS _ hkp => ?_)
    obtain ⟨ev30, eM31⟩ := hq28
    subst ev30
    rw [eM31] at hP hD
    refine W.eq (g2 := F0 m 18 ls [.int (hb_plc ky k np)]) rfl ?_
    refine W.eq (g2 := F0 m 18 ls [.int (nI j)]) (by rw [hpl]) ?_
    refine lv_istore_n (lv' := [(3, .int (nI j)), (0, .ref y), (1, .int k), (2, .int w)]) hx hb d_Md_decide_18 rfl hl (by decide) rfl (fun ls hl => ?_)
    refine lv_iload_n hx hb d_Md_decide_19 rfl (lv_at hl 0 rfl) ?_
    refine lv_if_lt (tgt := 33) hx hb d_Md_decide_20 (by decide) (fun c32 => ?_) (fun c32 => ?_)
    · skip
      exact absurd c32 (nI_pos (by omega))
    · skip
      refine lv_aload_n hx hb d_Md_decide_23 rfl (lv_at hl 1 rfl) ?_
      refine hb_get hx hb hts hown hC_Md hK hP fy12 15 (by decide) rfl fl_Md_38 rfl d_Md_decide_24 ?_
      refine lv_iload_n hx hb d_Md_decide_27 rfl (lv_at hl 0 rfl) ?_
      refine va_iald hx hb hK (hP.one g22) 0 0 rfl rfl (vp_in_nI (by omega) (by omega)) d_Md_decide_28 ?_
      refine W.eq (g2 := F0 m 29 ls [.int (ds j)]) (by rw [nI_clamp (show j < 2 ^ 31 by omega)]) ?_
      refine lv_iconst (v := 2) hx hb d_Md_decide_29 (by decide) ?_
      refine lv_icmp_eq (tgt := 45) hx hb d_Md_decide_30 (by decide) (fun c33 => ?_) (fun c33 => ?_)
      · skip
        exact absurd c33 hs
      · skip
        refine lv_iload_n hx hb d_Md_decide_33 rfl (lv_at hl 0 rfl) ?_
        refine lv_if_ge (tgt := 42) hx hb d_Md_decide_34 (by decide) (fun c34 => ?_) (fun c34 => ?_)
        · skip
          have c34n := hb_ngti c34
          refine lv_bipush (v := (-9)) hx hb d_Md_decide_42 (by decide) ?_
          exact hb_iret hAe hx hb hr hlocks hP hD hS (Nat.le_of_ble_eq_true rfl) (Nat.le_of_ble_eq_true rfl) (⟨rfl, ⟨fy12, g13, g14, g15, g16, g17, g18, g19, g20, g21, g22, g23, g24, hap⟩⟩) d_Md_decide_44
        · skip
          have c34n := hb_gti c34
          exact absurd c34n (nI_pos (by omega))
  · skip
    exfalso; revert c25; decide
set_option maxHeartbeats 4000000 in
set_option maxRecDepth 100000 in
/-- decide: ok -/
theorem c_Md_decide_ok {l : Launch} {s0 : State} {D : va_G} {cI cJ cO : ClassId} {e0 mi : Nat} (hE : hb_E l s0 D cI cJ cO e0 mi) (M : hb_M) (y b0 b1 b2 b3 b4 b5 b6 b7 b8 b9 b10 b11 : Nat) (cd ho pa tm : Int32) (na np : Nat) (bal mi : Nat → Int64) (ky ac st : Nat → Int32) (he cl : Nat → Int64) (un dn ds : Nat → Int32) (dd : Nat → Int64) (dl : Nat → Int32) (h : mR cI cJ M y b0 b1 b2 b3 b4 b5 b6 b7 b8 b9 b10 b11 cd ho pa tm na np bal mi ky ac st he cl un dn ds dd dl) (hna : na ≤ 16) (hnp : np ≤ 60) (k : Int32) (j : Nat) (hj : j < np) (hpl : hb_plc ky k np = nI j) (hkk : ¬ (k < 0 ∨ 1000000 < k)) (w : Int32) (hs : ds j = 2) (ka : Nat) (hka : ka < 16) (hac : ac j = nI ka) : hb_Met l D hb_cl s0 y_Md_decide b_Md_decide 4 (some .int) { frames := 3, cells := 0, slots := 0, locals := 100 } [.ref y, .int k, .int w] M (fun v M1 => v = some (.int 1) ∧ mR cI cJ M1 y b0 b1 b2 b3 b4 b5 b6 b7 b8 b9 b10 b11 0 ho pa tm na np (vp_updL bal ka (bal ka - (if w = 0 then dd j else 0))) mi ky ac st he cl un dn (upd ds j (if w = 0 then 4 else 3)) dd (upd dl j (-1))) := by
  refine hb_Met.of (by decide) (Nat.le_of_ble_eq_true rfl) ?_
  intro p e s m below meth c A hAe hX hz hP hD hA hS ls hl
  obtain ⟨hx, hb, hr, hml, hown, hlocks, hnm, hG, hnh⟩ := id hX
  have hown : s.vm.findClass "HoldBookModel" = some m.cls := hown
  have hts := hE.ts hG ([.ref y, .int k, .int w] : List Value).toArray
  have hK := hE.kn hG
  have hl : lv_has ls 4 [(0, .ref y), (1, .int k), (2, .int w)] := hl
  obtain ⟨fy, g0, g1, g2, g3, g4, g5, g6, g7, g8, g9, g10, g11, hap⟩ := id h
  refine lv_aload_n hx hb d_Md_decide_0 rfl (lv_at hl 0 rfl) ?_
  refine lv_iload_n hx hb d_Md_decide_1 rfl (lv_at hl 1 rfl) ?_
  refine hb_callS (rest := [.ref y]) hX hts hb_gd Y_Md_isKey (c_Md_isKey hE M k) ml_Md_75 st_Md_isKey hz hP hD hS hA rfl hl.1 rfl (Nat.le_of_ble_eq_true rfl) ⟨Nat.le_of_ble_eq_true rfl, Nat.le_of_ble_eq_true rfl⟩ ⟨Nat.le_of_ble_eq_true rfl, Nat.le_of_ble_eq_true rfl⟩ d_Md_decide_2 (fun v3 M1 H locs hq2 hP hD hS _ hkp => ?_)
  obtain ⟨ev4, eM5⟩ := hq2
  rw [if_neg hkk] at ev4
  subst ev4
  rw [eM5] at hP hD
  refine W.eq (g2 := F0 m 5 ls [.int 1, .ref y]) rfl ?_
  have hm6 : mR cI cJ M y b0 b1 b2 b3 b4 b5 b6 b7 b8 b9 b10 b11 cd ho pa tm na np bal mi ky ac st he cl un dn ds dd dl := ⟨fy, g0, g1, g2, g3, g4, g5, g6, g7, g8, g9, g10, g11, hap⟩
  refine hb_callV (rest := []) hX hts hb_gd Y_Md_goes (c_Md_goes hE M y b0 b1 b2 b3 b4 b5 b6 b7 b8 b9 b10 b11 cd ho pa tm na np bal mi ky ac st he cl un dn ds dd dl hm6 (by omega) (by omega) 1 (by decide)) ml_Md_83 im_Md_goes se_Md_goes hK fy hC_Md.1 hz hP hD hS hA rfl hl.1 rfl (Nat.le_of_ble_eq_true rfl) ⟨Nat.le_of_ble_eq_true rfl, Nat.le_of_ble_eq_true rfl⟩ ⟨Nat.le_of_ble_eq_true rfl, Nat.le_of_ble_eq_true rfl⟩ d_Md_decide_5 (fun v9 M7 H locs hq8 hP hD hS _ hkp => ?_)
  obtain ⟨ev10, h11⟩ := hq8
  subst ev10
  rw [if_neg (by decide : ¬ (1 : Int32) = 0)] at h11
  obtain ⟨fy12, g13, g14, g15, g16, g17, g18, g19, g20, g21, g22, g23, g24, -⟩ := id h11
  refine W.eq (g2 := F0 m 8 ls [.int 1]) rfl ?_
  refine lv_if_ne (tgt := 13) hx hb d_Md_decide_8 (by decide) (fun c25 => ?_) (fun c25 => ?_)
  · skip
    refine lv_aload_n hx hb d_Md_decide_13 rfl (lv_at hl 0 rfl) ?_
    refine lv_iload_n hx hb d_Md_decide_14 rfl (lv_at hl 1 rfl) ?_
    have hm26 : mR cI cJ M7 y b0 b1 b2 b3 b4 b5 b6 b7 b8 b9 b10 b11 0 ho pa tm na np bal mi ky ac st he cl un dn ds dd dl := ⟨fy12, g13, g14, g15, g16, g17, g18, g19, g20, g21, g22, g23, g24, hap⟩
    refine hb_callV (rest := []) hX hts hb_gd Y_Md_place (c_Md_place hE M7 y b0 b1 b2 b3 b4 b5 b6 b7 b8 b9 b10 b11 0 ho pa tm na np bal mi ky ac st he cl un dn ds dd dl hm26 (by omega) (by omega) k) ml_Md_87 im_Md_place se_Md_place hK fy12 hC_Md.1 hz hP hD hS hA rfl hl.1 rfl (Nat.le_of_ble_eq_true rfl) ⟨Nat.le_of_ble_eq_true rfl, Nat.le_of_ble_eq_true rfl⟩ ⟨Nat.le_of_ble_eq_true rfl, Nat.le_of_ble_eq_true rfl⟩ d_Md_decide_15 (fun v29 M27 H locs hq28 hP hD hS _ hkp => ?_)
    obtain ⟨ev30, eM31⟩ := hq28
    subst ev30
    rw [eM31] at hP hD
    refine W.eq (g2 := F0 m 18 ls [.int (hb_plc ky k np)]) rfl ?_
    refine W.eq (g2 := F0 m 18 ls [.int (nI j)]) (by rw [hpl]) ?_
    refine lv_istore_n (lv' := [(3, .int (nI j)), (0, .ref y), (1, .int k), (2, .int w)]) hx hb d_Md_decide_18 rfl hl (by decide) rfl (fun ls hl => ?_)
    refine lv_iload_n hx hb d_Md_decide_19 rfl (lv_at hl 0 rfl) ?_
    refine lv_if_lt (tgt := 33) hx hb d_Md_decide_20 (by decide) (fun c32 => ?_) (fun c32 => ?_)
    · skip
      exact absurd c32 (nI_pos (by omega))
    · skip
      refine lv_aload_n hx hb d_Md_decide_23 rfl (lv_at hl 1 rfl) ?_
      refine hb_get hx hb hts hown hC_Md hK hP fy12 15 (by decide) rfl fl_Md_38 rfl d_Md_decide_24 ?_
      refine lv_iload_n hx hb d_Md_decide_27 rfl (lv_at hl 0 rfl) ?_
      refine va_iald hx hb hK (hP.one g22) 0 0 rfl rfl (vp_in_nI (by omega) (by omega)) d_Md_decide_28 ?_
      refine W.eq (g2 := F0 m 29 ls [.int (ds j)]) (by rw [nI_clamp (show j < 2 ^ 31 by omega)]) ?_
      refine lv_iconst (v := 2) hx hb d_Md_decide_29 (by decide) ?_
      refine lv_icmp_eq (tgt := 45) hx hb d_Md_decide_30 (by decide) (fun c33 => ?_) (fun c33 => ?_)
      · skip
        refine lv_aload_n hx hb d_Md_decide_45 rfl (lv_at hl 1 rfl) ?_
        refine lv_iload_n hx hb d_Md_decide_46 rfl (lv_at hl 0 rfl) ?_
        refine lv_iload_n hx hb d_Md_decide_47 rfl (lv_at hl 3 rfl) ?_
        have hm34 : mR cI cJ M7 y b0 b1 b2 b3 b4 b5 b6 b7 b8 b9 b10 b11 0 ho pa tm na np bal mi ky ac st he cl un dn ds dd dl := ⟨fy12, g13, g14, g15, g16, g17, g18, g19, g20, g21, g22, g23, g24, hap⟩
        refine hb_callV (rest := []) hX hts hb_gd Y_Md_closes (c_Md_closes hE M7 y b0 b1 b2 b3 b4 b5 b6 b7 b8 b9 b10 b11 0 ho pa tm na np bal mi ky ac st he cl un dn ds dd dl hm34 (by omega) (by omega) j (by omega) w ka hka hac) ml_Md_117 im_Md_closes se_Md_closes hK fy12 hC_Md.1 hz hP hD hS hA rfl hl.1 rfl (Nat.le_of_ble_eq_true rfl) ⟨Nat.le_of_ble_eq_true rfl, Nat.le_of_ble_eq_true rfl⟩ ⟨Nat.le_of_ble_eq_true rfl, Nat.le_of_ble_eq_true rfl⟩ d_Md_decide_48 (fun v37 M35 H locs hq36 hP hD hS _ hkp => ?_)
        obtain ⟨ev39, h38⟩ := hq36
        subst ev39
        obtain ⟨fy40, g41, g42, g43, g44, g45, g46, g47, g48, g49, g50, g51, g52, -⟩ := id h38
        refine W.eq (g2 := F0 m 51 ls []) rfl ?_
        refine lv_iconst (v := 1) hx hb d_Md_decide_51 (by decide) ?_
        exact hb_iret hAe hx hb hr hlocks hP hD hS (Nat.le_of_ble_eq_true rfl) (Nat.le_of_ble_eq_true rfl) (⟨rfl, ⟨fy40, g41, g42, g43, g44, g45, g46, g47, g48, g49, g50, g51, g52, hap⟩⟩) d_Md_decide_52
      · skip
        exact absurd hs c33
  · skip
    exfalso; revert c25; decide
set_option maxHeartbeats 4000000 in
set_option maxRecDepth 100000 in
/-- funds: ok -/
theorem c_Md_funds_ok {l : Launch} {s0 : State} {D : va_G} {cI cJ cO : ClassId} {e0 mi : Nat} (hE : hb_E l s0 D cI cJ cO e0 mi) (M : hb_M) (y b0 b1 b2 b3 b4 b5 b6 b7 b8 b9 b10 b11 : Nat) (cd ho pa tm : Int32) (na np : Nat) (bal mi : Nat → Int64) (ky ac st : Nat → Int32) (he cl : Nat → Int64) (un dn ds : Nat → Int32) (dd : Nat → Int64) (dl : Nat → Int32) (h : mR cI cJ M y b0 b1 b2 b3 b4 b5 b6 b7 b8 b9 b10 b11 cd ho pa tm na np bal mi ky ac st he cl un dn ds dd dl) (hna : na ≤ 16) (hnp : np ≤ 60) (ka : Nat) (hka : ka < na) (wh : Int32) (hw : ¬ wh < 0 ∧ ¬ 3 < wh) : hb_Met l D hb_cl s0 y_Md_funds b_Md_funds 3 (some .long) { frames := 3, cells := 0, slots := 0, locals := 100 } [.ref y, .int (nI ka), .int wh] M (fun v M1 => v = some (.long (if wh = 0 then bal ka else if wh = 1 then hb_sm (fun p => if ac p = (nI ka) then he p else 0) np else if wh = 2 then hb_sm (fun p => if ac p = (nI ka) ∧ (ds p = 1 ∨ ds p = 2) then dd p else 0) np else bal ka - mi ka - hb_sm (fun p => if ac p = (nI ka) then he p else 0) np - hb_sm (fun p => if ac p = (nI ka) ∧ (ds p = 1 ∨ ds p = 2) then dd p else 0) np)) ∧ mR cI cJ M1 y b0 b1 b2 b3 b4 b5 b6 b7 b8 b9 b10 b11 0 ho pa tm na np bal mi ky ac st he cl un dn ds dd dl) := by
  refine hb_Met.of (by decide) (Nat.le_of_ble_eq_true rfl) ?_
  intro p e s m below meth c A hAe hX hz hP hD hA hS ls hl
  obtain ⟨hx, hb, hr, hml, hown, hlocks, hnm, hG, hnh⟩ := id hX
  have hown : s.vm.findClass "HoldBookModel" = some m.cls := hown
  have hts := hE.ts hG ([.ref y, .int (nI ka), .int wh] : List Value).toArray
  have hK := hE.kn hG
  have hl : lv_has ls 3 [(0, .ref y), (1, .int (nI ka)), (2, .int wh)] := hl
  obtain ⟨fy, g0, g1, g2, g3, g4, g5, g6, g7, g8, g9, g10, g11, hap⟩ := id h
  refine lv_aload_n hx hb d_Md_funds_0 rfl (lv_at hl 0 rfl) ?_
  refine lv_iload_n hx hb d_Md_funds_1 rfl (lv_at hl 1 rfl) ?_
  refine lv_if_lt (tgt := 26) hx hb d_Md_funds_2 (by decide) (fun c1 => ?_) (fun c1 => ?_)
  · skip
    exact absurd c1 (nI_pos (by omega))
  · skip
    refine lv_iload_n hx hb d_Md_funds_5 rfl (lv_at hl 1 rfl) ?_
    refine lv_aload_n hx hb d_Md_funds_6 rfl (lv_at hl 0 rfl) ?_
    refine hb_get hx hb hts hown hC_Md hK hP fy 4 (by decide) rfl fl_Md_72 rfl d_Md_funds_7 ?_
    refine lv_icmp_ge (tgt := 26) hx hb d_Md_funds_10 (by decide) (fun c2 => ?_) (fun c2 => ?_)
    · skip
      have c2n := hb_ngti c2
      exact absurd ((nI_leI (by omega) (by omega)).mp c2) (by omega)
    · skip
      have c2n := hb_gti c2
      refine lv_iload_n hx hb d_Md_funds_13 rfl (lv_at hl 2 rfl) ?_
      refine lv_if_lt (tgt := 26) hx hb d_Md_funds_14 (by decide) (fun c3 => ?_) (fun c3 => ?_)
      · skip
        exact absurd c3 hw.1
      · skip
        refine lv_iload_n hx hb d_Md_funds_17 rfl (lv_at hl 2 rfl) ?_
        refine lv_iconst (v := 3) hx hb d_Md_funds_18 (by decide) ?_
        refine lv_icmp_gt (tgt := 26) hx hb d_Md_funds_19 (by decide) (fun c4 => ?_) (fun c4 => ?_)
        · skip
          exact absurd c4 hw.2
        · skip
          refine lv_iconst (v := 1) hx hb d_Md_funds_22 (by decide) ?_
          refine lv_goto (tgt := 27) hx hb d_Md_funds_23 (by decide) ?_
          have hm5 : mR cI cJ M y b0 b1 b2 b3 b4 b5 b6 b7 b8 b9 b10 b11 cd ho pa tm na np bal mi ky ac st he cl un dn ds dd dl := ⟨fy, g0, g1, g2, g3, g4, g5, g6, g7, g8, g9, g10, g11, hap⟩
          refine hb_callV (rest := []) hX hts hb_gd Y_Md_goes (c_Md_goes hE M y b0 b1 b2 b3 b4 b5 b6 b7 b8 b9 b10 b11 cd ho pa tm na np bal mi ky ac st he cl un dn ds dd dl hm5 (by omega) (by omega) 1 (by decide)) ml_Md_83 im_Md_goes se_Md_goes hK fy hC_Md.1 hz hP hD hS hA rfl hl.1 rfl (Nat.le_of_ble_eq_true rfl) ⟨Nat.le_of_ble_eq_true rfl, Nat.le_of_ble_eq_true rfl⟩ ⟨Nat.le_of_ble_eq_true rfl, Nat.le_of_ble_eq_true rfl⟩ d_Md_funds_27 (fun v8 M6 H locs hq7 hP hD hS _ hkp => ?_)
          obtain ⟨ev9, h10⟩ := hq7
          subst ev9
          rw [if_neg (by decide : ¬ (1 : Int32) = 0)] at h10
          obtain ⟨fy11, g12, g13, g14, g15, g16, g17, g18, g19, g20, g21, g22, g23, -⟩ := id h10
          refine W.eq (g2 := F0 m 30 ls [.int 1]) rfl ?_
          refine lv_if_ne (tgt := 35) hx hb d_Md_funds_30 (by decide) (fun c24 => ?_) (fun c24 => ?_)
          · skip
            refine lv_iload_n hx hb d_Md_funds_35 rfl (lv_at hl 2 rfl) ?_
            refine lv_if_ne (tgt := 48) hx hb d_Md_funds_36 (by decide) (fun c25 => ?_) (fun c25 => ?_)
            · skip
              refine lv_iload_n hx hb d_Md_funds_48 rfl (lv_at hl 2 rfl) ?_
              refine lv_iconst (v := 1) hx hb d_Md_funds_49 (by decide) ?_
              refine lv_icmp_ne (tgt := 61) hx hb d_Md_funds_50 (by decide) (fun c26 => ?_) (fun c26 => ?_)
              · skip
                refine lv_iload_n hx hb d_Md_funds_61 rfl (lv_at hl 2 rfl) ?_
                refine lv_iconst (v := 2) hx hb d_Md_funds_62 (by decide) ?_
                refine lv_icmp_ne (tgt := 74) hx hb d_Md_funds_63 (by decide) (fun c27 => ?_) (fun c27 => ?_)
                · skip
                  refine lv_aload_n hx hb d_Md_funds_74 rfl (lv_at hl 0 rfl) ?_
                  refine lv_iload_n hx hb d_Md_funds_75 rfl (lv_at hl 1 rfl) ?_
                  have hm28 : mR cI cJ M6 y b0 b1 b2 b3 b4 b5 b6 b7 b8 b9 b10 b11 0 ho pa tm na np bal mi ky ac st he cl un dn ds dd dl := ⟨fy11, g12, g13, g14, g15, g16, g17, g18, g19, g20, g21, g22, g23, hap⟩
                  refine hb_callV (rest := []) hX hts hb_gd Y_Md_freeOf (c_Md_freeOf hE M6 y b0 b1 b2 b3 b4 b5 b6 b7 b8 b9 b10 b11 0 ho pa tm na np bal mi ky ac st he cl un dn ds dd dl hm28 (by omega) (by omega) ka (by omega)) ml_Md_95 im_Md_freeOf se_Md_freeOf hK fy11 hC_Md.1 hz hP hD hS hA rfl hl.1 rfl (Nat.le_of_ble_eq_true rfl) ⟨Nat.le_of_ble_eq_true rfl, Nat.le_of_ble_eq_true rfl⟩ ⟨Nat.le_of_ble_eq_true rfl, Nat.le_of_ble_eq_true rfl⟩ d_Md_funds_76 (fun v31 M29 H locs hq30 hP hD hS _ hkp => ?_)
                  obtain ⟨ev32, eM33⟩ := hq30
                  subst ev32
                  rw [eM33] at hP hD
                  refine W.eq (g2 := F0 m 79 ls [.long (bal ka - mi ka - hb_sm (fun p => if ac p = (nI ka) then he p else 0) np - hb_sm (fun p => if ac p = (nI ka) ∧ (ds p = 1 ∨ ds p = 2) then dd p else 0) np)]) rfl ?_
                  exact hb_lret hAe hx hb hr hlocks hP hD hS (Nat.le_of_ble_eq_true rfl) (Nat.le_of_ble_eq_true rfl) (⟨by rw [if_neg c25, if_neg c26, if_neg c27], ⟨fy11, g12, g13, g14, g15, g16, g17, g18, g19, g20, g21, g22, g23, hap⟩⟩) d_Md_funds_79
                · skip
                  refine lv_aload_n hx hb d_Md_funds_66 rfl (lv_at hl 0 rfl) ?_
                  refine lv_iload_n hx hb d_Md_funds_67 rfl (lv_at hl 1 rfl) ?_
                  have hm34 : mR cI cJ M6 y b0 b1 b2 b3 b4 b5 b6 b7 b8 b9 b10 b11 0 ho pa tm na np bal mi ky ac st he cl un dn ds dd dl := ⟨fy11, g12, g13, g14, g15, g16, g17, g18, g19, g20, g21, g22, g23, hap⟩
                  refine hb_callV (rest := []) hX hts hb_gd Y_Md_lockedOf (c_Md_lockedOf hE M6 y b0 b1 b2 b3 b4 b5 b6 b7 b8 b9 b10 b11 0 ho pa tm na np bal mi ky ac st he cl un dn ds dd dl hm34 (by omega) (by omega) (nI ka)) ml_Md_67 im_Md_lockedOf se_Md_lockedOf hK fy11 hC_Md.1 hz hP hD hS hA rfl hl.1 rfl (Nat.le_of_ble_eq_true rfl) ⟨Nat.le_of_ble_eq_true rfl, Nat.le_of_ble_eq_true rfl⟩ ⟨Nat.le_of_ble_eq_true rfl, Nat.le_of_ble_eq_true rfl⟩ d_Md_funds_68 (fun v37 M35 H locs hq36 hP hD hS _ hkp => ?_)
                  obtain ⟨ev38, eM39⟩ := hq36
                  subst ev38
                  rw [eM39] at hP hD
                  refine W.eq (g2 := F0 m 71 ls [.long (hb_sm (fun p => if ac p = (nI ka) ∧ (ds p = 1 ∨ ds p = 2) then dd p else 0) np)]) rfl ?_
                  refine lv_goto (tgt := 79) hx hb d_Md_funds_71 (by decide) ?_
                  exact hb_lret hAe hx hb hr hlocks hP hD hS (Nat.le_of_ble_eq_true rfl) (Nat.le_of_ble_eq_true rfl) (⟨by rw [if_neg c25, if_neg c26, if_pos c27], ⟨fy11, g12, g13, g14, g15, g16, g17, g18, g19, g20, g21, g22, g23, hap⟩⟩) d_Md_funds_79
              · skip
                refine lv_aload_n hx hb d_Md_funds_53 rfl (lv_at hl 0 rfl) ?_
                refine lv_iload_n hx hb d_Md_funds_54 rfl (lv_at hl 1 rfl) ?_
                have hm40 : mR cI cJ M6 y b0 b1 b2 b3 b4 b5 b6 b7 b8 b9 b10 b11 0 ho pa tm na np bal mi ky ac st he cl un dn ds dd dl := ⟨fy11, g12, g13, g14, g15, g16, g17, g18, g19, g20, g21, g22, g23, hap⟩
                refine hb_callV (rest := []) hX hts hb_gd Y_Md_heldOf (c_Md_heldOf hE M6 y b0 b1 b2 b3 b4 b5 b6 b7 b8 b9 b10 b11 0 ho pa tm na np bal mi ky ac st he cl un dn ds dd dl hm40 (by omega) (by omega) (nI ka)) ml_Md_63 im_Md_heldOf se_Md_heldOf hK fy11 hC_Md.1 hz hP hD hS hA rfl hl.1 rfl (Nat.le_of_ble_eq_true rfl) ⟨Nat.le_of_ble_eq_true rfl, Nat.le_of_ble_eq_true rfl⟩ ⟨Nat.le_of_ble_eq_true rfl, Nat.le_of_ble_eq_true rfl⟩ d_Md_funds_55 (fun v43 M41 H locs hq42 hP hD hS _ hkp => ?_)
                obtain ⟨ev44, eM45⟩ := hq42
                subst ev44
                rw [eM45] at hP hD
                refine W.eq (g2 := F0 m 58 ls [.long (hb_sm (fun p => if ac p = (nI ka) then he p else 0) np)]) rfl ?_
                refine lv_goto (tgt := 79) hx hb d_Md_funds_58 (by decide) ?_
                exact hb_lret hAe hx hb hr hlocks hP hD hS (Nat.le_of_ble_eq_true rfl) (Nat.le_of_ble_eq_true rfl) (⟨by rw [if_neg c25, if_pos c26], ⟨fy11, g12, g13, g14, g15, g16, g17, g18, g19, g20, g21, g22, g23, hap⟩⟩) d_Md_funds_79
            · skip
              refine lv_aload_n hx hb d_Md_funds_39 rfl (lv_at hl 0 rfl) ?_
              refine hb_get hx hb hts hown hC_Md hK hP fy11 5 (by decide) rfl fl_Md_7 rfl d_Md_funds_40 ?_
              refine lv_iload_n hx hb d_Md_funds_43 rfl (lv_at hl 1 rfl) ?_
              refine va_lald hx hb hK (hP.one g12) 0 1 rfl rfl (vp_in_nI (by omega) (by omega)) d_Md_funds_44 ?_
              refine W.eq (g2 := F0 m 45 ls [.long (bal ka)]) (by rw [nI_clamp (show ka < 2 ^ 31 by omega)]) ?_
              refine lv_goto (tgt := 79) hx hb d_Md_funds_45 (by decide) ?_
              exact hb_lret hAe hx hb hr hlocks hP hD hS (Nat.le_of_ble_eq_true rfl) (Nat.le_of_ble_eq_true rfl) (⟨by rw [if_pos c25], ⟨fy11, g12, g13, g14, g15, g16, g17, g18, g19, g20, g21, g22, g23, hap⟩⟩) d_Md_funds_79
          · skip
            exfalso; revert c24; decide
set_option maxHeartbeats 4000000 in
set_option maxRecDepth 100000 in
/-- payment: no -/
theorem c_Md_payment_no {l : Launch} {s0 : State} {D : va_G} {cI cJ cO : ClassId} {e0 mi : Nat} (hE : hb_E l s0 D cI cJ cO e0 mi) (M : hb_M) (y b0 b1 b2 b3 b4 b5 b6 b7 b8 b9 b10 b11 : Nat) (cd ho pa tm : Int32) (na np : Nat) (bal mi : Nat → Int64) (ky ac st : Nat → Int32) (he cl : Nat → Int64) (un dn ds : Nat → Int32) (dd : Nat → Int64) (dl : Nat → Int32) (h : mR cI cJ M y b0 b1 b2 b3 b4 b5 b6 b7 b8 b9 b10 b11 cd ho pa tm na np bal mi ky ac st he cl un dn ds dd dl) (hna : na ≤ 16) (hnp : np ≤ 60) (k : Int32) (hpl : hb_plc ky k np = -1) (hkk : ¬ (k < 0 ∨ 1000000 < k)) (wh : Int32) (hw : ¬ wh < 0 ∧ ¬ 8 < wh) : hb_Met l D hb_cl s0 y_Md_payment b_Md_payment 4 (some .long) { frames := 3, cells := 0, slots := 0, locals := 100 } [.ref y, .int k, .int wh] M (fun v M1 => v = some (.long (if wh = 0 then 0 else -1)) ∧ mR cI cJ M1 y b0 b1 b2 b3 b4 b5 b6 b7 b8 b9 b10 b11 0 ho pa tm na np bal mi ky ac st he cl un dn ds dd dl) := by
  refine hb_Met.of (by decide) (Nat.le_of_ble_eq_true rfl) ?_
  intro p e s m below meth c A hAe hX hz hP hD hA hS ls hl
  obtain ⟨hx, hb, hr, hml, hown, hlocks, hnm, hG, hnh⟩ := id hX
  have hown : s.vm.findClass "HoldBookModel" = some m.cls := hown
  have hts := hE.ts hG ([.ref y, .int k, .int wh] : List Value).toArray
  have hK := hE.kn hG
  have hl : lv_has ls 4 [(0, .ref y), (1, .int k), (2, .int wh)] := hl
  obtain ⟨fy, g0, g1, g2, g3, g4, g5, g6, g7, g8, g9, g10, g11, hap⟩ := id h
  refine lv_aload_n hx hb d_Md_payment_0 rfl (lv_at hl 0 rfl) ?_
  refine lv_iload_n hx hb d_Md_payment_1 rfl (lv_at hl 1 rfl) ?_
  refine hb_callS (rest := [.ref y]) hX hts hb_gd Y_Md_isKey (c_Md_isKey hE M k) ml_Md_75 st_Md_isKey hz hP hD hS hA rfl hl.1 rfl (Nat.le_of_ble_eq_true rfl) ⟨Nat.le_of_ble_eq_true rfl, Nat.le_of_ble_eq_true rfl⟩ ⟨Nat.le_of_ble_eq_true rfl, Nat.le_of_ble_eq_true rfl⟩ d_Md_payment_2 (fun v3 M1 H locs hq2 hP hD hS _ hkp => ?_)
  obtain ⟨ev4, eM5⟩ := hq2
  rw [if_neg hkk] at ev4
  subst ev4
  rw [eM5] at hP hD
  refine W.eq (g2 := F0 m 5 ls [.int 1, .ref y]) rfl ?_
  refine lv_if_eq (tgt := 22) hx hb d_Md_payment_5 (by decide) (fun c6 => ?_) (fun c6 => ?_)
  · skip
    exfalso; revert c6; decide
  · skip
    refine lv_iload_n hx hb d_Md_payment_8 rfl (lv_at hl 2 rfl) ?_
    refine lv_if_lt (tgt := 22) hx hb d_Md_payment_9 (by decide) (fun c7 => ?_) (fun c7 => ?_)
    · skip
      exact absurd c7 hw.1
    · skip
      refine lv_iload_n hx hb d_Md_payment_12 rfl (lv_at hl 2 rfl) ?_
      refine lv_bipush (v := 8) hx hb d_Md_payment_13 (by decide) ?_
      refine lv_icmp_gt (tgt := 22) hx hb d_Md_payment_15 (by decide) (fun c8 => ?_) (fun c8 => ?_)
      · skip
        exact absurd c8 hw.2
      · skip
        refine lv_iconst (v := 1) hx hb d_Md_payment_18 (by decide) ?_
        refine lv_goto (tgt := 23) hx hb d_Md_payment_19 (by decide) ?_
        have hm9 : mR cI cJ M y b0 b1 b2 b3 b4 b5 b6 b7 b8 b9 b10 b11 cd ho pa tm na np bal mi ky ac st he cl un dn ds dd dl := ⟨fy, g0, g1, g2, g3, g4, g5, g6, g7, g8, g9, g10, g11, hap⟩
        refine hb_callV (rest := []) hX hts hb_gd Y_Md_goes (c_Md_goes hE M y b0 b1 b2 b3 b4 b5 b6 b7 b8 b9 b10 b11 cd ho pa tm na np bal mi ky ac st he cl un dn ds dd dl hm9 (by omega) (by omega) 1 (by decide)) ml_Md_83 im_Md_goes se_Md_goes hK fy hC_Md.1 hz hP hD hS hA rfl hl.1 rfl (Nat.le_of_ble_eq_true rfl) ⟨Nat.le_of_ble_eq_true rfl, Nat.le_of_ble_eq_true rfl⟩ ⟨Nat.le_of_ble_eq_true rfl, Nat.le_of_ble_eq_true rfl⟩ d_Md_payment_23 (fun v12 M10 H locs hq11 hP hD hS _ hkp => ?_)
        obtain ⟨ev13, h14⟩ := hq11
        subst ev13
        rw [if_neg (by decide : ¬ (1 : Int32) = 0)] at h14
        obtain ⟨fy15, g16, g17, g18, g19, g20, g21, g22, g23, g24, g25, g26, g27, -⟩ := id h14
        refine W.eq (g2 := F0 m 26 ls [.int 1]) rfl ?_
        refine lv_if_ne (tgt := 31) hx hb d_Md_payment_26 (by decide) (fun c28 => ?_) (fun c28 => ?_)
        · skip
          refine lv_aload_n hx hb d_Md_payment_31 rfl (lv_at hl 0 rfl) ?_
          refine lv_iload_n hx hb d_Md_payment_32 rfl (lv_at hl 1 rfl) ?_
          have hm29 : mR cI cJ M10 y b0 b1 b2 b3 b4 b5 b6 b7 b8 b9 b10 b11 0 ho pa tm na np bal mi ky ac st he cl un dn ds dd dl := ⟨fy15, g16, g17, g18, g19, g20, g21, g22, g23, g24, g25, g26, g27, hap⟩
          refine hb_callV (rest := []) hX hts hb_gd Y_Md_place (c_Md_place hE M10 y b0 b1 b2 b3 b4 b5 b6 b7 b8 b9 b10 b11 0 ho pa tm na np bal mi ky ac st he cl un dn ds dd dl hm29 (by omega) (by omega) k) ml_Md_87 im_Md_place se_Md_place hK fy15 hC_Md.1 hz hP hD hS hA rfl hl.1 rfl (Nat.le_of_ble_eq_true rfl) ⟨Nat.le_of_ble_eq_true rfl, Nat.le_of_ble_eq_true rfl⟩ ⟨Nat.le_of_ble_eq_true rfl, Nat.le_of_ble_eq_true rfl⟩ d_Md_payment_33 (fun v32 M30 H locs hq31 hP hD hS _ hkp => ?_)
          obtain ⟨ev33, eM34⟩ := hq31
          subst ev33
          rw [eM34] at hP hD
          refine W.eq (g2 := F0 m 36 ls [.int (hb_plc ky k np)]) rfl ?_
          refine W.eq (g2 := F0 m 36 ls [.int (-1)]) (by rw [hpl]) ?_
          refine lv_istore_n (lv' := [(3, .int (-1)), (0, .ref y), (1, .int k), (2, .int wh)]) hx hb d_Md_payment_36 rfl hl (by decide) rfl (fun ls hl => ?_)
          refine lv_iload_n hx hb d_Md_payment_37 rfl (lv_at hl 0 rfl) ?_
          refine lv_if_ge (tgt := 53) hx hb d_Md_payment_38 (by decide) (fun c35 => ?_) (fun c35 => ?_)
          · skip
            have c35n := hb_ngti c35
            exfalso; revert c35; decide
          · skip
            have c35n := hb_gti c35
            refine lv_iload_n hx hb d_Md_payment_41 rfl (lv_at hl 3 rfl) ?_
            refine lv_if_ne (tgt := 49) hx hb d_Md_payment_42 (by decide) (fun c36 => ?_) (fun c36 => ?_)
            · skip
              refine lv_ldc2 (v := (-1)) hx hb hown (hts _ kc_Md_124) d_Md_payment_49 ?_
              exact hb_lret hAe hx hb hr hlocks hP hD hS (Nat.le_of_ble_eq_true rfl) (Nat.le_of_ble_eq_true rfl) (⟨by simp only [*, reduceIte], ⟨fy15, g16, g17, g18, g19, g20, g21, g22, g23, g24, g25, g26, g27, hap⟩⟩) d_Md_payment_52
            · skip
              refine lv_lconst (v := 0) hx hb d_Md_payment_45 (by decide) ?_
              refine lv_goto (tgt := 52) hx hb d_Md_payment_46 (by decide) ?_
              exact hb_lret hAe hx hb hr hlocks hP hD hS (Nat.le_of_ble_eq_true rfl) (Nat.le_of_ble_eq_true rfl) (⟨by simp only [*, reduceIte], ⟨fy15, g16, g17, g18, g19, g20, g21, g22, g23, g24, g25, g26, g27, hap⟩⟩) d_Md_payment_52
        · skip
          exfalso; revert c28; decide
set_option maxHeartbeats 4000000 in
set_option maxRecDepth 100000 in
/-- payment: at -/
theorem c_Md_payment_at {l : Launch} {s0 : State} {D : va_G} {cI cJ cO : ClassId} {e0 mi : Nat} (hE : hb_E l s0 D cI cJ cO e0 mi) (M : hb_M) (y b0 b1 b2 b3 b4 b5 b6 b7 b8 b9 b10 b11 : Nat) (cd ho pa tm : Int32) (na np : Nat) (bal mi : Nat → Int64) (ky ac st : Nat → Int32) (he cl : Nat → Int64) (un dn ds : Nat → Int32) (dd : Nat → Int64) (dl : Nat → Int32) (h : mR cI cJ M y b0 b1 b2 b3 b4 b5 b6 b7 b8 b9 b10 b11 cd ho pa tm na np bal mi ky ac st he cl un dn ds dd dl) (hna : na ≤ 16) (hnp : np ≤ 60) (k : Int32) (j : Nat) (hj : j < np) (hpl : hb_plc ky k np = nI j) (hkk : ¬ (k < 0 ∨ 1000000 < k)) (wh : Int32) (hw : ¬ wh < 0 ∧ ¬ 8 < wh) : hb_Met l D hb_cl s0 y_Md_payment b_Md_payment 4 (some .long) { frames := 3, cells := 0, slots := 0, locals := 100 } [.ref y, .int k, .int wh] M (fun v M1 => v = some (.long (if wh = 0 then (st j).toInt64 else if wh = 1 then he j else if wh = 2 then cl j else if wh = 3 then (un j).toInt64 else if wh = 4 then (dn j).toInt64 else if wh = 5 then (ac j).toInt64 else if wh = 6 then (ds j).toInt64 else if wh = 7 then dd j else (dl j).toInt64)) ∧ mR cI cJ M1 y b0 b1 b2 b3 b4 b5 b6 b7 b8 b9 b10 b11 0 ho pa tm na np bal mi ky ac st he cl un dn ds dd dl) := by
  refine hb_Met.of (by decide) (Nat.le_of_ble_eq_true rfl) ?_
  intro p e s m below meth c A hAe hX hz hP hD hA hS ls hl
  obtain ⟨hx, hb, hr, hml, hown, hlocks, hnm, hG, hnh⟩ := id hX
  have hown : s.vm.findClass "HoldBookModel" = some m.cls := hown
  have hts := hE.ts hG ([.ref y, .int k, .int wh] : List Value).toArray
  have hK := hE.kn hG
  have hl : lv_has ls 4 [(0, .ref y), (1, .int k), (2, .int wh)] := hl
  obtain ⟨fy, g0, g1, g2, g3, g4, g5, g6, g7, g8, g9, g10, g11, hap⟩ := id h
  refine lv_aload_n hx hb d_Md_payment_0 rfl (lv_at hl 0 rfl) ?_
  refine lv_iload_n hx hb d_Md_payment_1 rfl (lv_at hl 1 rfl) ?_
  refine hb_callS (rest := [.ref y]) hX hts hb_gd Y_Md_isKey (c_Md_isKey hE M k) ml_Md_75 st_Md_isKey hz hP hD hS hA rfl hl.1 rfl (Nat.le_of_ble_eq_true rfl) ⟨Nat.le_of_ble_eq_true rfl, Nat.le_of_ble_eq_true rfl⟩ ⟨Nat.le_of_ble_eq_true rfl, Nat.le_of_ble_eq_true rfl⟩ d_Md_payment_2 (fun v3 M1 H locs hq2 hP hD hS _ hkp => ?_)
  obtain ⟨ev4, eM5⟩ := hq2
  rw [if_neg hkk] at ev4
  subst ev4
  rw [eM5] at hP hD
  refine W.eq (g2 := F0 m 5 ls [.int 1, .ref y]) rfl ?_
  refine lv_if_eq (tgt := 22) hx hb d_Md_payment_5 (by decide) (fun c6 => ?_) (fun c6 => ?_)
  · skip
    exfalso; revert c6; decide
  · skip
    refine lv_iload_n hx hb d_Md_payment_8 rfl (lv_at hl 2 rfl) ?_
    refine lv_if_lt (tgt := 22) hx hb d_Md_payment_9 (by decide) (fun c7 => ?_) (fun c7 => ?_)
    · skip
      exact absurd c7 hw.1
    · skip
      refine lv_iload_n hx hb d_Md_payment_12 rfl (lv_at hl 2 rfl) ?_
      refine lv_bipush (v := 8) hx hb d_Md_payment_13 (by decide) ?_
      refine lv_icmp_gt (tgt := 22) hx hb d_Md_payment_15 (by decide) (fun c8 => ?_) (fun c8 => ?_)
      · skip
        exact absurd c8 hw.2
      · skip
        refine lv_iconst (v := 1) hx hb d_Md_payment_18 (by decide) ?_
        refine lv_goto (tgt := 23) hx hb d_Md_payment_19 (by decide) ?_
        have hm9 : mR cI cJ M y b0 b1 b2 b3 b4 b5 b6 b7 b8 b9 b10 b11 cd ho pa tm na np bal mi ky ac st he cl un dn ds dd dl := ⟨fy, g0, g1, g2, g3, g4, g5, g6, g7, g8, g9, g10, g11, hap⟩
        refine hb_callV (rest := []) hX hts hb_gd Y_Md_goes (c_Md_goes hE M y b0 b1 b2 b3 b4 b5 b6 b7 b8 b9 b10 b11 cd ho pa tm na np bal mi ky ac st he cl un dn ds dd dl hm9 (by omega) (by omega) 1 (by decide)) ml_Md_83 im_Md_goes se_Md_goes hK fy hC_Md.1 hz hP hD hS hA rfl hl.1 rfl (Nat.le_of_ble_eq_true rfl) ⟨Nat.le_of_ble_eq_true rfl, Nat.le_of_ble_eq_true rfl⟩ ⟨Nat.le_of_ble_eq_true rfl, Nat.le_of_ble_eq_true rfl⟩ d_Md_payment_23 (fun v12 M10 H locs hq11 hP hD hS _ hkp => ?_)
        obtain ⟨ev13, h14⟩ := hq11
        subst ev13
        rw [if_neg (by decide : ¬ (1 : Int32) = 0)] at h14
        obtain ⟨fy15, g16, g17, g18, g19, g20, g21, g22, g23, g24, g25, g26, g27, -⟩ := id h14
        refine W.eq (g2 := F0 m 26 ls [.int 1]) rfl ?_
        refine lv_if_ne (tgt := 31) hx hb d_Md_payment_26 (by decide) (fun c28 => ?_) (fun c28 => ?_)
        · skip
          refine lv_aload_n hx hb d_Md_payment_31 rfl (lv_at hl 0 rfl) ?_
          refine lv_iload_n hx hb d_Md_payment_32 rfl (lv_at hl 1 rfl) ?_
          have hm29 : mR cI cJ M10 y b0 b1 b2 b3 b4 b5 b6 b7 b8 b9 b10 b11 0 ho pa tm na np bal mi ky ac st he cl un dn ds dd dl := ⟨fy15, g16, g17, g18, g19, g20, g21, g22, g23, g24, g25, g26, g27, hap⟩
          refine hb_callV (rest := []) hX hts hb_gd Y_Md_place (c_Md_place hE M10 y b0 b1 b2 b3 b4 b5 b6 b7 b8 b9 b10 b11 0 ho pa tm na np bal mi ky ac st he cl un dn ds dd dl hm29 (by omega) (by omega) k) ml_Md_87 im_Md_place se_Md_place hK fy15 hC_Md.1 hz hP hD hS hA rfl hl.1 rfl (Nat.le_of_ble_eq_true rfl) ⟨Nat.le_of_ble_eq_true rfl, Nat.le_of_ble_eq_true rfl⟩ ⟨Nat.le_of_ble_eq_true rfl, Nat.le_of_ble_eq_true rfl⟩ d_Md_payment_33 (fun v32 M30 H locs hq31 hP hD hS _ hkp => ?_)
          obtain ⟨ev33, eM34⟩ := hq31
          subst ev33
          rw [eM34] at hP hD
          refine W.eq (g2 := F0 m 36 ls [.int (hb_plc ky k np)]) rfl ?_
          refine W.eq (g2 := F0 m 36 ls [.int (nI j)]) (by rw [hpl]) ?_
          refine lv_istore_n (lv' := [(3, .int (nI j)), (0, .ref y), (1, .int k), (2, .int wh)]) hx hb d_Md_payment_36 rfl hl (by decide) rfl (fun ls hl => ?_)
          refine lv_iload_n hx hb d_Md_payment_37 rfl (lv_at hl 0 rfl) ?_
          refine lv_if_ge (tgt := 53) hx hb d_Md_payment_38 (by decide) (fun c35 => ?_) (fun c35 => ?_)
          · skip
            have c35n := hb_ngti c35
            refine lv_iload_n hx hb d_Md_payment_53 rfl (lv_at hl 3 rfl) ?_
            by_cases c36 : wh = 0
            · skip
              refine lv_tableIn (off := 46) (tgt := 100) hx hb d_Md_payment_54 (by rw [c36]; decide) (by rw [c36]; decide) (by rw [c36]; decide) (by decide) ?_
              refine lv_aload_n hx hb d_Md_payment_100 rfl (lv_at hl 1 rfl) ?_
              refine hb_get hx hb hts hown hC_Md hK hP fy15 10 (by decide) rfl fl_Md_23 rfl d_Md_payment_101 ?_
              refine lv_iload_n hx hb d_Md_payment_104 rfl (lv_at hl 0 rfl) ?_
              refine va_iald hx hb hK (hP.one g20) 0 0 rfl rfl (vp_in_nI (by omega) (by omega)) d_Md_payment_105 ?_
              refine W.eq (g2 := F0 m 106 ls [.int (st j)]) (by rw [nI_clamp (show j < 2 ^ 31 by omega)]) ?_
              refine lv_i2l (v := (st j).toInt64) hx hb d_Md_payment_106 rfl ?_
              exact hb_lret hAe hx hb hr hlocks hP hD hS (Nat.le_of_ble_eq_true rfl) (Nat.le_of_ble_eq_true rfl) (⟨by rw [if_pos c36], ⟨fy15, g16, g17, g18, g19, g20, g21, g22, g23, g24, g25, g26, g27, hap⟩⟩) d_Md_payment_107
            by_cases c37 : wh = 1
            · skip
              refine lv_tableIn (off := 54) (tgt := 108) hx hb d_Md_payment_54 (by rw [c37]; decide) (by rw [c37]; decide) (by rw [c37]; decide) (by decide) ?_
              refine lv_aload_n hx hb d_Md_payment_108 rfl (lv_at hl 1 rfl) ?_
              refine hb_get hx hb hts hown hC_Md hK hP fy15 11 (by decide) rfl fl_Md_26 rfl d_Md_payment_109 ?_
              refine lv_iload_n hx hb d_Md_payment_112 rfl (lv_at hl 0 rfl) ?_
              refine va_lald hx hb hK (hP.one g21) 0 1 rfl rfl (vp_in_nI (by omega) (by omega)) d_Md_payment_113 ?_
              refine W.eq (g2 := F0 m 114 ls [.long (he j)]) (by rw [nI_clamp (show j < 2 ^ 31 by omega)]) ?_
              exact hb_lret hAe hx hb hr hlocks hP hD hS (Nat.le_of_ble_eq_true rfl) (Nat.le_of_ble_eq_true rfl) (⟨by rw [if_neg c36, if_pos c37], ⟨fy15, g16, g17, g18, g19, g20, g21, g22, g23, g24, g25, g26, g27, hap⟩⟩) d_Md_payment_114
            by_cases c38 : wh = 2
            · skip
              refine lv_tableIn (off := 61) (tgt := 115) hx hb d_Md_payment_54 (by rw [c38]; decide) (by rw [c38]; decide) (by rw [c38]; decide) (by decide) ?_
              refine lv_aload_n hx hb d_Md_payment_115 rfl (lv_at hl 1 rfl) ?_
              refine hb_get hx hb hts hown hC_Md hK hP fy15 12 (by decide) rfl fl_Md_29 rfl d_Md_payment_116 ?_
              refine lv_iload_n hx hb d_Md_payment_119 rfl (lv_at hl 0 rfl) ?_
              refine va_lald hx hb hK (hP.one g22) 0 1 rfl rfl (vp_in_nI (by omega) (by omega)) d_Md_payment_120 ?_
              refine W.eq (g2 := F0 m 121 ls [.long (cl j)]) (by rw [nI_clamp (show j < 2 ^ 31 by omega)]) ?_
              exact hb_lret hAe hx hb hr hlocks hP hD hS (Nat.le_of_ble_eq_true rfl) (Nat.le_of_ble_eq_true rfl) (⟨by rw [if_neg c36, if_neg c37, if_pos c38], ⟨fy15, g16, g17, g18, g19, g20, g21, g22, g23, g24, g25, g26, g27, hap⟩⟩) d_Md_payment_121
            by_cases c39 : wh = 3
            · skip
              refine lv_tableIn (off := 68) (tgt := 122) hx hb d_Md_payment_54 (by rw [c39]; decide) (by rw [c39]; decide) (by rw [c39]; decide) (by decide) ?_
              refine lv_aload_n hx hb d_Md_payment_122 rfl (lv_at hl 1 rfl) ?_
              refine hb_get hx hb hts hown hC_Md hK hP fy15 13 (by decide) rfl fl_Md_32 rfl d_Md_payment_123 ?_
              refine lv_iload_n hx hb d_Md_payment_126 rfl (lv_at hl 0 rfl) ?_
              refine va_iald hx hb hK (hP.one g23) 0 0 rfl rfl (vp_in_nI (by omega) (by omega)) d_Md_payment_127 ?_
              refine W.eq (g2 := F0 m 128 ls [.int (un j)]) (by rw [nI_clamp (show j < 2 ^ 31 by omega)]) ?_
              refine lv_i2l (v := (un j).toInt64) hx hb d_Md_payment_128 rfl ?_
              exact hb_lret hAe hx hb hr hlocks hP hD hS (Nat.le_of_ble_eq_true rfl) (Nat.le_of_ble_eq_true rfl) (⟨by rw [if_neg c36, if_neg c37, if_neg c38, if_pos c39], ⟨fy15, g16, g17, g18, g19, g20, g21, g22, g23, g24, g25, g26, g27, hap⟩⟩) d_Md_payment_129
            by_cases c40 : wh = 4
            · skip
              refine lv_tableIn (off := 76) (tgt := 130) hx hb d_Md_payment_54 (by rw [c40]; decide) (by rw [c40]; decide) (by rw [c40]; decide) (by decide) ?_
              refine lv_aload_n hx hb d_Md_payment_130 rfl (lv_at hl 1 rfl) ?_
              refine hb_get hx hb hts hown hC_Md hK hP fy15 14 (by decide) rfl fl_Md_35 rfl d_Md_payment_131 ?_
              refine lv_iload_n hx hb d_Md_payment_134 rfl (lv_at hl 0 rfl) ?_
              refine va_iald hx hb hK (hP.one g24) 0 0 rfl rfl (vp_in_nI (by omega) (by omega)) d_Md_payment_135 ?_
              refine W.eq (g2 := F0 m 136 ls [.int (dn j)]) (by rw [nI_clamp (show j < 2 ^ 31 by omega)]) ?_
              refine lv_i2l (v := (dn j).toInt64) hx hb d_Md_payment_136 rfl ?_
              exact hb_lret hAe hx hb hr hlocks hP hD hS (Nat.le_of_ble_eq_true rfl) (Nat.le_of_ble_eq_true rfl) (⟨by rw [if_neg c36, if_neg c37, if_neg c38, if_neg c39, if_pos c40], ⟨fy15, g16, g17, g18, g19, g20, g21, g22, g23, g24, g25, g26, g27, hap⟩⟩) d_Md_payment_137
            by_cases c41 : wh = 5
            · skip
              refine lv_tableIn (off := 84) (tgt := 138) hx hb d_Md_payment_54 (by rw [c41]; decide) (by rw [c41]; decide) (by rw [c41]; decide) (by decide) ?_
              refine lv_aload_n hx hb d_Md_payment_138 rfl (lv_at hl 1 rfl) ?_
              refine hb_get hx hb hts hown hC_Md hK hP fy15 9 (by decide) rfl fl_Md_20 rfl d_Md_payment_139 ?_
              refine lv_iload_n hx hb d_Md_payment_142 rfl (lv_at hl 0 rfl) ?_
              refine va_iald hx hb hK (hP.one g19) 0 0 rfl rfl (vp_in_nI (by omega) (by omega)) d_Md_payment_143 ?_
              refine W.eq (g2 := F0 m 144 ls [.int (ac j)]) (by rw [nI_clamp (show j < 2 ^ 31 by omega)]) ?_
              refine lv_i2l (v := (ac j).toInt64) hx hb d_Md_payment_144 rfl ?_
              exact hb_lret hAe hx hb hr hlocks hP hD hS (Nat.le_of_ble_eq_true rfl) (Nat.le_of_ble_eq_true rfl) (⟨by rw [if_neg c36, if_neg c37, if_neg c38, if_neg c39, if_neg c40, if_pos c41], ⟨fy15, g16, g17, g18, g19, g20, g21, g22, g23, g24, g25, g26, g27, hap⟩⟩) d_Md_payment_145
            by_cases c42 : wh = 6
            · skip
              refine lv_tableIn (off := 92) (tgt := 146) hx hb d_Md_payment_54 (by rw [c42]; decide) (by rw [c42]; decide) (by rw [c42]; decide) (by decide) ?_
              refine lv_aload_n hx hb d_Md_payment_146 rfl (lv_at hl 1 rfl) ?_
              refine hb_get hx hb hts hown hC_Md hK hP fy15 15 (by decide) rfl fl_Md_38 rfl d_Md_payment_147 ?_
              refine lv_iload_n hx hb d_Md_payment_150 rfl (lv_at hl 0 rfl) ?_
              refine va_iald hx hb hK (hP.one g25) 0 0 rfl rfl (vp_in_nI (by omega) (by omega)) d_Md_payment_151 ?_
              refine W.eq (g2 := F0 m 152 ls [.int (ds j)]) (by rw [nI_clamp (show j < 2 ^ 31 by omega)]) ?_
              refine lv_i2l (v := (ds j).toInt64) hx hb d_Md_payment_152 rfl ?_
              exact hb_lret hAe hx hb hr hlocks hP hD hS (Nat.le_of_ble_eq_true rfl) (Nat.le_of_ble_eq_true rfl) (⟨by rw [if_neg c36, if_neg c37, if_neg c38, if_neg c39, if_neg c40, if_neg c41, if_pos c42], ⟨fy15, g16, g17, g18, g19, g20, g21, g22, g23, g24, g25, g26, g27, hap⟩⟩) d_Md_payment_153
            by_cases c43 : wh = 7
            · skip
              refine lv_tableIn (off := 100) (tgt := 154) hx hb d_Md_payment_54 (by rw [c43]; decide) (by rw [c43]; decide) (by rw [c43]; decide) (by decide) ?_
              refine lv_aload_n hx hb d_Md_payment_154 rfl (lv_at hl 1 rfl) ?_
              refine hb_get hx hb hts hown hC_Md hK hP fy15 16 (by decide) rfl fl_Md_41 rfl d_Md_payment_155 ?_
              refine lv_iload_n hx hb d_Md_payment_158 rfl (lv_at hl 0 rfl) ?_
              refine va_lald hx hb hK (hP.one g26) 0 1 rfl rfl (vp_in_nI (by omega) (by omega)) d_Md_payment_159 ?_
              refine W.eq (g2 := F0 m 160 ls [.long (dd j)]) (by rw [nI_clamp (show j < 2 ^ 31 by omega)]) ?_
              exact hb_lret hAe hx hb hr hlocks hP hD hS (Nat.le_of_ble_eq_true rfl) (Nat.le_of_ble_eq_true rfl) (⟨by rw [if_neg c36, if_neg c37, if_neg c38, if_neg c39, if_neg c40, if_neg c41, if_neg c42, if_pos c43], ⟨fy15, g16, g17, g18, g19, g20, g21, g22, g23, g24, g25, g26, g27, hap⟩⟩) d_Md_payment_160
            refine lv_tableOut (tgt := 161) hx hb d_Md_payment_54 (by have n0 := lv_neT (a := 0) c36 (by decide); have n1 := lv_neT (a := 1) c37 (by decide); have n2 := lv_neT (a := 2) c38 (by decide); have n3 := lv_neT (a := 3) c39 (by decide); have n4 := lv_neT (a := 4) c40 (by decide); have n5 := lv_neT (a := 5) c41 (by decide); have n6 := lv_neT (a := 6) c42 (by decide); have n7 := lv_neT (a := 7) c43 (by decide); omega) (by decide) ?_
            refine lv_aload_n hx hb d_Md_payment_161 rfl (lv_at hl 1 rfl) ?_
            refine hb_get hx hb hts hown hC_Md hK hP fy15 17 (by decide) rfl fl_Md_44 rfl d_Md_payment_162 ?_
            refine lv_iload_n hx hb d_Md_payment_165 rfl (lv_at hl 0 rfl) ?_
            refine va_iald hx hb hK (hP.one g27) 0 0 rfl rfl (vp_in_nI (by omega) (by omega)) d_Md_payment_166 ?_
            refine W.eq (g2 := F0 m 167 ls [.int (dl j)]) (by rw [nI_clamp (show j < 2 ^ 31 by omega)]) ?_
            refine lv_i2l (v := (dl j).toInt64) hx hb d_Md_payment_167 rfl ?_
            exact hb_lret hAe hx hb hr hlocks hP hD hS (Nat.le_of_ble_eq_true rfl) (Nat.le_of_ble_eq_true rfl) (⟨by rw [if_neg c36, if_neg c37, if_neg c38, if_neg c39, if_neg c40, if_neg c41, if_neg c42, if_neg c43], ⟨fy15, g16, g17, g18, g19, g20, g21, g22, g23, g24, g25, g26, g27, hap⟩⟩) d_Md_payment_168
          · skip
            have c35n := hb_gti c35
            exact absurd c35n (nI_pos (by omega))
        · skip
          exfalso; revert c28; decide
