/-! THE REFERENCE: ticks, forget -/
theorem hb_t0 (x : Int32) : x + nI 0 = x := Int32.add_zero x
theorem hb_r1_EN {ky ac st : Nat → Int32} {he cl : Nat → Int64} {un dn ds : Nat → Int32} {dd : Nat → Int64} {dl : Nat → Int32} {bal : Nat → Int64} {t : Int32} {p : Nat} (kE : st p = 1 ∧ un p ≤ t) (kC : ¬ ((ds p = 1 ∨ ds p = 2) ∧ dl p < t)) (kL : ¬ (ds p = 2 ∧ dl p < t)) : ((bal, hb_row ky ac (upd st p (if 0 < cl p then 3 else 2)) (vp_updL he p 0) cl (upd un p 0) (upd dn p (if 0 < cl p then t else -1)) ds dd dl) : hbT) = hb_r1 t (bal, hb_row ky ac st he cl un dn ds dd dl) p := by
  refine Prod.ext ?_ (funext fun q => ?_)
  · show _ = if ds p = 2 ∧ dl p < t then vp_updL bal (ac p).toNatClampNeg (bal (ac p).toNatClampNeg - dd p) else bal
    rw [if_neg kL]
  · show _ = if q = p then hb_rp t (hb_row ky ac st he cl un dn ds dd dl p) else hb_row ky ac st he cl un dn ds dd dl q
    by_cases hq : q = p
    · subst hq
      rw [if_pos rfl]
      simp [hb_row, hb_rp, upd, vp_updL, kE, kC]
    · rw [if_neg hq]
      try simp [hb_row, upd, vp_updL, hq]
theorem hb_r1_EW {ky ac st : Nat → Int32} {he cl : Nat → Int64} {un dn ds : Nat → Int32} {dd : Nat → Int64} {dl : Nat → Int32} {bal : Nat → Int64} {t : Int32} {p : Nat} (kE : st p = 1 ∧ un p ≤ t) (kC : (ds p = 1 ∨ ds p = 2) ∧ dl p < t) (kL : ¬ (ds p = 2 ∧ dl p < t)) (kd : ds p = 1) {ka : Nat} (hka : (ac p).toNatClampNeg = ka) : ((vp_updL bal ka (bal ka - (if 1 = 0 then dd p else 0)), hb_row ky ac (upd st p (if 0 < cl p then 3 else 2)) (vp_updL he p 0) cl (upd un p 0) (upd dn p (if 0 < cl p then t else -1)) (upd ds p (if 1 = 0 then 4 else 3)) dd (upd dl p (-1))) : hbT) = hb_r1 t (bal, hb_row ky ac st he cl un dn ds dd dl) p := by
  refine Prod.ext ?_ (funext fun q => ?_)
  · show _ = if ds p = 2 ∧ dl p < t then vp_updL bal (ac p).toNatClampNeg (bal (ac p).toNatClampNeg - dd p) else bal
    rw [if_neg kL, if_neg (by decide), hb_upd0]
  · show _ = if q = p then hb_rp t (hb_row ky ac st he cl un dn ds dd dl p) else hb_row ky ac st he cl un dn ds dd dl q
    by_cases hq : q = p
    · subst hq
      rw [if_pos rfl]
      simp [hb_row, hb_rp, upd, vp_updL, kE, kC, kd]
    · rw [if_neg hq]
      try simp [hb_row, upd, vp_updL, hq]
theorem hb_r1_EL {ky ac st : Nat → Int32} {he cl : Nat → Int64} {un dn ds : Nat → Int32} {dd : Nat → Int64} {dl : Nat → Int32} {bal : Nat → Int64} {t : Int32} {p : Nat} (kE : st p = 1 ∧ un p ≤ t) (kC : (ds p = 1 ∨ ds p = 2) ∧ dl p < t) (kL : ds p = 2 ∧ dl p < t) (kd : ds p = 2) {ka : Nat} (hka : (ac p).toNatClampNeg = ka) : ((vp_updL bal ka (bal ka - (if 0 = 0 then dd p else 0)), hb_row ky ac (upd st p (if 0 < cl p then 3 else 2)) (vp_updL he p 0) cl (upd un p 0) (upd dn p (if 0 < cl p then t else -1)) (upd ds p (if 0 = 0 then 4 else 3)) dd (upd dl p (-1))) : hbT) = hb_r1 t (bal, hb_row ky ac st he cl un dn ds dd dl) p := by
  refine Prod.ext ?_ (funext fun q => ?_)
  · show _ = if ds p = 2 ∧ dl p < t then vp_updL bal (ac p).toNatClampNeg (bal (ac p).toNatClampNeg - dd p) else bal
    rw [if_pos kL, hka, if_pos rfl]
  · show _ = if q = p then hb_rp t (hb_row ky ac st he cl un dn ds dd dl p) else hb_row ky ac st he cl un dn ds dd dl q
    by_cases hq : q = p
    · subst hq
      rw [if_pos rfl]
      simp [hb_row, hb_rp, upd, vp_updL, kE, kC, kd]
    · rw [if_neg hq]
      try simp [hb_row, upd, vp_updL, hq]
theorem hb_r1_NN {ky ac st : Nat → Int32} {he cl : Nat → Int64} {un dn ds : Nat → Int32} {dd : Nat → Int64} {dl : Nat → Int32} {bal : Nat → Int64} {t : Int32} {p : Nat} (kE : ¬ (st p = 1 ∧ un p ≤ t)) (kC : ¬ ((ds p = 1 ∨ ds p = 2) ∧ dl p < t)) (kL : ¬ (ds p = 2 ∧ dl p < t)) : ((bal, hb_row ky ac st he cl un dn ds dd dl) : hbT) = hb_r1 t (bal, hb_row ky ac st he cl un dn ds dd dl) p := by
  refine Prod.ext ?_ (funext fun q => ?_)
  · show _ = if ds p = 2 ∧ dl p < t then vp_updL bal (ac p).toNatClampNeg (bal (ac p).toNatClampNeg - dd p) else bal
    rw [if_neg kL]
  · show _ = if q = p then hb_rp t (hb_row ky ac st he cl un dn ds dd dl p) else hb_row ky ac st he cl un dn ds dd dl q
    by_cases hq : q = p
    · subst hq
      rw [if_pos rfl]
      simp [hb_row, hb_rp, upd, vp_updL, kE, kC]
    · rw [if_neg hq]
      try simp [hb_row, upd, vp_updL, hq]
theorem hb_r1_NW {ky ac st : Nat → Int32} {he cl : Nat → Int64} {un dn ds : Nat → Int32} {dd : Nat → Int64} {dl : Nat → Int32} {bal : Nat → Int64} {t : Int32} {p : Nat} (kE : ¬ (st p = 1 ∧ un p ≤ t)) (kC : (ds p = 1 ∨ ds p = 2) ∧ dl p < t) (kL : ¬ (ds p = 2 ∧ dl p < t)) (kd : ds p = 1) {ka : Nat} (hka : (ac p).toNatClampNeg = ka) : ((vp_updL bal ka (bal ka - (if 1 = 0 then dd p else 0)), hb_row ky ac st he cl un dn (upd ds p (if 1 = 0 then 4 else 3)) dd (upd dl p (-1))) : hbT) = hb_r1 t (bal, hb_row ky ac st he cl un dn ds dd dl) p := by
  refine Prod.ext ?_ (funext fun q => ?_)
  · show _ = if ds p = 2 ∧ dl p < t then vp_updL bal (ac p).toNatClampNeg (bal (ac p).toNatClampNeg - dd p) else bal
    rw [if_neg kL, if_neg (by decide), hb_upd0]
  · show _ = if q = p then hb_rp t (hb_row ky ac st he cl un dn ds dd dl p) else hb_row ky ac st he cl un dn ds dd dl q
    by_cases hq : q = p
    · subst hq
      rw [if_pos rfl]
      simp [hb_row, hb_rp, upd, vp_updL, kE, kC, kd]
    · rw [if_neg hq]
      try simp [hb_row, upd, vp_updL, hq]
theorem hb_r1_NL {ky ac st : Nat → Int32} {he cl : Nat → Int64} {un dn ds : Nat → Int32} {dd : Nat → Int64} {dl : Nat → Int32} {bal : Nat → Int64} {t : Int32} {p : Nat} (kE : ¬ (st p = 1 ∧ un p ≤ t)) (kC : (ds p = 1 ∨ ds p = 2) ∧ dl p < t) (kL : ds p = 2 ∧ dl p < t) (kd : ds p = 2) {ka : Nat} (hka : (ac p).toNatClampNeg = ka) : ((vp_updL bal ka (bal ka - (if 0 = 0 then dd p else 0)), hb_row ky ac st he cl un dn (upd ds p (if 0 = 0 then 4 else 3)) dd (upd dl p (-1))) : hbT) = hb_r1 t (bal, hb_row ky ac st he cl un dn ds dd dl) p := by
  refine Prod.ext ?_ (funext fun q => ?_)
  · show _ = if ds p = 2 ∧ dl p < t then vp_updL bal (ac p).toNatClampNeg (bal (ac p).toNatClampNeg - dd p) else bal
    rw [if_pos kL, hka, if_pos rfl]
  · show _ = if q = p then hb_rp t (hb_row ky ac st he cl un dn ds dd dl p) else hb_row ky ac st he cl un dn ds dd dl q
    by_cases hq : q = p
    · subst hq
      rw [if_pos rfl]
      simp [hb_row, hb_rp, upd, vp_updL, kE, kC, kd]
    · rw [if_neg hq]
      try simp [hb_row, upd, vp_updL, hq]
set_option maxHeartbeats 4000000 in
set_option maxRecDepth 100000 in
/-- ticks: bad -/
theorem c_Md_ticks_bad {l : Launch} {s0 : State} {D : va_G} {cI cJ cO : ClassId} {e0 mi : Nat} (hE : hb_E l s0 D cI cJ cO e0 mi) (M : hb_M) (y b0 b1 b2 b3 b4 b5 b6 b7 b8 b9 b10 b11 : Nat) (cd ho pa tm : Int32) (na np : Nat) (bal mi : Nat → Int64) (ky ac st : Nat → Int32) (he cl : Nat → Int64) (un dn ds : Nat → Int32) (dd : Nat → Int64) (dl : Nat → Int32) (h : mR cI cJ M y b0 b1 b2 b3 b4 b5 b6 b7 b8 b9 b10 b11 cd ho pa tm na np bal mi ky ac st he cl un dn ds dd dl) (hna : na ≤ 16) (hnp : np ≤ 60) (n : Int32) (hn : n < 1 ∨ 1000 < n) : hb_Met l D hb_cl s0 y_Md_ticks b_Md_ticks 5 (some .int) { frames := 3, cells := 0, slots := 0, locals := 100 } [.ref y, .int n] M (fun v M1 => v = some (.int 0) ∧ mR cI cJ M1 y b0 b1 b2 b3 b4 b5 b6 b7 b8 b9 b10 b11 1 ho pa tm na np bal mi ky ac st he cl un dn ds dd dl) := by
  refine hb_Met.of (by decide) (Nat.le_of_ble_eq_true rfl) ?_
  intro p e s m below meth c A hAe hX hz hP hD hA hS ls hl
  obtain ⟨hx, hb, hr, hml, hown, hlocks, hnm, hG, hnh⟩ := id hX
  have hown : s.vm.findClass "HoldBookModel" = some m.cls := hown
  have hts := hE.ts hG ([.ref y, .int n] : List Value).toArray
  have hK := hE.kn hG
  have hl : lv_has ls 5 [(0, .ref y), (1, .int n)] := hl
  obtain ⟨fy, g0, g1, g2, g3, g4, g5, g6, g7, g8, g9, g10, g11, hap⟩ := id h
  refine lv_iload_n hx hb d_Md_ticks_0 rfl (lv_at hl 1 rfl) ?_
  refine lv_iconst (v := 1) hx hb d_Md_ticks_1 (by decide) ?_
  refine lv_icmp_lt (tgt := 16) hx hb d_Md_ticks_2 (by decide) (fun c1 => ?_) (fun c1 => ?_)
  · skip
    refine lv_iconst (v := 0) hx hb d_Md_ticks_16 (by decide) ?_
    refine lv_istore_n (lv' := [(2, .int 0), (0, .ref y), (1, .int n)]) hx hb d_Md_ticks_17 rfl hl (by decide) rfl (fun ls hl => ?_)
    refine lv_aload_n hx hb d_Md_ticks_18 rfl (lv_at hl 1 rfl) ?_
    refine lv_iload_n hx hb d_Md_ticks_19 rfl (lv_at hl 0 rfl) ?_
    refine lv_if_ne (tgt := 27) hx hb d_Md_ticks_20 (by decide) (fun c2 => ?_) (fun c2 => ?_)
    · skip
      exfalso; revert c2; decide
    · skip
      refine lv_iconst (v := 1) hx hb d_Md_ticks_23 (by decide) ?_
      refine lv_goto (tgt := 43) hx hb d_Md_ticks_24 (by decide) ?_
      refine hb_put (ty := .int) hx hb hts hown hC_Md hK hP hD hS fy 0 (by decide) rfl fl_Md_54 rfl rfl rfl rfl (Nat.le_of_ble_eq_true rfl) d_Md_ticks_43 (fun M3 H locs eM4 hP hD hS => ?_)
      have f5 : M3 y = some (.inr (4, [.int 1, .int ho, .int pa, .int tm, .int (nI na), .ref b0, .ref b1, .int (nI np), .ref b2, .ref b3, .ref b4, .ref b5, .ref b6, .ref b7, .ref b8, .ref b9, .ref b10, .ref b11])) := by rw [eM4]; exact hb_up_self
      have f6 : M3 b0 = some (.inl (cJ, 16, .inr (.inl bal))) := by rw [eM4, hb_up_ne (fun q9 => by rw [q9, fy] at g0; cases g0)]; exact g0
      have f7 : M3 b1 = some (.inl (cJ, 16, .inr (.inl mi))) := by rw [eM4, hb_up_ne (fun q9 => by rw [q9, fy] at g1; cases g1)]; exact g1
      have f8 : M3 b2 = some (.inl (cI, 60, .inl ky)) := by rw [eM4, hb_up_ne (fun q9 => by rw [q9, fy] at g2; cases g2)]; exact g2
      have f9 : M3 b3 = some (.inl (cI, 60, .inl ac)) := by rw [eM4, hb_up_ne (fun q9 => by rw [q9, fy] at g3; cases g3)]; exact g3
      have f10 : M3 b4 = some (.inl (cI, 60, .inl st)) := by rw [eM4, hb_up_ne (fun q9 => by rw [q9, fy] at g4; cases g4)]; exact g4
      have f11 : M3 b5 = some (.inl (cJ, 60, .inr (.inl he))) := by rw [eM4, hb_up_ne (fun q9 => by rw [q9, fy] at g5; cases g5)]; exact g5
      have f12 : M3 b6 = some (.inl (cJ, 60, .inr (.inl cl))) := by rw [eM4, hb_up_ne (fun q9 => by rw [q9, fy] at g6; cases g6)]; exact g6
      have f13 : M3 b7 = some (.inl (cI, 60, .inl un)) := by rw [eM4, hb_up_ne (fun q9 => by rw [q9, fy] at g7; cases g7)]; exact g7
      have f14 : M3 b8 = some (.inl (cI, 60, .inl dn)) := by rw [eM4, hb_up_ne (fun q9 => by rw [q9, fy] at g8; cases g8)]; exact g8
      have f15 : M3 b9 = some (.inl (cI, 60, .inl ds)) := by rw [eM4, hb_up_ne (fun q9 => by rw [q9, fy] at g9; cases g9)]; exact g9
      have f16 : M3 b10 = some (.inl (cJ, 60, .inr (.inl dd))) := by rw [eM4, hb_up_ne (fun q9 => by rw [q9, fy] at g10; cases g10)]; exact g10
      have f17 : M3 b11 = some (.inl (cI, 60, .inl dl)) := by rw [eM4, hb_up_ne (fun q9 => by rw [q9, fy] at g11; cases g11)]; exact g11
      refine lv_aload_n hx hb d_Md_ticks_46 rfl (lv_at hl 1 rfl) ?_
      refine hb_get hx hb hts hown hC_Md hK hP f5 0 (by decide) rfl fl_Md_54 rfl d_Md_ticks_47 ?_
      refine lv_if_le (tgt := 55) hx hb d_Md_ticks_50 (by decide) (fun c18 => ?_) (fun c18 => ?_)
      · skip
        have c18n := hb_ngti c18
        exfalso; revert c18; decide
      · skip
        have c18n := hb_gti c18
        refine lv_iconst (v := 0) hx hb d_Md_ticks_53 (by decide) ?_
        exact hb_iret hAe hx hb hr hlocks hP hD hS (Nat.le_of_ble_eq_true rfl) (Nat.le_of_ble_eq_true rfl) (⟨rfl, ⟨f5, f6, f7, f8, f9, f10, f11, f12, f13, f14, f15, f16, f17, hap⟩⟩) d_Md_ticks_54
  · skip
    refine lv_iload_n hx hb d_Md_ticks_5 rfl (lv_at hl 1 rfl) ?_
    refine lv_sipush (v := 1000) hx hb d_Md_ticks_6 (by decide) ?_
    refine lv_icmp_gt (tgt := 16) hx hb d_Md_ticks_9 (by decide) (fun c19 => ?_) (fun c19 => ?_)
    · skip
      refine lv_iconst (v := 0) hx hb d_Md_ticks_16 (by decide) ?_
      refine lv_istore_n (lv' := [(2, .int 0), (0, .ref y), (1, .int n)]) hx hb d_Md_ticks_17 rfl hl (by decide) rfl (fun ls hl => ?_)
      refine lv_aload_n hx hb d_Md_ticks_18 rfl (lv_at hl 1 rfl) ?_
      refine lv_iload_n hx hb d_Md_ticks_19 rfl (lv_at hl 0 rfl) ?_
      refine lv_if_ne (tgt := 27) hx hb d_Md_ticks_20 (by decide) (fun c20 => ?_) (fun c20 => ?_)
      · skip
        exfalso; revert c20; decide
      · skip
        refine lv_iconst (v := 1) hx hb d_Md_ticks_23 (by decide) ?_
        refine lv_goto (tgt := 43) hx hb d_Md_ticks_24 (by decide) ?_
        refine hb_put (ty := .int) hx hb hts hown hC_Md hK hP hD hS fy 0 (by decide) rfl fl_Md_54 rfl rfl rfl rfl (Nat.le_of_ble_eq_true rfl) d_Md_ticks_43 (fun M21 H locs eM22 hP hD hS => ?_)
        have f23 : M21 y = some (.inr (4, [.int 1, .int ho, .int pa, .int tm, .int (nI na), .ref b0, .ref b1, .int (nI np), .ref b2, .ref b3, .ref b4, .ref b5, .ref b6, .ref b7, .ref b8, .ref b9, .ref b10, .ref b11])) := by rw [eM22]; exact hb_up_self
        have f24 : M21 b0 = some (.inl (cJ, 16, .inr (.inl bal))) := by rw [eM22, hb_up_ne (fun q9 => by rw [q9, fy] at g0; cases g0)]; exact g0
        have f25 : M21 b1 = some (.inl (cJ, 16, .inr (.inl mi))) := by rw [eM22, hb_up_ne (fun q9 => by rw [q9, fy] at g1; cases g1)]; exact g1
        have f26 : M21 b2 = some (.inl (cI, 60, .inl ky)) := by rw [eM22, hb_up_ne (fun q9 => by rw [q9, fy] at g2; cases g2)]; exact g2
        have f27 : M21 b3 = some (.inl (cI, 60, .inl ac)) := by rw [eM22, hb_up_ne (fun q9 => by rw [q9, fy] at g3; cases g3)]; exact g3
        have f28 : M21 b4 = some (.inl (cI, 60, .inl st)) := by rw [eM22, hb_up_ne (fun q9 => by rw [q9, fy] at g4; cases g4)]; exact g4
        have f29 : M21 b5 = some (.inl (cJ, 60, .inr (.inl he))) := by rw [eM22, hb_up_ne (fun q9 => by rw [q9, fy] at g5; cases g5)]; exact g5
        have f30 : M21 b6 = some (.inl (cJ, 60, .inr (.inl cl))) := by rw [eM22, hb_up_ne (fun q9 => by rw [q9, fy] at g6; cases g6)]; exact g6
        have f31 : M21 b7 = some (.inl (cI, 60, .inl un)) := by rw [eM22, hb_up_ne (fun q9 => by rw [q9, fy] at g7; cases g7)]; exact g7
        have f32 : M21 b8 = some (.inl (cI, 60, .inl dn)) := by rw [eM22, hb_up_ne (fun q9 => by rw [q9, fy] at g8; cases g8)]; exact g8
        have f33 : M21 b9 = some (.inl (cI, 60, .inl ds)) := by rw [eM22, hb_up_ne (fun q9 => by rw [q9, fy] at g9; cases g9)]; exact g9
        have f34 : M21 b10 = some (.inl (cJ, 60, .inr (.inl dd))) := by rw [eM22, hb_up_ne (fun q9 => by rw [q9, fy] at g10; cases g10)]; exact g10
        have f35 : M21 b11 = some (.inl (cI, 60, .inl dl)) := by rw [eM22, hb_up_ne (fun q9 => by rw [q9, fy] at g11; cases g11)]; exact g11
        refine lv_aload_n hx hb d_Md_ticks_46 rfl (lv_at hl 1 rfl) ?_
        refine hb_get hx hb hts hown hC_Md hK hP f23 0 (by decide) rfl fl_Md_54 rfl d_Md_ticks_47 ?_
        refine lv_if_le (tgt := 55) hx hb d_Md_ticks_50 (by decide) (fun c36 => ?_) (fun c36 => ?_)
        · skip
          have c36n := hb_ngti c36
          exfalso; revert c36; decide
        · skip
          have c36n := hb_gti c36
          refine lv_iconst (v := 0) hx hb d_Md_ticks_53 (by decide) ?_
          exact hb_iret hAe hx hb hr hlocks hP hD hS (Nat.le_of_ble_eq_true rfl) (Nat.le_of_ble_eq_true rfl) (⟨rfl, ⟨f23, f24, f25, f26, f27, f28, f29, f30, f31, f32, f33, f34, f35, hap⟩⟩) d_Md_ticks_54
    · skip
      exact absurd hn (by intro z; rcases z with z | z <;> exact absurd z (by assumption))
set_option maxHeartbeats 4000000 in
set_option maxRecDepth 100000 in
/-- ticks: ise -/
theorem c_Md_ticks_ise {l : Launch} {s0 : State} {D : va_G} {cI cJ cO : ClassId} {e0 mi : Nat} (hE : hb_E l s0 D cI cJ cO e0 mi) (M : hb_M) (y b0 b1 b2 b3 b4 b5 b6 b7 b8 b9 b10 b11 : Nat) (cd ho pa tm : Int32) (na np : Nat) (bal mi : Nat → Int64) (ky ac st : Nat → Int32) (he cl : Nat → Int64) (un dn ds : Nat → Int32) (dd : Nat → Int64) (dl : Nat → Int32) (h : mR cI cJ M y b0 b1 b2 b3 b4 b5 b6 b7 b8 b9 b10 b11 cd ho pa tm na np bal mi ky ac st he cl un dn ds dd dl) (hna : na ≤ 16) (hnp : np ≤ 60) (nn : Nat) (hn1 : 1 ≤ nn) (hn2 : nn ≤ 1000) (hti : 1000000 < tm + nI nn) : hb_Met l D hb_cl s0 y_Md_ticks b_Md_ticks 5 (some .int) { frames := 3, cells := 0, slots := 0, locals := 100 } [.ref y, .int (nI nn)] M (fun v M1 => v = some (.int 0) ∧ mR cI cJ M1 y b0 b1 b2 b3 b4 b5 b6 b7 b8 b9 b10 b11 2 ho pa tm na np bal mi ky ac st he cl un dn ds dd dl) := by
  refine hb_Met.of (by decide) (Nat.le_of_ble_eq_true rfl) ?_
  intro p e s m below meth c A hAe hX hz hP hD hA hS ls hl
  obtain ⟨hx, hb, hr, hml, hown, hlocks, hnm, hG, hnh⟩ := id hX
  have hown : s.vm.findClass "HoldBookModel" = some m.cls := hown
  have hts := hE.ts hG ([.ref y, .int (nI nn)] : List Value).toArray
  have hK := hE.kn hG
  have hl : lv_has ls 5 [(0, .ref y), (1, .int (nI nn))] := hl
  obtain ⟨fy, g0, g1, g2, g3, g4, g5, g6, g7, g8, g9, g10, g11, hap⟩ := id h
  refine lv_iload_n hx hb d_Md_ticks_0 rfl (lv_at hl 1 rfl) ?_
  refine lv_iconst (v := 1) hx hb d_Md_ticks_1 (by decide) ?_
  refine lv_icmp_lt (tgt := 16) hx hb d_Md_ticks_2 (by decide) (fun c1 => ?_) (fun c1 => ?_)
  · skip
    exact absurd ((nI_ltI (b := 1) (by omega) (by omega)).mp c1) (by omega)
  · skip
    refine lv_iload_n hx hb d_Md_ticks_5 rfl (lv_at hl 1 rfl) ?_
    refine lv_sipush (v := 1000) hx hb d_Md_ticks_6 (by decide) ?_
    refine lv_icmp_gt (tgt := 16) hx hb d_Md_ticks_9 (by decide) (fun c2 => ?_) (fun c2 => ?_)
    · skip
      exact absurd ((nI_ltI (a := 1000) (by omega) (by omega)).mp c2) (by omega)
    · skip
      refine lv_iconst (v := 1) hx hb d_Md_ticks_12 (by decide) ?_
      refine lv_goto (tgt := 17) hx hb d_Md_ticks_13 (by decide) ?_
      refine lv_istore_n (lv' := [(2, .int 1), (0, .ref y), (1, .int (nI nn))]) hx hb d_Md_ticks_17 rfl hl (by decide) rfl (fun ls hl => ?_)
      refine lv_aload_n hx hb d_Md_ticks_18 rfl (lv_at hl 1 rfl) ?_
      refine lv_iload_n hx hb d_Md_ticks_19 rfl (lv_at hl 0 rfl) ?_
      refine lv_if_ne (tgt := 27) hx hb d_Md_ticks_20 (by decide) (fun c3 => ?_) (fun c3 => ?_)
      · skip
        refine lv_aload_n hx hb d_Md_ticks_27 rfl (lv_at hl 1 rfl) ?_
        refine hb_get hx hb hts hown hC_Md hK hP fy 3 (by decide) rfl fl_Md_104 rfl d_Md_ticks_28 ?_
        refine lv_iload_n hx hb d_Md_ticks_31 rfl (lv_at hl 2 rfl) ?_
        refine lv_iadd hx hb d_Md_ticks_32 ?_
        refine lv_ldc (v := 1000000) hx hb hown (hts _ kc_Md_57) d_Md_ticks_33 ?_
        refine lv_icmp_le (tgt := 42) hx hb d_Md_ticks_35 (by decide) (fun c4 => ?_) (fun c4 => ?_)
        · skip
          have c4n := hb_ngti c4
          exact absurd hti c4n
        · skip
          have c4n := hb_gti c4
          refine lv_iconst (v := 2) hx hb d_Md_ticks_38 (by decide) ?_
          refine lv_goto (tgt := 43) hx hb d_Md_ticks_39 (by decide) ?_
          refine hb_put (ty := .int) hx hb hts hown hC_Md hK hP hD hS fy 0 (by decide) rfl fl_Md_54 rfl rfl rfl rfl (Nat.le_of_ble_eq_true rfl) d_Md_ticks_43 (fun M5 H locs eM6 hP hD hS => ?_)
          have f7 : M5 y = some (.inr (4, [.int 2, .int ho, .int pa, .int tm, .int (nI na), .ref b0, .ref b1, .int (nI np), .ref b2, .ref b3, .ref b4, .ref b5, .ref b6, .ref b7, .ref b8, .ref b9, .ref b10, .ref b11])) := by rw [eM6]; exact hb_up_self
          have f8 : M5 b0 = some (.inl (cJ, 16, .inr (.inl bal))) := by rw [eM6, hb_up_ne (fun q9 => by rw [q9, fy] at g0; cases g0)]; exact g0
          have f9 : M5 b1 = some (.inl (cJ, 16, .inr (.inl mi))) := by rw [eM6, hb_up_ne (fun q9 => by rw [q9, fy] at g1; cases g1)]; exact g1
          have f10 : M5 b2 = some (.inl (cI, 60, .inl ky)) := by rw [eM6, hb_up_ne (fun q9 => by rw [q9, fy] at g2; cases g2)]; exact g2
          have f11 : M5 b3 = some (.inl (cI, 60, .inl ac)) := by rw [eM6, hb_up_ne (fun q9 => by rw [q9, fy] at g3; cases g3)]; exact g3
          have f12 : M5 b4 = some (.inl (cI, 60, .inl st)) := by rw [eM6, hb_up_ne (fun q9 => by rw [q9, fy] at g4; cases g4)]; exact g4
          have f13 : M5 b5 = some (.inl (cJ, 60, .inr (.inl he))) := by rw [eM6, hb_up_ne (fun q9 => by rw [q9, fy] at g5; cases g5)]; exact g5
          have f14 : M5 b6 = some (.inl (cJ, 60, .inr (.inl cl))) := by rw [eM6, hb_up_ne (fun q9 => by rw [q9, fy] at g6; cases g6)]; exact g6
          have f15 : M5 b7 = some (.inl (cI, 60, .inl un)) := by rw [eM6, hb_up_ne (fun q9 => by rw [q9, fy] at g7; cases g7)]; exact g7
          have f16 : M5 b8 = some (.inl (cI, 60, .inl dn)) := by rw [eM6, hb_up_ne (fun q9 => by rw [q9, fy] at g8; cases g8)]; exact g8
          have f17 : M5 b9 = some (.inl (cI, 60, .inl ds)) := by rw [eM6, hb_up_ne (fun q9 => by rw [q9, fy] at g9; cases g9)]; exact g9
          have f18 : M5 b10 = some (.inl (cJ, 60, .inr (.inl dd))) := by rw [eM6, hb_up_ne (fun q9 => by rw [q9, fy] at g10; cases g10)]; exact g10
          have f19 : M5 b11 = some (.inl (cI, 60, .inl dl)) := by rw [eM6, hb_up_ne (fun q9 => by rw [q9, fy] at g11; cases g11)]; exact g11
          refine lv_aload_n hx hb d_Md_ticks_46 rfl (lv_at hl 1 rfl) ?_
          refine hb_get hx hb hts hown hC_Md hK hP f7 0 (by decide) rfl fl_Md_54 rfl d_Md_ticks_47 ?_
          refine lv_if_le (tgt := 55) hx hb d_Md_ticks_50 (by decide) (fun c20 => ?_) (fun c20 => ?_)
          · skip
            have c20n := hb_ngti c20
            exfalso; revert c20; decide
          · skip
            have c20n := hb_gti c20
            refine lv_iconst (v := 0) hx hb d_Md_ticks_53 (by decide) ?_
            exact hb_iret hAe hx hb hr hlocks hP hD hS (Nat.le_of_ble_eq_true rfl) (Nat.le_of_ble_eq_true rfl) (⟨rfl, ⟨f7, f8, f9, f10, f11, f12, f13, f14, f15, f16, f17, f18, f19, hap⟩⟩) d_Md_ticks_54
      · skip
        exfalso; revert c3; decide
set_option maxHeartbeats 4000000 in
set_option maxRecDepth 100000 in
/-- ticks: ok -/
theorem c_Md_ticks_ok {l : Launch} {s0 : State} {D : va_G} {cI cJ cO : ClassId} {e0 mi : Nat} (hE : hb_E l s0 D cI cJ cO e0 mi) (M : hb_M) (y b0 b1 b2 b3 b4 b5 b6 b7 b8 b9 b10 b11 : Nat) (cd ho pa tm : Int32) (na np : Nat) (bal mi : Nat → Int64) (ky ac st : Nat → Int32) (he cl : Nat → Int64) (un dn ds : Nat → Int32) (dd : Nat → Int64) (dl : Nat → Int32) (h : mR cI cJ M y b0 b1 b2 b3 b4 b5 b6 b7 b8 b9 b10 b11 cd ho pa tm na np bal mi ky ac st he cl un dn ds dd dl) (hna : na ≤ 16) (hnp : np ≤ 60) (nn : Nat) (hn1 : 1 ≤ nn) (hn2 : nn ≤ 1000) (hti : ¬ 1000000 < tm + nI nn) (hfd : hb_fd np (bal, hb_row ky ac st he cl un dn ds dd dl)) : hb_Met l D hb_cl s0 y_Md_ticks b_Md_ticks 5 (some .int) { frames := 3, cells := 0, slots := 0, locals := 100 } [.ref y, .int (nI nn)] M (fun v M1 => v = some (.int (tm + nI nn)) ∧ ∃ (bal1 : Nat → Int64) (st1 : Nat → Int32) (he1 : Nat → Int64) (un1 dn1 ds1 dl1 : Nat → Int32), mR cI cJ M1 y b0 b1 b2 b3 b4 b5 b6 b7 b8 b9 b10 b11 0 ho pa (tm + nI nn) na np bal1 mi ky ac st1 he1 cl un1 dn1 ds1 dd dl1 ∧ ((bal1, hb_row ky ac st1 he1 cl un1 dn1 ds1 dd dl1) : hbT) = hb_rn tm (bal, hb_row ky ac st he cl un dn ds dd dl) np nn) := by
  refine hb_Met.of (by decide) (Nat.le_of_ble_eq_true rfl) ?_
  intro p e s m below meth c A hAe hX hz hP hD hA hS ls hl
  obtain ⟨hx, hb, hr, hml, hown, hlocks, hnm, hG, hnh⟩ := id hX
  have hown : s.vm.findClass "HoldBookModel" = some m.cls := hown
  have hts := hE.ts hG ([.ref y, .int (nI nn)] : List Value).toArray
  have hK := hE.kn hG
  have hl : lv_has ls 5 [(0, .ref y), (1, .int (nI nn))] := hl
  obtain ⟨fy, g0, g1, g2, g3, g4, g5, g6, g7, g8, g9, g10, g11, hap⟩ := id h
  refine lv_iload_n hx hb d_Md_ticks_0 rfl (lv_at hl 1 rfl) ?_
  refine lv_iconst (v := 1) hx hb d_Md_ticks_1 (by decide) ?_
  refine lv_icmp_lt (tgt := 16) hx hb d_Md_ticks_2 (by decide) (fun c1 => ?_) (fun c1 => ?_)
  · skip
    exact absurd ((nI_ltI (b := 1) (by omega) (by omega)).mp c1) (by omega)
  · skip
    refine lv_iload_n hx hb d_Md_ticks_5 rfl (lv_at hl 1 rfl) ?_
    refine lv_sipush (v := 1000) hx hb d_Md_ticks_6 (by decide) ?_
    refine lv_icmp_gt (tgt := 16) hx hb d_Md_ticks_9 (by decide) (fun c2 => ?_) (fun c2 => ?_)
    · skip
      exact absurd ((nI_ltI (a := 1000) (by omega) (by omega)).mp c2) (by omega)
    · skip
      refine lv_iconst (v := 1) hx hb d_Md_ticks_12 (by decide) ?_
      refine lv_goto (tgt := 17) hx hb d_Md_ticks_13 (by decide) ?_
      refine lv_istore_n (lv' := [(2, .int 1), (0, .ref y), (1, .int (nI nn))]) hx hb d_Md_ticks_17 rfl hl (by decide) rfl (fun ls hl => ?_)
      refine lv_aload_n hx hb d_Md_ticks_18 rfl (lv_at hl 1 rfl) ?_
      refine lv_iload_n hx hb d_Md_ticks_19 rfl (lv_at hl 0 rfl) ?_
      refine lv_if_ne (tgt := 27) hx hb d_Md_ticks_20 (by decide) (fun c3 => ?_) (fun c3 => ?_)
      · skip
        refine lv_aload_n hx hb d_Md_ticks_27 rfl (lv_at hl 1 rfl) ?_
        refine hb_get hx hb hts hown hC_Md hK hP fy 3 (by decide) rfl fl_Md_104 rfl d_Md_ticks_28 ?_
        refine lv_iload_n hx hb d_Md_ticks_31 rfl (lv_at hl 2 rfl) ?_
        refine lv_iadd hx hb d_Md_ticks_32 ?_
        refine lv_ldc (v := 1000000) hx hb hown (hts _ kc_Md_57) d_Md_ticks_33 ?_
        refine lv_icmp_le (tgt := 42) hx hb d_Md_ticks_35 (by decide) (fun c4 => ?_) (fun c4 => ?_)
        · skip
          have c4n := hb_ngti c4
          refine lv_iconst (v := 0) hx hb d_Md_ticks_42 (by decide) ?_
          refine hb_put (ty := .int) hx hb hts hown hC_Md hK hP hD hS fy 0 (by decide) rfl fl_Md_54 rfl rfl rfl rfl (Nat.le_of_ble_eq_true rfl) d_Md_ticks_43 (fun M5 H locs eM6 hP hD hS => ?_)
          have f7 : M5 y = some (.inr (4, [.int 0, .int ho, .int pa, .int tm, .int (nI na), .ref b0, .ref b1, .int (nI np), .ref b2, .ref b3, .ref b4, .ref b5, .ref b6, .ref b7, .ref b8, .ref b9, .ref b10, .ref b11])) := by rw [eM6]; exact hb_up_self
          have f8 : M5 b0 = some (.inl (cJ, 16, .inr (.inl bal))) := by rw [eM6, hb_up_ne (fun q9 => by rw [q9, fy] at g0; cases g0)]; exact g0
          have f9 : M5 b1 = some (.inl (cJ, 16, .inr (.inl mi))) := by rw [eM6, hb_up_ne (fun q9 => by rw [q9, fy] at g1; cases g1)]; exact g1
          have f10 : M5 b2 = some (.inl (cI, 60, .inl ky)) := by rw [eM6, hb_up_ne (fun q9 => by rw [q9, fy] at g2; cases g2)]; exact g2
          have f11 : M5 b3 = some (.inl (cI, 60, .inl ac)) := by rw [eM6, hb_up_ne (fun q9 => by rw [q9, fy] at g3; cases g3)]; exact g3
          have f12 : M5 b4 = some (.inl (cI, 60, .inl st)) := by rw [eM6, hb_up_ne (fun q9 => by rw [q9, fy] at g4; cases g4)]; exact g4
          have f13 : M5 b5 = some (.inl (cJ, 60, .inr (.inl he))) := by rw [eM6, hb_up_ne (fun q9 => by rw [q9, fy] at g5; cases g5)]; exact g5
          have f14 : M5 b6 = some (.inl (cJ, 60, .inr (.inl cl))) := by rw [eM6, hb_up_ne (fun q9 => by rw [q9, fy] at g6; cases g6)]; exact g6
          have f15 : M5 b7 = some (.inl (cI, 60, .inl un)) := by rw [eM6, hb_up_ne (fun q9 => by rw [q9, fy] at g7; cases g7)]; exact g7
          have f16 : M5 b8 = some (.inl (cI, 60, .inl dn)) := by rw [eM6, hb_up_ne (fun q9 => by rw [q9, fy] at g8; cases g8)]; exact g8
          have f17 : M5 b9 = some (.inl (cI, 60, .inl ds)) := by rw [eM6, hb_up_ne (fun q9 => by rw [q9, fy] at g9; cases g9)]; exact g9
          have f18 : M5 b10 = some (.inl (cJ, 60, .inr (.inl dd))) := by rw [eM6, hb_up_ne (fun q9 => by rw [q9, fy] at g10; cases g10)]; exact g10
          have f19 : M5 b11 = some (.inl (cI, 60, .inl dl)) := by rw [eM6, hb_up_ne (fun q9 => by rw [q9, fy] at g11; cases g11)]; exact g11
          refine lv_aload_n hx hb d_Md_ticks_46 rfl (lv_at hl 1 rfl) ?_
          refine hb_get hx hb hts hown hC_Md hK hP f7 0 (by decide) rfl fl_Md_54 rfl d_Md_ticks_47 ?_
          refine lv_if_le (tgt := 55) hx hb d_Md_ticks_50 (by decide) (fun c20 => ?_) (fun c20 => ?_)
          · skip
            have c20n := hb_ngti c20
            refine lv_iconst (v := 0) hx hb d_Md_ticks_55 (by decide) ?_
            refine lv_istore_n (lv' := [(3, .int 0), (2, .int 1), (0, .ref y), (1, .int (nI nn))]) hx hb d_Md_ticks_56 rfl hl (by decide) rfl (fun ls hl => ?_)
            obtain ⟨S0, eS0⟩ : ∃ z : hbT, z = (bal, hb_row ky ac st he cl un dn ds dd dl) := ⟨_, rfl⟩
            rw [← eS0] at hfd
            have hm0 : mR cI cJ M5 y b0 b1 b2 b3 b4 b5 b6 b7 b8 b9 b10 b11 0 ho pa tm na np bal mi ky ac st he cl un dn ds dd dl := ⟨f7, f8, f9, f10, f11, f12, f13, f14, f15, f16, f17, f18, f19, hap⟩
            have loop : ∀ (d i : Nat), nn - i < d → i ≤ nn → ∀ (Mc : hb_M) (balx : Nat → Int64) (stx : Nat → Int32) (hex : Nat → Int64) (unx dnx dsx dlx : Nat → Int32), mR cI cJ Mc y b0 b1 b2 b3 b4 b5 b6 b7 b8 b9 b10 b11 0 ho pa (tm + nI i) na np balx mi ky ac stx hex cl unx dnx dsx dd dlx → ((balx, hb_row ky ac stx hex cl unx dnx dsx dd dlx) : hbT) = hb_rn tm S0 np i → ∀ (H : Heap) (locs : List Loc), hb_P D hb_cl Mc H → hb_D A Mc → va_S A s.heap H locs → ∀ ls : Array Slot, lv_has ls 5 [(3, .int (nI i)), (2, .int 1), (0, .ref y), (1, .int (nI nn))] → W p l e ({ frames := 3, cells := 0, slots := 0, locals := 100 } : Room) s m ([.ref y, .int (nI nn)] : List Value).toArray below meth c H locs 0 0 (MQ below (hb_Post D hb_cl s.heap.size M (fun v M1 => v = some (.int (tm + nI nn)) ∧ ∃ (bal1 : Nat → Int64) (st1 : Nat → Int32) (he1 : Nat → Int64) (un1 dn1 ds1 dl1 : Nat → Int32), mR cI cJ M1 y b0 b1 b2 b3 b4 b5 b6 b7 b8 b9 b10 b11 0 ho pa (tm + nI nn) na np bal1 mi ky ac st1 he1 cl un1 dn1 ds1 dd dl1 ∧ ((bal1, hb_row ky ac st1 he1 cl un1 dn1 ds1 dd dl1) : hbT) = hb_rn tm (bal, hb_row ky ac st he cl un dn ds dd dl) np nn)) ([.ref y, .int (nI nn)] : List Value).toArray s 0 0 A) (F0 m 57 ls []) := by
              intro d
              induction d with
              | zero => intro i h9; exact absurd h9 (by omega)
              | succ d ih =>
                intro i hd hin Mc balx stx hex unx dnx dsx dlx hm hs H locs hP hD hS ls hl
                obtain ⟨fy21, g22, g23, g24, g25, g26, g27, g28, g29, g30, g31, g32, g33, -⟩ := id hm
                refine lv_iload_n hx hb d_Md_ticks_57 rfl (lv_at hl 0 rfl) ?_
                refine lv_iload_n hx hb d_Md_ticks_58 rfl (lv_at hl 3 rfl) ?_
                refine lv_icmp_ge (tgt := 185) hx hb d_Md_ticks_59 (by decide) (fun c34 => ?_) (fun c34 => ?_)
                · skip
                  have c34n := hb_ngti c34
                  have hie : i = nn := Nat.le_antisymm hin (by have := (nI_leI (by omega) (by omega)).mp c34; omega)
                  refine lv_aload_n hx hb d_Md_ticks_185 rfl (lv_at hl 2 rfl) ?_
                  refine hb_get hx hb hts hown hC_Md hK hP fy21 3 (by decide) rfl fl_Md_104 rfl d_Md_ticks_186 ?_
                  exact hb_iret hAe hx hb hr hlocks hP hD hS (Nat.le_of_ble_eq_true rfl) (Nat.le_of_ble_eq_true rfl) (⟨by rw [hie], balx, stx, hex, unx, dnx, dsx, dlx, by rw [hie] at hm; exact hm, by rw [hs, hie, eS0]⟩) d_Md_ticks_189
                · skip
                  have c34n := hb_gti c34
                  have hlt_i : i < nn := Nat.lt_of_not_le (fun z => c34 (nI_le z (by omega)))
                  refine lv_aload_n hx hb d_Md_ticks_62 rfl (lv_at hl 2 rfl) ?_
                  refine lv_dup hx hb d_Md_ticks_63 rfl ?_
                  refine hb_get hx hb hts hown hC_Md hK hP fy21 3 (by decide) rfl fl_Md_104 rfl d_Md_ticks_64 ?_
                  refine lv_iconst (v := 1) hx hb d_Md_ticks_67 (by decide) ?_
                  refine lv_iadd hx hb d_Md_ticks_68 ?_
                  refine W.eq (g2 := F0 m 69 ls [.int (tm + nI (i + 1)), .ref y]) (by rw [Int32.add_assoc, nI_1]) ?_
                  refine hb_put (ty := .int) hx hb hts hown hC_Md hK hP hD hS fy21 3 (by decide) rfl fl_Md_104 rfl rfl rfl rfl (Nat.le_of_ble_eq_true rfl) d_Md_ticks_69 (fun M35 H locs eM36 hP hD hS => ?_)
                  have f37 : M35 y = some (.inr (4, [.int 0, .int ho, .int pa, .int (tm + nI (i + 1)), .int (nI na), .ref b0, .ref b1, .int (nI np), .ref b2, .ref b3, .ref b4, .ref b5, .ref b6, .ref b7, .ref b8, .ref b9, .ref b10, .ref b11])) := by rw [eM36]; exact hb_up_self
                  have f38 : M35 b0 = some (.inl (cJ, 16, .inr (.inl balx))) := by rw [eM36, hb_up_ne (fun q9 => by rw [q9, fy21] at g22; cases g22)]; exact g22
                  have f39 : M35 b1 = some (.inl (cJ, 16, .inr (.inl mi))) := by rw [eM36, hb_up_ne (fun q9 => by rw [q9, fy21] at g23; cases g23)]; exact g23
                  have f40 : M35 b2 = some (.inl (cI, 60, .inl ky)) := by rw [eM36, hb_up_ne (fun q9 => by rw [q9, fy21] at g24; cases g24)]; exact g24
                  have f41 : M35 b3 = some (.inl (cI, 60, .inl ac)) := by rw [eM36, hb_up_ne (fun q9 => by rw [q9, fy21] at g25; cases g25)]; exact g25
                  have f42 : M35 b4 = some (.inl (cI, 60, .inl stx)) := by rw [eM36, hb_up_ne (fun q9 => by rw [q9, fy21] at g26; cases g26)]; exact g26
                  have f43 : M35 b5 = some (.inl (cJ, 60, .inr (.inl hex))) := by rw [eM36, hb_up_ne (fun q9 => by rw [q9, fy21] at g27; cases g27)]; exact g27
                  have f44 : M35 b6 = some (.inl (cJ, 60, .inr (.inl cl))) := by rw [eM36, hb_up_ne (fun q9 => by rw [q9, fy21] at g28; cases g28)]; exact g28
                  have f45 : M35 b7 = some (.inl (cI, 60, .inl unx)) := by rw [eM36, hb_up_ne (fun q9 => by rw [q9, fy21] at g29; cases g29)]; exact g29
                  have f46 : M35 b8 = some (.inl (cI, 60, .inl dnx)) := by rw [eM36, hb_up_ne (fun q9 => by rw [q9, fy21] at g30; cases g30)]; exact g30
                  have f47 : M35 b9 = some (.inl (cI, 60, .inl dsx)) := by rw [eM36, hb_up_ne (fun q9 => by rw [q9, fy21] at g31; cases g31)]; exact g31
                  have f48 : M35 b10 = some (.inl (cJ, 60, .inr (.inl dd))) := by rw [eM36, hb_up_ne (fun q9 => by rw [q9, fy21] at g32; cases g32)]; exact g32
                  have f49 : M35 b11 = some (.inl (cI, 60, .inl dlx)) := by rw [eM36, hb_up_ne (fun q9 => by rw [q9, fy21] at g33; cases g33)]; exact g33
                  refine lv_iconst (v := 0) hx hb d_Md_ticks_72 (by decide) ?_
                  refine lv_istore (lv' := [(4, .int 0), (3, .int (nI i)), (2, .int 1), (0, .ref y), (1, .int (nI nn))]) hx hb d_Md_ticks_73 hl (by decide) rfl (fun ls hl => ?_)
                  have hm1 : mR cI cJ M35 y b0 b1 b2 b3 b4 b5 b6 b7 b8 b9 b10 b11 0 ho pa (tm + nI (i + 1)) na np balx mi ky ac stx hex cl unx dnx dsx dd dlx := ⟨f37, f38, f39, f40, f41, f42, f43, f44, f45, f46, f47, f48, f49, hap⟩
                  obtain ⟨S1, eS1⟩ : ∃ z : hbT, z = hb_rn tm S0 np i := ⟨_, rfl⟩
                  rw [← eS1] at hs
                  have hfd1 : hb_fd np S1 := by rw [eS1]; exact hfd.rn i
                  have loop_p : ∀ (d_p p1 : Nat), np - p1 < d_p → p1 ≤ np → ∀ (Mc : hb_M) (balx : Nat → Int64) (stx : Nat → Int32) (hex : Nat → Int64) (unx dnx dsx dlx : Nat → Int32), mR cI cJ Mc y b0 b1 b2 b3 b4 b5 b6 b7 b8 b9 b10 b11 0 ho pa (tm + nI (i + 1)) na np balx mi ky ac stx hex cl unx dnx dsx dd dlx → ((balx, hb_row ky ac stx hex cl unx dnx dsx dd dlx) : hbT) = hb_rk (tm + nI (i + 1)) S1 p1 → ∀ (H : Heap) (locs : List Loc), hb_P D hb_cl Mc H → hb_D A Mc → va_S A s.heap H locs → ∀ ls : Array Slot, lv_has ls 5 [(4, .int (nI p1)), (3, .int (nI i)), (2, .int 1), (0, .ref y), (1, .int (nI nn))] → W p l e ({ frames := 3, cells := 0, slots := 0, locals := 100 } : Room) s m ([.ref y, .int (nI nn)] : List Value).toArray below meth c H locs 0 0 (MQ below (hb_Post D hb_cl s.heap.size M (fun v M1 => v = some (.int (tm + nI nn)) ∧ ∃ (bal1 : Nat → Int64) (st1 : Nat → Int32) (he1 : Nat → Int64) (un1 dn1 ds1 dl1 : Nat → Int32), mR cI cJ M1 y b0 b1 b2 b3 b4 b5 b6 b7 b8 b9 b10 b11 0 ho pa (tm + nI nn) na np bal1 mi ky ac st1 he1 cl un1 dn1 ds1 dd dl1 ∧ ((bal1, hb_row ky ac st1 he1 cl un1 dn1 ds1 dd dl1) : hbT) = hb_rn tm (bal, hb_row ky ac st he cl un dn ds dd dl) np nn)) ([.ref y, .int (nI nn)] : List Value).toArray s 0 0 A) (F0 m 75 ls []) := by
                    intro d_p
                    induction d_p with
                    | zero => intro p1 h9; exact absurd h9 (by omega)
                    | succ d_p ih_p =>
                      intro p1 hd_p hn_p1 Mc balx stx hex unx dnx dsx dlx hm1 hs1 H locs hP hD hS ls hl
                      have hfd2 := hfd1.rk (t := tm + nI (i + 1)) p1
                      rw [← hs1] at hfd2
                      obtain ⟨fy50, g51, g52, g53, g54, g55, g56, g57, g58, g59, g60, g61, g62, -⟩ := id hm1
                      refine lv_iload hx hb d_Md_ticks_75 (lv_at hl 0 rfl) ?_
                      refine lv_aload_n hx hb d_Md_ticks_77 rfl (lv_at hl 3 rfl) ?_
                      refine hb_get hx hb hts hown hC_Md hK hP fy50 7 (by decide) rfl fl_Md_60 rfl d_Md_ticks_78 ?_
                      refine lv_icmp_ge (tgt := 179) hx hb d_Md_ticks_81 (by decide) (fun c63 => ?_) (fun c63 => ?_)
                      · skip
                        have c63n := hb_ngti c63
                        have he_p1 : p1 = np := Nat.le_antisymm hn_p1 (by have := (nI_leI (by omega) (by omega)).mp c63; omega)
                        have hs1 : ((balx, hb_row ky ac stx hex cl unx dnx dsx dd dlx) : hbT) = hb_rn tm S0 np (i + 1) := by rw [hs1, he_p1, eS1]; rfl
                        refine lv_iinc (v := (nI i) + 1) (lv' := [(3, .int ((nI i) + 1)), (4, .int (nI p1)), (2, .int 1), (0, .ref y), (1, .int (nI nn))]) hx hb d_Md_ticks_179 hl (k := 1) rfl (by rfl) (by decide) rfl (fun ls hl => ?_)
                        refine lv_goto (tgt := 57) hx hb d_Md_ticks_182 (by decide) ?_
                        exact ih (i + 1) (by omega) (by omega) _ balx stx hex unx dnx dsx dlx hm1 hs1 _ _ hP hD hS _ (by rw [← nI_1]; exact lv_sub hl [0, 2, 3, 4] rfl)
                      · skip
                        have c63n := hb_gti c63
                        have hlt_p1 : p1 < np := Nat.lt_of_not_le (fun z => c63 (nI_le z (by omega)))
                        refine lv_aload_n hx hb d_Md_ticks_84 rfl (lv_at hl 3 rfl) ?_
                        refine hb_get hx hb hts hown hC_Md hK hP fy50 10 (by decide) rfl fl_Md_23 rfl d_Md_ticks_85 ?_
                        refine lv_iload hx hb d_Md_ticks_88 (lv_at hl 0 rfl) ?_
                        refine va_iald hx hb hK (hP.one g55) 0 0 rfl rfl (vp_in_nI (by omega) (by omega)) d_Md_ticks_90 ?_
                        refine W.eq (g2 := F0 m 91 ls [.int (stx p1)]) (by rw [nI_clamp (show p1 < 2 ^ 31 by omega)]) ?_
                        refine lv_iconst (v := 1) hx hb d_Md_ticks_91 (by decide) ?_
                        refine lv_icmp_ne (tgt := 115) hx hb d_Md_ticks_92 (by decide) (fun c64 => ?_) (fun c64 => ?_)
                        · skip
                          have kE : ¬ (stx p1 = 1 ∧ unx p1 ≤ tm + nI (i + 1)) := fun z => c64 z.1
                          refine lv_aload_n hx hb d_Md_ticks_115 rfl (lv_at hl 3 rfl) ?_
                          refine hb_get hx hb hts hown hC_Md hK hP fy50 15 (by decide) rfl fl_Md_38 rfl d_Md_ticks_116 ?_
                          refine lv_iload hx hb d_Md_ticks_119 (lv_at hl 0 rfl) ?_
                          refine va_iald hx hb hK (hP.one g60) 0 0 rfl rfl (vp_in_nI (by omega) (by omega)) d_Md_ticks_121 ?_
                          refine W.eq (g2 := F0 m 122 ls [.int (dsx p1)]) (by rw [nI_clamp (show p1 < 2 ^ 31 by omega)]) ?_
                          refine lv_iconst (v := 1) hx hb d_Md_ticks_122 (by decide) ?_
                          refine lv_icmp_eq (tgt := 137) hx hb d_Md_ticks_123 (by decide) (fun c65 => ?_) (fun c65 => ?_)
                          · skip
                            have kd : dsx p1 = 1 := c65
                            refine lv_aload_n hx hb d_Md_ticks_137 rfl (lv_at hl 3 rfl) ?_
                            refine hb_get hx hb hts hown hC_Md hK hP fy50 17 (by decide) rfl fl_Md_44 rfl d_Md_ticks_138 ?_
                            refine lv_iload hx hb d_Md_ticks_141 (lv_at hl 0 rfl) ?_
                            refine va_iald hx hb hK (hP.one g62) 0 0 rfl rfl (vp_in_nI (by omega) (by omega)) d_Md_ticks_143 ?_
                            refine W.eq (g2 := F0 m 144 ls [.int (dlx p1)]) (by rw [nI_clamp (show p1 < 2 ^ 31 by omega)]) ?_
                            refine lv_aload_n hx hb d_Md_ticks_144 rfl (lv_at hl 3 rfl) ?_
                            refine hb_get hx hb hts hown hC_Md hK hP fy50 3 (by decide) rfl fl_Md_104 rfl d_Md_ticks_145 ?_
                            refine lv_icmp_ge (tgt := 173) hx hb d_Md_ticks_148 (by decide) (fun c66 => ?_) (fun c66 => ?_)
                            · skip
                              have c66n := hb_ngti c66
                              have kC : ¬ ((dsx p1 = 1 ∨ dsx p1 = 2) ∧ dlx p1 < tm + nI (i + 1)) := fun z => c66n z.2
                              have kL : ¬ (dsx p1 = 2 ∧ dlx p1 < tm + nI (i + 1)) := fun z => c66n z.2
                              refine lv_iinc (v := (nI p1) + 1) (lv' := [(4, .int ((nI p1) + 1)), (3, .int (nI i)), (2, .int 1), (0, .ref y), (1, .int (nI nn))]) hx hb d_Md_ticks_173 hl (k := 0) rfl (by rfl) (by decide) rfl (fun ls hl => ?_)
                              refine lv_goto (tgt := 75) hx hb d_Md_ticks_176 (by decide) ?_
                              have hm2 : mR cI cJ Mc y b0 b1 b2 b3 b4 b5 b6 b7 b8 b9 b10 b11 0 ho pa (tm + nI (i + 1)) na np balx mi ky ac stx hex cl unx dnx dsx dd dlx := ⟨fy50, g51, g52, g53, g54, g55, g56, g57, g58, g59, g60, g61, g62, hap⟩
                              have hs2 : ((balx, hb_row ky ac stx hex cl unx dnx dsx dd dlx) : hbT) = hb_rk (tm + nI (i + 1)) S1 (p1 + 1) := by
                                rw [show hb_rk (tm + nI (i + 1)) S1 (p1 + 1) = hb_r1 (tm + nI (i + 1)) (hb_rk (tm + nI (i + 1)) S1 p1) p1 from rfl, ← hs1]
                                exact hb_r1_NN kE kC kL
                              exact ih_p (p1 + 1) (by omega) (by omega) _ _ _ _ _ _ _ _ hm2 hs2 _ _ hP hD hS _ (by rw [← nI_1]; exact lv_sub hl [0, 1, 2, 3, 4] rfl)
                            · skip
                              have c66n := hb_gti c66
                              have kC : (dsx p1 = 1 ∨ dsx p1 = 2) ∧ dlx p1 < tm + nI (i + 1) := ⟨Or.inl kd, c66n⟩
                              have kL : ¬ (dsx p1 = 2 ∧ dlx p1 < tm + nI (i + 1)) := fun z => by rw [kd] at z; exact absurd z.1 (by decide)
                              obtain ⟨ka, hka, hac⟩ := hfd2 p1 hlt_p1 kC.1
                              have hac : ac p1 = nI ka := hac
                              refine lv_aload_n hx hb d_Md_ticks_151 rfl (lv_at hl 3 rfl) ?_
                              refine lv_iload hx hb d_Md_ticks_152 (lv_at hl 0 rfl) ?_
                              refine lv_aload_n hx hb d_Md_ticks_154 rfl (lv_at hl 3 rfl) ?_
                              refine hb_get hx hb hts hown hC_Md hK hP fy50 15 (by decide) rfl fl_Md_38 rfl d_Md_ticks_155 ?_
                              refine lv_iload hx hb d_Md_ticks_158 (lv_at hl 0 rfl) ?_
                              refine va_iald hx hb hK (hP.one g60) 0 0 rfl rfl (vp_in_nI (by omega) (by omega)) d_Md_ticks_160 ?_
                              refine W.eq (g2 := F0 m 161 ls [.int (dsx p1), .int (nI p1), .ref y]) (by rw [nI_clamp (show p1 < 2 ^ 31 by omega)]) ?_
                              refine lv_iconst (v := 1) hx hb d_Md_ticks_161 (by decide) ?_
                              refine lv_icmp_ne (tgt := 169) hx hb d_Md_ticks_162 (by decide) (fun c67 => ?_) (fun c67 => ?_)
                              · skip
                                exact absurd kd c67
                              · skip
                                refine lv_iconst (v := 1) hx hb d_Md_ticks_165 (by decide) ?_
                                refine lv_goto (tgt := 170) hx hb d_Md_ticks_166 (by decide) ?_
                                have hm68 : mR cI cJ Mc y b0 b1 b2 b3 b4 b5 b6 b7 b8 b9 b10 b11 0 ho pa (tm + nI (i + 1)) na np balx mi ky ac stx hex cl unx dnx dsx dd dlx := ⟨fy50, g51, g52, g53, g54, g55, g56, g57, g58, g59, g60, g61, g62, hap⟩
                                refine hb_callV (rest := []) hX hts hb_gd Y_Md_closes (c_Md_closes hE Mc y b0 b1 b2 b3 b4 b5 b6 b7 b8 b9 b10 b11 0 ho pa (tm + nI (i + 1)) na np balx mi ky ac stx hex cl unx dnx dsx dd dlx hm68 (by omega) (by omega) p1 (by omega) 1 ka hka hac) ml_Md_117 im_Md_closes se_Md_closes hK fy50 hC_Md.1 hz hP hD hS hA rfl hl.1 rfl (Nat.le_of_ble_eq_true rfl) ⟨Nat.le_of_ble_eq_true rfl, Nat.le_of_ble_eq_true rfl⟩ ⟨Nat.le_of_ble_eq_true rfl, Nat.le_of_ble_eq_true rfl⟩ d_Md_ticks_170 (fun v71 M69 H locs hq70 hP hD hS _ hkp => ?_)
                                obtain ⟨ev73, h72⟩ := hq70
                                subst ev73
                                obtain ⟨fy74, g75, g76, g77, g78, g79, g80, g81, g82, g83, g84, g85, g86, -⟩ := id h72
                                refine W.eq (g2 := F0 m 173 ls []) rfl ?_
                                refine lv_iinc (v := (nI p1) + 1) (lv' := [(4, .int ((nI p1) + 1)), (3, .int (nI i)), (2, .int 1), (0, .ref y), (1, .int (nI nn))]) hx hb d_Md_ticks_173 hl (k := 0) rfl (by rfl) (by decide) rfl (fun ls hl => ?_)
                                refine lv_goto (tgt := 75) hx hb d_Md_ticks_176 (by decide) ?_
                                have hm2 : mR cI cJ M69 y b0 b1 b2 b3 b4 b5 b6 b7 b8 b9 b10 b11 0 ho pa (tm + nI (i + 1)) na np (vp_updL balx ka (balx ka - (if 1 = 0 then dd p1 else 0))) mi ky ac stx hex cl unx dnx (upd dsx p1 (if 1 = 0 then 4 else 3)) dd (upd dlx p1 (-1)) := ⟨fy74, g75, g76, g77, g78, g79, g80, g81, g82, g83, g84, g85, g86, hap⟩
                                have hs2 : ((vp_updL balx ka (balx ka - (if 1 = 0 then dd p1 else 0)), hb_row ky ac stx hex cl unx dnx (upd dsx p1 (if 1 = 0 then 4 else 3)) dd (upd dlx p1 (-1))) : hbT) = hb_rk (tm + nI (i + 1)) S1 (p1 + 1) := by
                                  rw [show hb_rk (tm + nI (i + 1)) S1 (p1 + 1) = hb_r1 (tm + nI (i + 1)) (hb_rk (tm + nI (i + 1)) S1 p1) p1 from rfl, ← hs1]
                                  exact hb_r1_NW kE kC kL kd (by rw [hac]; exact nI_clamp (by omega))
                                exact ih_p (p1 + 1) (by omega) (by omega) _ _ _ _ _ _ _ _ hm2 hs2 _ _ hP hD hS _ (by rw [← nI_1]; exact lv_sub hl [0, 1, 2, 3, 4] rfl)
                          · skip
                            refine lv_aload_n hx hb d_Md_ticks_126 rfl (lv_at hl 3 rfl) ?_
                            refine hb_get hx hb hts hown hC_Md hK hP fy50 15 (by decide) rfl fl_Md_38 rfl d_Md_ticks_127 ?_
                            refine lv_iload hx hb d_Md_ticks_130 (lv_at hl 0 rfl) ?_
                            refine va_iald hx hb hK (hP.one g60) 0 0 rfl rfl (vp_in_nI (by omega) (by omega)) d_Md_ticks_132 ?_
                            refine W.eq (g2 := F0 m 133 ls [.int (dsx p1)]) (by rw [nI_clamp (show p1 < 2 ^ 31 by omega)]) ?_
                            refine lv_iconst (v := 2) hx hb d_Md_ticks_133 (by decide) ?_
                            refine lv_icmp_ne (tgt := 173) hx hb d_Md_ticks_134 (by decide) (fun c87 => ?_) (fun c87 => ?_)
                            · skip
                              have kC : ¬ ((dsx p1 = 1 ∨ dsx p1 = 2) ∧ dlx p1 < tm + nI (i + 1)) := fun z => by rcases z.1 with z9 | z9; exact c65 z9; exact c87 z9
                              have kL : ¬ (dsx p1 = 2 ∧ dlx p1 < tm + nI (i + 1)) := fun z => c87 z.1
                              refine lv_iinc (v := (nI p1) + 1) (lv' := [(4, .int ((nI p1) + 1)), (3, .int (nI i)), (2, .int 1), (0, .ref y), (1, .int (nI nn))]) hx hb d_Md_ticks_173 hl (k := 0) rfl (by rfl) (by decide) rfl (fun ls hl => ?_)
                              refine lv_goto (tgt := 75) hx hb d_Md_ticks_176 (by decide) ?_
                              have hm2 : mR cI cJ Mc y b0 b1 b2 b3 b4 b5 b6 b7 b8 b9 b10 b11 0 ho pa (tm + nI (i + 1)) na np balx mi ky ac stx hex cl unx dnx dsx dd dlx := ⟨fy50, g51, g52, g53, g54, g55, g56, g57, g58, g59, g60, g61, g62, hap⟩
                              have hs2 : ((balx, hb_row ky ac stx hex cl unx dnx dsx dd dlx) : hbT) = hb_rk (tm + nI (i + 1)) S1 (p1 + 1) := by
                                rw [show hb_rk (tm + nI (i + 1)) S1 (p1 + 1) = hb_r1 (tm + nI (i + 1)) (hb_rk (tm + nI (i + 1)) S1 p1) p1 from rfl, ← hs1]
                                exact hb_r1_NN kE kC kL
                              exact ih_p (p1 + 1) (by omega) (by omega) _ _ _ _ _ _ _ _ hm2 hs2 _ _ hP hD hS _ (by rw [← nI_1]; exact lv_sub hl [0, 1, 2, 3, 4] rfl)
                            · skip
                              have kd : dsx p1 = 2 := c87
                              refine lv_aload_n hx hb d_Md_ticks_137 rfl (lv_at hl 3 rfl) ?_
                              refine hb_get hx hb hts hown hC_Md hK hP fy50 17 (by decide) rfl fl_Md_44 rfl d_Md_ticks_138 ?_
                              refine lv_iload hx hb d_Md_ticks_141 (lv_at hl 0 rfl) ?_
                              refine va_iald hx hb hK (hP.one g62) 0 0 rfl rfl (vp_in_nI (by omega) (by omega)) d_Md_ticks_143 ?_
                              refine W.eq (g2 := F0 m 144 ls [.int (dlx p1)]) (by rw [nI_clamp (show p1 < 2 ^ 31 by omega)]) ?_
                              refine lv_aload_n hx hb d_Md_ticks_144 rfl (lv_at hl 3 rfl) ?_
                              refine hb_get hx hb hts hown hC_Md hK hP fy50 3 (by decide) rfl fl_Md_104 rfl d_Md_ticks_145 ?_
                              refine lv_icmp_ge (tgt := 173) hx hb d_Md_ticks_148 (by decide) (fun c88 => ?_) (fun c88 => ?_)
                              · skip
                                have c88n := hb_ngti c88
                                have kC : ¬ ((dsx p1 = 1 ∨ dsx p1 = 2) ∧ dlx p1 < tm + nI (i + 1)) := fun z => c88n z.2
                                have kL : ¬ (dsx p1 = 2 ∧ dlx p1 < tm + nI (i + 1)) := fun z => c88n z.2
                                refine lv_iinc (v := (nI p1) + 1) (lv' := [(4, .int ((nI p1) + 1)), (3, .int (nI i)), (2, .int 1), (0, .ref y), (1, .int (nI nn))]) hx hb d_Md_ticks_173 hl (k := 0) rfl (by rfl) (by decide) rfl (fun ls hl => ?_)
                                refine lv_goto (tgt := 75) hx hb d_Md_ticks_176 (by decide) ?_
                                have hm2 : mR cI cJ Mc y b0 b1 b2 b3 b4 b5 b6 b7 b8 b9 b10 b11 0 ho pa (tm + nI (i + 1)) na np balx mi ky ac stx hex cl unx dnx dsx dd dlx := ⟨fy50, g51, g52, g53, g54, g55, g56, g57, g58, g59, g60, g61, g62, hap⟩
                                have hs2 : ((balx, hb_row ky ac stx hex cl unx dnx dsx dd dlx) : hbT) = hb_rk (tm + nI (i + 1)) S1 (p1 + 1) := by
                                  rw [show hb_rk (tm + nI (i + 1)) S1 (p1 + 1) = hb_r1 (tm + nI (i + 1)) (hb_rk (tm + nI (i + 1)) S1 p1) p1 from rfl, ← hs1]
                                  exact hb_r1_NN kE kC kL
                                exact ih_p (p1 + 1) (by omega) (by omega) _ _ _ _ _ _ _ _ hm2 hs2 _ _ hP hD hS _ (by rw [← nI_1]; exact lv_sub hl [0, 1, 2, 3, 4] rfl)
                              · skip
                                have c88n := hb_gti c88
                                have kC : (dsx p1 = 1 ∨ dsx p1 = 2) ∧ dlx p1 < tm + nI (i + 1) := ⟨Or.inr kd, c88n⟩
                                have kL : (dsx p1 = 2 ∧ dlx p1 < tm + nI (i + 1)) := ⟨kd, c88n⟩
                                obtain ⟨ka, hka, hac⟩ := hfd2 p1 hlt_p1 kC.1
                                have hac : ac p1 = nI ka := hac
                                refine lv_aload_n hx hb d_Md_ticks_151 rfl (lv_at hl 3 rfl) ?_
                                refine lv_iload hx hb d_Md_ticks_152 (lv_at hl 0 rfl) ?_
                                refine lv_aload_n hx hb d_Md_ticks_154 rfl (lv_at hl 3 rfl) ?_
                                refine hb_get hx hb hts hown hC_Md hK hP fy50 15 (by decide) rfl fl_Md_38 rfl d_Md_ticks_155 ?_
                                refine lv_iload hx hb d_Md_ticks_158 (lv_at hl 0 rfl) ?_
                                refine va_iald hx hb hK (hP.one g60) 0 0 rfl rfl (vp_in_nI (by omega) (by omega)) d_Md_ticks_160 ?_
                                refine W.eq (g2 := F0 m 161 ls [.int (dsx p1), .int (nI p1), .ref y]) (by rw [nI_clamp (show p1 < 2 ^ 31 by omega)]) ?_
                                refine lv_iconst (v := 1) hx hb d_Md_ticks_161 (by decide) ?_
                                refine lv_icmp_ne (tgt := 169) hx hb d_Md_ticks_162 (by decide) (fun c89 => ?_) (fun c89 => ?_)
                                · skip
                                  refine lv_iconst (v := 0) hx hb d_Md_ticks_169 (by decide) ?_
                                  have hm90 : mR cI cJ Mc y b0 b1 b2 b3 b4 b5 b6 b7 b8 b9 b10 b11 0 ho pa (tm + nI (i + 1)) na np balx mi ky ac stx hex cl unx dnx dsx dd dlx := ⟨fy50, g51, g52, g53, g54, g55, g56, g57, g58, g59, g60, g61, g62, hap⟩
                                  refine hb_callV (rest := []) hX hts hb_gd Y_Md_closes (c_Md_closes hE Mc y b0 b1 b2 b3 b4 b5 b6 b7 b8 b9 b10 b11 0 ho pa (tm + nI (i + 1)) na np balx mi ky ac stx hex cl unx dnx dsx dd dlx hm90 (by omega) (by omega) p1 (by omega) 0 ka hka hac) ml_Md_117 im_Md_closes se_Md_closes hK fy50 hC_Md.1 hz hP hD hS hA rfl hl.1 rfl (Nat.le_of_ble_eq_true rfl) ⟨Nat.le_of_ble_eq_true rfl, Nat.le_of_ble_eq_true rfl⟩ ⟨Nat.le_of_ble_eq_true rfl, Nat.le_of_ble_eq_true rfl⟩ d_Md_ticks_170 (fun v93 M91 H locs hq92 hP hD hS _ hkp => ?_)
                                  obtain ⟨ev95, h94⟩ := hq92
                                  subst ev95
                                  obtain ⟨fy96, g97, g98, g99, g100, g101, g102, g103, g104, g105, g106, g107, g108, -⟩ := id h94
                                  refine W.eq (g2 := F0 m 173 ls []) rfl ?_
                                  refine lv_iinc (v := (nI p1) + 1) (lv' := [(4, .int ((nI p1) + 1)), (3, .int (nI i)), (2, .int 1), (0, .ref y), (1, .int (nI nn))]) hx hb d_Md_ticks_173 hl (k := 0) rfl (by rfl) (by decide) rfl (fun ls hl => ?_)
                                  refine lv_goto (tgt := 75) hx hb d_Md_ticks_176 (by decide) ?_
                                  have hm2 : mR cI cJ M91 y b0 b1 b2 b3 b4 b5 b6 b7 b8 b9 b10 b11 0 ho pa (tm + nI (i + 1)) na np (vp_updL balx ka (balx ka - (if 0 = 0 then dd p1 else 0))) mi ky ac stx hex cl unx dnx (upd dsx p1 (if 0 = 0 then 4 else 3)) dd (upd dlx p1 (-1)) := ⟨fy96, g97, g98, g99, g100, g101, g102, g103, g104, g105, g106, g107, g108, hap⟩
                                  have hs2 : ((vp_updL balx ka (balx ka - (if 0 = 0 then dd p1 else 0)), hb_row ky ac stx hex cl unx dnx (upd dsx p1 (if 0 = 0 then 4 else 3)) dd (upd dlx p1 (-1))) : hbT) = hb_rk (tm + nI (i + 1)) S1 (p1 + 1) := by
                                    rw [show hb_rk (tm + nI (i + 1)) S1 (p1 + 1) = hb_r1 (tm + nI (i + 1)) (hb_rk (tm + nI (i + 1)) S1 p1) p1 from rfl, ← hs1]
                                    exact hb_r1_NL kE kC kL kd (by rw [hac]; exact nI_clamp (by omega))
                                  exact ih_p (p1 + 1) (by omega) (by omega) _ _ _ _ _ _ _ _ hm2 hs2 _ _ hP hD hS _ (by rw [← nI_1]; exact lv_sub hl [0, 1, 2, 3, 4] rfl)
                                · skip
                                  rw [kd] at c89
                                  exact absurd c89 (by decide)
                        · skip
                          refine lv_aload_n hx hb d_Md_ticks_95 rfl (lv_at hl 3 rfl) ?_
                          refine hb_get hx hb hts hown hC_Md hK hP fy50 13 (by decide) rfl fl_Md_32 rfl d_Md_ticks_96 ?_
                          refine lv_iload hx hb d_Md_ticks_99 (lv_at hl 0 rfl) ?_
                          refine va_iald hx hb hK (hP.one g58) 0 0 rfl rfl (vp_in_nI (by omega) (by omega)) d_Md_ticks_101 ?_
                          refine W.eq (g2 := F0 m 102 ls [.int (unx p1)]) (by rw [nI_clamp (show p1 < 2 ^ 31 by omega)]) ?_
                          refine lv_aload_n hx hb d_Md_ticks_102 rfl (lv_at hl 3 rfl) ?_
                          refine hb_get hx hb hts hown hC_Md hK hP fy50 3 (by decide) rfl fl_Md_104 rfl d_Md_ticks_103 ?_
                          refine lv_icmp_gt (tgt := 115) hx hb d_Md_ticks_106 (by decide) (fun c109 => ?_) (fun c109 => ?_)
                          · skip
                            have kE : ¬ (stx p1 = 1 ∧ unx p1 ≤ tm + nI (i + 1)) := fun z => hb_ngti z.2 c109
                            refine lv_aload_n hx hb d_Md_ticks_115 rfl (lv_at hl 3 rfl) ?_
                            refine hb_get hx hb hts hown hC_Md hK hP fy50 15 (by decide) rfl fl_Md_38 rfl d_Md_ticks_116 ?_
                            refine lv_iload hx hb d_Md_ticks_119 (lv_at hl 0 rfl) ?_
                            refine va_iald hx hb hK (hP.one g60) 0 0 rfl rfl (vp_in_nI (by omega) (by omega)) d_Md_ticks_121 ?_
                            refine W.eq (g2 := F0 m 122 ls [.int (dsx p1)]) (by rw [nI_clamp (show p1 < 2 ^ 31 by omega)]) ?_
                            refine lv_iconst (v := 1) hx hb d_Md_ticks_122 (by decide) ?_
                            refine lv_icmp_eq (tgt := 137) hx hb d_Md_ticks_123 (by decide) (fun c110 => ?_) (fun c110 => ?_)
                            · skip
                              have kd : dsx p1 = 1 := c110
                              refine lv_aload_n hx hb d_Md_ticks_137 rfl (lv_at hl 3 rfl) ?_
                              refine hb_get hx hb hts hown hC_Md hK hP fy50 17 (by decide) rfl fl_Md_44 rfl d_Md_ticks_138 ?_
                              refine lv_iload hx hb d_Md_ticks_141 (lv_at hl 0 rfl) ?_
                              refine va_iald hx hb hK (hP.one g62) 0 0 rfl rfl (vp_in_nI (by omega) (by omega)) d_Md_ticks_143 ?_
                              refine W.eq (g2 := F0 m 144 ls [.int (dlx p1)]) (by rw [nI_clamp (show p1 < 2 ^ 31 by omega)]) ?_
                              refine lv_aload_n hx hb d_Md_ticks_144 rfl (lv_at hl 3 rfl) ?_
                              refine hb_get hx hb hts hown hC_Md hK hP fy50 3 (by decide) rfl fl_Md_104 rfl d_Md_ticks_145 ?_
                              refine lv_icmp_ge (tgt := 173) hx hb d_Md_ticks_148 (by decide) (fun c111 => ?_) (fun c111 => ?_)
                              · skip
                                have c111n := hb_ngti c111
                                have kC : ¬ ((dsx p1 = 1 ∨ dsx p1 = 2) ∧ dlx p1 < tm + nI (i + 1)) := fun z => c111n z.2
                                have kL : ¬ (dsx p1 = 2 ∧ dlx p1 < tm + nI (i + 1)) := fun z => c111n z.2
                                refine lv_iinc (v := (nI p1) + 1) (lv' := [(4, .int ((nI p1) + 1)), (3, .int (nI i)), (2, .int 1), (0, .ref y), (1, .int (nI nn))]) hx hb d_Md_ticks_173 hl (k := 0) rfl (by rfl) (by decide) rfl (fun ls hl => ?_)
                                refine lv_goto (tgt := 75) hx hb d_Md_ticks_176 (by decide) ?_
                                have hm2 : mR cI cJ Mc y b0 b1 b2 b3 b4 b5 b6 b7 b8 b9 b10 b11 0 ho pa (tm + nI (i + 1)) na np balx mi ky ac stx hex cl unx dnx dsx dd dlx := ⟨fy50, g51, g52, g53, g54, g55, g56, g57, g58, g59, g60, g61, g62, hap⟩
                                have hs2 : ((balx, hb_row ky ac stx hex cl unx dnx dsx dd dlx) : hbT) = hb_rk (tm + nI (i + 1)) S1 (p1 + 1) := by
                                  rw [show hb_rk (tm + nI (i + 1)) S1 (p1 + 1) = hb_r1 (tm + nI (i + 1)) (hb_rk (tm + nI (i + 1)) S1 p1) p1 from rfl, ← hs1]
                                  exact hb_r1_NN kE kC kL
                                exact ih_p (p1 + 1) (by omega) (by omega) _ _ _ _ _ _ _ _ hm2 hs2 _ _ hP hD hS _ (by rw [← nI_1]; exact lv_sub hl [0, 1, 2, 3, 4] rfl)
                              · skip
                                have c111n := hb_gti c111
                                have kC : (dsx p1 = 1 ∨ dsx p1 = 2) ∧ dlx p1 < tm + nI (i + 1) := ⟨Or.inl kd, c111n⟩
                                have kL : ¬ (dsx p1 = 2 ∧ dlx p1 < tm + nI (i + 1)) := fun z => by rw [kd] at z; exact absurd z.1 (by decide)
                                obtain ⟨ka, hka, hac⟩ := hfd2 p1 hlt_p1 kC.1
                                have hac : ac p1 = nI ka := hac
                                refine lv_aload_n hx hb d_Md_ticks_151 rfl (lv_at hl 3 rfl) ?_
                                refine lv_iload hx hb d_Md_ticks_152 (lv_at hl 0 rfl) ?_
                                refine lv_aload_n hx hb d_Md_ticks_154 rfl (lv_at hl 3 rfl) ?_
                                refine hb_get hx hb hts hown hC_Md hK hP fy50 15 (by decide) rfl fl_Md_38 rfl d_Md_ticks_155 ?_
                                refine lv_iload hx hb d_Md_ticks_158 (lv_at hl 0 rfl) ?_
                                refine va_iald hx hb hK (hP.one g60) 0 0 rfl rfl (vp_in_nI (by omega) (by omega)) d_Md_ticks_160 ?_
                                refine W.eq (g2 := F0 m 161 ls [.int (dsx p1), .int (nI p1), .ref y]) (by rw [nI_clamp (show p1 < 2 ^ 31 by omega)]) ?_
                                refine lv_iconst (v := 1) hx hb d_Md_ticks_161 (by decide) ?_
                                refine lv_icmp_ne (tgt := 169) hx hb d_Md_ticks_162 (by decide) (fun c112 => ?_) (fun c112 => ?_)
                                · skip
                                  exact absurd kd c112
                                · skip
                                  refine lv_iconst (v := 1) hx hb d_Md_ticks_165 (by decide) ?_
                                  refine lv_goto (tgt := 170) hx hb d_Md_ticks_166 (by decide) ?_
                                  have hm113 : mR cI cJ Mc y b0 b1 b2 b3 b4 b5 b6 b7 b8 b9 b10 b11 0 ho pa (tm + nI (i + 1)) na np balx mi ky ac stx hex cl unx dnx dsx dd dlx := ⟨fy50, g51, g52, g53, g54, g55, g56, g57, g58, g59, g60, g61, g62, hap⟩
                                  refine hb_callV (rest := []) hX hts hb_gd Y_Md_closes (c_Md_closes hE Mc y b0 b1 b2 b3 b4 b5 b6 b7 b8 b9 b10 b11 0 ho pa (tm + nI (i + 1)) na np balx mi ky ac stx hex cl unx dnx dsx dd dlx hm113 (by omega) (by omega) p1 (by omega) 1 ka hka hac) ml_Md_117 im_Md_closes se_Md_closes hK fy50 hC_Md.1 hz hP hD hS hA rfl hl.1 rfl (Nat.le_of_ble_eq_true rfl) ⟨Nat.le_of_ble_eq_true rfl, Nat.le_of_ble_eq_true rfl⟩ ⟨Nat.le_of_ble_eq_true rfl, Nat.le_of_ble_eq_true rfl⟩ d_Md_ticks_170 (fun v116 M114 H locs hq115 hP hD hS _ hkp => ?_)
                                  obtain ⟨ev118, h117⟩ := hq115
                                  subst ev118
                                  obtain ⟨fy119, g120, g121, g122, g123, g124, g125, g126, g127, g128, g129, g130, g131, -⟩ := id h117
                                  refine W.eq (g2 := F0 m 173 ls []) rfl ?_
                                  refine lv_iinc (v := (nI p1) + 1) (lv' := [(4, .int ((nI p1) + 1)), (3, .int (nI i)), (2, .int 1), (0, .ref y), (1, .int (nI nn))]) hx hb d_Md_ticks_173 hl (k := 0) rfl (by rfl) (by decide) rfl (fun ls hl => ?_)
                                  refine lv_goto (tgt := 75) hx hb d_Md_ticks_176 (by decide) ?_
                                  have hm2 : mR cI cJ M114 y b0 b1 b2 b3 b4 b5 b6 b7 b8 b9 b10 b11 0 ho pa (tm + nI (i + 1)) na np (vp_updL balx ka (balx ka - (if 1 = 0 then dd p1 else 0))) mi ky ac stx hex cl unx dnx (upd dsx p1 (if 1 = 0 then 4 else 3)) dd (upd dlx p1 (-1)) := ⟨fy119, g120, g121, g122, g123, g124, g125, g126, g127, g128, g129, g130, g131, hap⟩
                                  have hs2 : ((vp_updL balx ka (balx ka - (if 1 = 0 then dd p1 else 0)), hb_row ky ac stx hex cl unx dnx (upd dsx p1 (if 1 = 0 then 4 else 3)) dd (upd dlx p1 (-1))) : hbT) = hb_rk (tm + nI (i + 1)) S1 (p1 + 1) := by
                                    rw [show hb_rk (tm + nI (i + 1)) S1 (p1 + 1) = hb_r1 (tm + nI (i + 1)) (hb_rk (tm + nI (i + 1)) S1 p1) p1 from rfl, ← hs1]
                                    exact hb_r1_NW kE kC kL kd (by rw [hac]; exact nI_clamp (by omega))
                                  exact ih_p (p1 + 1) (by omega) (by omega) _ _ _ _ _ _ _ _ hm2 hs2 _ _ hP hD hS _ (by rw [← nI_1]; exact lv_sub hl [0, 1, 2, 3, 4] rfl)
                            · skip
                              refine lv_aload_n hx hb d_Md_ticks_126 rfl (lv_at hl 3 rfl) ?_
                              refine hb_get hx hb hts hown hC_Md hK hP fy50 15 (by decide) rfl fl_Md_38 rfl d_Md_ticks_127 ?_
                              refine lv_iload hx hb d_Md_ticks_130 (lv_at hl 0 rfl) ?_
                              refine va_iald hx hb hK (hP.one g60) 0 0 rfl rfl (vp_in_nI (by omega) (by omega)) d_Md_ticks_132 ?_
                              refine W.eq (g2 := F0 m 133 ls [.int (dsx p1)]) (by rw [nI_clamp (show p1 < 2 ^ 31 by omega)]) ?_
                              refine lv_iconst (v := 2) hx hb d_Md_ticks_133 (by decide) ?_
                              refine lv_icmp_ne (tgt := 173) hx hb d_Md_ticks_134 (by decide) (fun c132 => ?_) (fun c132 => ?_)
                              · skip
                                have kC : ¬ ((dsx p1 = 1 ∨ dsx p1 = 2) ∧ dlx p1 < tm + nI (i + 1)) := fun z => by rcases z.1 with z9 | z9; exact c110 z9; exact c132 z9
                                have kL : ¬ (dsx p1 = 2 ∧ dlx p1 < tm + nI (i + 1)) := fun z => c132 z.1
                                refine lv_iinc (v := (nI p1) + 1) (lv' := [(4, .int ((nI p1) + 1)), (3, .int (nI i)), (2, .int 1), (0, .ref y), (1, .int (nI nn))]) hx hb d_Md_ticks_173 hl (k := 0) rfl (by rfl) (by decide) rfl (fun ls hl => ?_)
                                refine lv_goto (tgt := 75) hx hb d_Md_ticks_176 (by decide) ?_
                                have hm2 : mR cI cJ Mc y b0 b1 b2 b3 b4 b5 b6 b7 b8 b9 b10 b11 0 ho pa (tm + nI (i + 1)) na np balx mi ky ac stx hex cl unx dnx dsx dd dlx := ⟨fy50, g51, g52, g53, g54, g55, g56, g57, g58, g59, g60, g61, g62, hap⟩
                                have hs2 : ((balx, hb_row ky ac stx hex cl unx dnx dsx dd dlx) : hbT) = hb_rk (tm + nI (i + 1)) S1 (p1 + 1) := by
                                  rw [show hb_rk (tm + nI (i + 1)) S1 (p1 + 1) = hb_r1 (tm + nI (i + 1)) (hb_rk (tm + nI (i + 1)) S1 p1) p1 from rfl, ← hs1]
                                  exact hb_r1_NN kE kC kL
                                exact ih_p (p1 + 1) (by omega) (by omega) _ _ _ _ _ _ _ _ hm2 hs2 _ _ hP hD hS _ (by rw [← nI_1]; exact lv_sub hl [0, 1, 2, 3, 4] rfl)
                              · skip
                                have kd : dsx p1 = 2 := c132
                                refine lv_aload_n hx hb d_Md_ticks_137 rfl (lv_at hl 3 rfl) ?_
                                refine hb_get hx hb hts hown hC_Md hK hP fy50 17 (by decide) rfl fl_Md_44 rfl d_Md_ticks_138 ?_
                                refine lv_iload hx hb d_Md_ticks_141 (lv_at hl 0 rfl) ?_
                                refine va_iald hx hb hK (hP.one g62) 0 0 rfl rfl (vp_in_nI (by omega) (by omega)) d_Md_ticks_143 ?_
                                refine W.eq (g2 := F0 m 144 ls [.int (dlx p1)]) (by rw [nI_clamp (show p1 < 2 ^ 31 by omega)]) ?_
                                refine lv_aload_n hx hb d_Md_ticks_144 rfl (lv_at hl 3 rfl) ?_
                                refine hb_get hx hb hts hown hC_Md hK hP fy50 3 (by decide) rfl fl_Md_104 rfl d_Md_ticks_145 ?_
                                refine lv_icmp_ge (tgt := 173) hx hb d_Md_ticks_148 (by decide) (fun c133 => ?_) (fun c133 => ?_)
                                · skip
                                  have c133n := hb_ngti c133
                                  have kC : ¬ ((dsx p1 = 1 ∨ dsx p1 = 2) ∧ dlx p1 < tm + nI (i + 1)) := fun z => c133n z.2
                                  have kL : ¬ (dsx p1 = 2 ∧ dlx p1 < tm + nI (i + 1)) := fun z => c133n z.2
                                  refine lv_iinc (v := (nI p1) + 1) (lv' := [(4, .int ((nI p1) + 1)), (3, .int (nI i)), (2, .int 1), (0, .ref y), (1, .int (nI nn))]) hx hb d_Md_ticks_173 hl (k := 0) rfl (by rfl) (by decide) rfl (fun ls hl => ?_)
                                  refine lv_goto (tgt := 75) hx hb d_Md_ticks_176 (by decide) ?_
                                  have hm2 : mR cI cJ Mc y b0 b1 b2 b3 b4 b5 b6 b7 b8 b9 b10 b11 0 ho pa (tm + nI (i + 1)) na np balx mi ky ac stx hex cl unx dnx dsx dd dlx := ⟨fy50, g51, g52, g53, g54, g55, g56, g57, g58, g59, g60, g61, g62, hap⟩
                                  have hs2 : ((balx, hb_row ky ac stx hex cl unx dnx dsx dd dlx) : hbT) = hb_rk (tm + nI (i + 1)) S1 (p1 + 1) := by
                                    rw [show hb_rk (tm + nI (i + 1)) S1 (p1 + 1) = hb_r1 (tm + nI (i + 1)) (hb_rk (tm + nI (i + 1)) S1 p1) p1 from rfl, ← hs1]
                                    exact hb_r1_NN kE kC kL
                                  exact ih_p (p1 + 1) (by omega) (by omega) _ _ _ _ _ _ _ _ hm2 hs2 _ _ hP hD hS _ (by rw [← nI_1]; exact lv_sub hl [0, 1, 2, 3, 4] rfl)
                                · skip
                                  have c133n := hb_gti c133
                                  have kC : (dsx p1 = 1 ∨ dsx p1 = 2) ∧ dlx p1 < tm + nI (i + 1) := ⟨Or.inr kd, c133n⟩
                                  have kL : (dsx p1 = 2 ∧ dlx p1 < tm + nI (i + 1)) := ⟨kd, c133n⟩
                                  obtain ⟨ka, hka, hac⟩ := hfd2 p1 hlt_p1 kC.1
                                  have hac : ac p1 = nI ka := hac
                                  refine lv_aload_n hx hb d_Md_ticks_151 rfl (lv_at hl 3 rfl) ?_
                                  refine lv_iload hx hb d_Md_ticks_152 (lv_at hl 0 rfl) ?_
                                  refine lv_aload_n hx hb d_Md_ticks_154 rfl (lv_at hl 3 rfl) ?_
                                  refine hb_get hx hb hts hown hC_Md hK hP fy50 15 (by decide) rfl fl_Md_38 rfl d_Md_ticks_155 ?_
                                  refine lv_iload hx hb d_Md_ticks_158 (lv_at hl 0 rfl) ?_
                                  refine va_iald hx hb hK (hP.one g60) 0 0 rfl rfl (vp_in_nI (by omega) (by omega)) d_Md_ticks_160 ?_
                                  refine W.eq (g2 := F0 m 161 ls [.int (dsx p1), .int (nI p1), .ref y]) (by rw [nI_clamp (show p1 < 2 ^ 31 by omega)]) ?_
                                  refine lv_iconst (v := 1) hx hb d_Md_ticks_161 (by decide) ?_
                                  refine lv_icmp_ne (tgt := 169) hx hb d_Md_ticks_162 (by decide) (fun c134 => ?_) (fun c134 => ?_)
                                  · skip
                                    refine lv_iconst (v := 0) hx hb d_Md_ticks_169 (by decide) ?_
                                    have hm135 : mR cI cJ Mc y b0 b1 b2 b3 b4 b5 b6 b7 b8 b9 b10 b11 0 ho pa (tm + nI (i + 1)) na np balx mi ky ac stx hex cl unx dnx dsx dd dlx := ⟨fy50, g51, g52, g53, g54, g55, g56, g57, g58, g59, g60, g61, g62, hap⟩
                                    refine hb_callV (rest := []) hX hts hb_gd Y_Md_closes (c_Md_closes hE Mc y b0 b1 b2 b3 b4 b5 b6 b7 b8 b9 b10 b11 0 ho pa (tm + nI (i + 1)) na np balx mi ky ac stx hex cl unx dnx dsx dd dlx hm135 (by omega) (by omega) p1 (by omega) 0 ka hka hac) ml_Md_117 im_Md_closes se_Md_closes hK fy50 hC_Md.1 hz hP hD hS hA rfl hl.1 rfl (Nat.le_of_ble_eq_true rfl) ⟨Nat.le_of_ble_eq_true rfl, Nat.le_of_ble_eq_true rfl⟩ ⟨Nat.le_of_ble_eq_true rfl, Nat.le_of_ble_eq_true rfl⟩ d_Md_ticks_170 (fun v138 M136 H locs hq137 hP hD hS _ hkp => ?_)
                                    obtain ⟨ev140, h139⟩ := hq137
                                    subst ev140
                                    obtain ⟨fy141, g142, g143, g144, g145, g146, g147, g148, g149, g150, g151, g152, g153, -⟩ := id h139
                                    refine W.eq (g2 := F0 m 173 ls []) rfl ?_
                                    refine lv_iinc (v := (nI p1) + 1) (lv' := [(4, .int ((nI p1) + 1)), (3, .int (nI i)), (2, .int 1), (0, .ref y), (1, .int (nI nn))]) hx hb d_Md_ticks_173 hl (k := 0) rfl (by rfl) (by decide) rfl (fun ls hl => ?_)
                                    refine lv_goto (tgt := 75) hx hb d_Md_ticks_176 (by decide) ?_
                                    have hm2 : mR cI cJ M136 y b0 b1 b2 b3 b4 b5 b6 b7 b8 b9 b10 b11 0 ho pa (tm + nI (i + 1)) na np (vp_updL balx ka (balx ka - (if 0 = 0 then dd p1 else 0))) mi ky ac stx hex cl unx dnx (upd dsx p1 (if 0 = 0 then 4 else 3)) dd (upd dlx p1 (-1)) := ⟨fy141, g142, g143, g144, g145, g146, g147, g148, g149, g150, g151, g152, g153, hap⟩
                                    have hs2 : ((vp_updL balx ka (balx ka - (if 0 = 0 then dd p1 else 0)), hb_row ky ac stx hex cl unx dnx (upd dsx p1 (if 0 = 0 then 4 else 3)) dd (upd dlx p1 (-1))) : hbT) = hb_rk (tm + nI (i + 1)) S1 (p1 + 1) := by
                                      rw [show hb_rk (tm + nI (i + 1)) S1 (p1 + 1) = hb_r1 (tm + nI (i + 1)) (hb_rk (tm + nI (i + 1)) S1 p1) p1 from rfl, ← hs1]
                                      exact hb_r1_NL kE kC kL kd (by rw [hac]; exact nI_clamp (by omega))
                                    exact ih_p (p1 + 1) (by omega) (by omega) _ _ _ _ _ _ _ _ hm2 hs2 _ _ hP hD hS _ (by rw [← nI_1]; exact lv_sub hl [0, 1, 2, 3, 4] rfl)
                                  · skip
                                    rw [kd] at c134
                                    exact absurd c134 (by decide)
                          · skip
                            have kE : stx p1 = 1 ∧ unx p1 ≤ tm + nI (i + 1) := ⟨c64, Int32.not_lt.mp c109⟩
                            refine lv_aload_n hx hb d_Md_ticks_109 rfl (lv_at hl 3 rfl) ?_
                            refine lv_iload hx hb d_Md_ticks_110 (lv_at hl 0 rfl) ?_
                            have hm154 : mR cI cJ Mc y b0 b1 b2 b3 b4 b5 b6 b7 b8 b9 b10 b11 0 ho pa (tm + nI (i + 1)) na np balx mi ky ac stx hex cl unx dnx dsx dd dlx := ⟨fy50, g51, g52, g53, g54, g55, g56, g57, g58, g59, g60, g61, g62, hap⟩
                            refine hb_callV (rest := []) hX hts hb_gd Y_Md_ends (c_Md_ends hE Mc y b0 b1 b2 b3 b4 b5 b6 b7 b8 b9 b10 b11 0 ho pa (tm + nI (i + 1)) na np balx mi ky ac stx hex cl unx dnx dsx dd dlx hm154 (by omega) (by omega) p1 (by omega)) ml_Md_113 im_Md_ends se_Md_ends hK fy50 hC_Md.1 hz hP hD hS hA rfl hl.1 rfl (Nat.le_of_ble_eq_true rfl) ⟨Nat.le_of_ble_eq_true rfl, Nat.le_of_ble_eq_true rfl⟩ ⟨Nat.le_of_ble_eq_true rfl, Nat.le_of_ble_eq_true rfl⟩ d_Md_ticks_112 (fun v157 M155 H locs hq156 hP hD hS _ hkp => ?_)
                            obtain ⟨ev159, h158⟩ := hq156
                            subst ev159
                            obtain ⟨fy160, g161, g162, g163, g164, g165, g166, g167, g168, g169, g170, g171, g172, -⟩ := id h158
                            refine W.eq (g2 := F0 m 115 ls []) rfl ?_
                            refine lv_aload_n hx hb d_Md_ticks_115 rfl (lv_at hl 3 rfl) ?_
                            refine hb_get hx hb hts hown hC_Md hK hP fy160 15 (by decide) rfl fl_Md_38 rfl d_Md_ticks_116 ?_
                            refine lv_iload hx hb d_Md_ticks_119 (lv_at hl 0 rfl) ?_
                            refine va_iald hx hb hK (hP.one g170) 0 0 rfl rfl (vp_in_nI (by omega) (by omega)) d_Md_ticks_121 ?_
                            refine W.eq (g2 := F0 m 122 ls [.int (dsx p1)]) (by rw [nI_clamp (show p1 < 2 ^ 31 by omega)]) ?_
                            refine lv_iconst (v := 1) hx hb d_Md_ticks_122 (by decide) ?_
                            refine lv_icmp_eq (tgt := 137) hx hb d_Md_ticks_123 (by decide) (fun c173 => ?_) (fun c173 => ?_)
                            · skip
                              have kd : dsx p1 = 1 := c173
                              refine lv_aload_n hx hb d_Md_ticks_137 rfl (lv_at hl 3 rfl) ?_
                              refine hb_get hx hb hts hown hC_Md hK hP fy160 17 (by decide) rfl fl_Md_44 rfl d_Md_ticks_138 ?_
                              refine lv_iload hx hb d_Md_ticks_141 (lv_at hl 0 rfl) ?_
                              refine va_iald hx hb hK (hP.one g172) 0 0 rfl rfl (vp_in_nI (by omega) (by omega)) d_Md_ticks_143 ?_
                              refine W.eq (g2 := F0 m 144 ls [.int (dlx p1)]) (by rw [nI_clamp (show p1 < 2 ^ 31 by omega)]) ?_
                              refine lv_aload_n hx hb d_Md_ticks_144 rfl (lv_at hl 3 rfl) ?_
                              refine hb_get hx hb hts hown hC_Md hK hP fy160 3 (by decide) rfl fl_Md_104 rfl d_Md_ticks_145 ?_
                              refine lv_icmp_ge (tgt := 173) hx hb d_Md_ticks_148 (by decide) (fun c174 => ?_) (fun c174 => ?_)
                              · skip
                                have c174n := hb_ngti c174
                                have kC : ¬ ((dsx p1 = 1 ∨ dsx p1 = 2) ∧ dlx p1 < tm + nI (i + 1)) := fun z => c174n z.2
                                have kL : ¬ (dsx p1 = 2 ∧ dlx p1 < tm + nI (i + 1)) := fun z => c174n z.2
                                refine lv_iinc (v := (nI p1) + 1) (lv' := [(4, .int ((nI p1) + 1)), (3, .int (nI i)), (2, .int 1), (0, .ref y), (1, .int (nI nn))]) hx hb d_Md_ticks_173 hl (k := 0) rfl (by rfl) (by decide) rfl (fun ls hl => ?_)
                                refine lv_goto (tgt := 75) hx hb d_Md_ticks_176 (by decide) ?_
                                have hm2 : mR cI cJ M155 y b0 b1 b2 b3 b4 b5 b6 b7 b8 b9 b10 b11 0 ho pa (tm + nI (i + 1)) na np balx mi ky ac (upd stx p1 (if 0 < cl p1 then 3 else 2)) (vp_updL hex p1 0) cl (upd unx p1 0) (upd dnx p1 (if 0 < cl p1 then tm + nI (i + 1) else -1)) dsx dd dlx := ⟨fy160, g161, g162, g163, g164, g165, g166, g167, g168, g169, g170, g171, g172, hap⟩
                                have hs2 : ((balx, hb_row ky ac (upd stx p1 (if 0 < cl p1 then 3 else 2)) (vp_updL hex p1 0) cl (upd unx p1 0) (upd dnx p1 (if 0 < cl p1 then tm + nI (i + 1) else -1)) dsx dd dlx) : hbT) = hb_rk (tm + nI (i + 1)) S1 (p1 + 1) := by
                                  rw [show hb_rk (tm + nI (i + 1)) S1 (p1 + 1) = hb_r1 (tm + nI (i + 1)) (hb_rk (tm + nI (i + 1)) S1 p1) p1 from rfl, ← hs1]
                                  exact hb_r1_EN kE kC kL
                                exact ih_p (p1 + 1) (by omega) (by omega) _ _ _ _ _ _ _ _ hm2 hs2 _ _ hP hD hS _ (by rw [← nI_1]; exact lv_sub hl [0, 1, 2, 3, 4] rfl)
                              · skip
                                have c174n := hb_gti c174
                                have kC : (dsx p1 = 1 ∨ dsx p1 = 2) ∧ dlx p1 < tm + nI (i + 1) := ⟨Or.inl kd, c174n⟩
                                have kL : ¬ (dsx p1 = 2 ∧ dlx p1 < tm + nI (i + 1)) := fun z => by rw [kd] at z; exact absurd z.1 (by decide)
                                obtain ⟨ka, hka, hac⟩ := hfd2 p1 hlt_p1 kC.1
                                have hac : ac p1 = nI ka := hac
                                refine lv_aload_n hx hb d_Md_ticks_151 rfl (lv_at hl 3 rfl) ?_
                                refine lv_iload hx hb d_Md_ticks_152 (lv_at hl 0 rfl) ?_
                                refine lv_aload_n hx hb d_Md_ticks_154 rfl (lv_at hl 3 rfl) ?_
                                refine hb_get hx hb hts hown hC_Md hK hP fy160 15 (by decide) rfl fl_Md_38 rfl d_Md_ticks_155 ?_
                                refine lv_iload hx hb d_Md_ticks_158 (lv_at hl 0 rfl) ?_
                                refine va_iald hx hb hK (hP.one g170) 0 0 rfl rfl (vp_in_nI (by omega) (by omega)) d_Md_ticks_160 ?_
                                refine W.eq (g2 := F0 m 161 ls [.int (dsx p1), .int (nI p1), .ref y]) (by rw [nI_clamp (show p1 < 2 ^ 31 by omega)]) ?_
                                refine lv_iconst (v := 1) hx hb d_Md_ticks_161 (by decide) ?_
                                refine lv_icmp_ne (tgt := 169) hx hb d_Md_ticks_162 (by decide) (fun c175 => ?_) (fun c175 => ?_)
                                · skip
                                  exact absurd kd c175
                                · skip
                                  refine lv_iconst (v := 1) hx hb d_Md_ticks_165 (by decide) ?_
                                  refine lv_goto (tgt := 170) hx hb d_Md_ticks_166 (by decide) ?_
                                  have hm176 : mR cI cJ M155 y b0 b1 b2 b3 b4 b5 b6 b7 b8 b9 b10 b11 0 ho pa (tm + nI (i + 1)) na np balx mi ky ac (upd stx p1 (if 0 < cl p1 then 3 else 2)) (vp_updL hex p1 0) cl (upd unx p1 0) (upd dnx p1 (if 0 < cl p1 then tm + nI (i + 1) else -1)) dsx dd dlx := ⟨fy160, g161, g162, g163, g164, g165, g166, g167, g168, g169, g170, g171, g172, hap⟩
                                  refine hb_callV (rest := []) hX hts hb_gd Y_Md_closes (c_Md_closes hE M155 y b0 b1 b2 b3 b4 b5 b6 b7 b8 b9 b10 b11 0 ho pa (tm + nI (i + 1)) na np balx mi ky ac (upd stx p1 (if 0 < cl p1 then 3 else 2)) (vp_updL hex p1 0) cl (upd unx p1 0) (upd dnx p1 (if 0 < cl p1 then tm + nI (i + 1) else -1)) dsx dd dlx hm176 (by omega) (by omega) p1 (by omega) 1 ka hka hac) ml_Md_117 im_Md_closes se_Md_closes hK fy160 hC_Md.1 hz hP hD hS hA rfl hl.1 rfl (Nat.le_of_ble_eq_true rfl) ⟨Nat.le_of_ble_eq_true rfl, Nat.le_of_ble_eq_true rfl⟩ ⟨Nat.le_of_ble_eq_true rfl, Nat.le_of_ble_eq_true rfl⟩ d_Md_ticks_170 (fun v179 M177 H locs hq178 hP hD hS _ hkp => ?_)
                                  obtain ⟨ev181, h180⟩ := hq178
                                  subst ev181
                                  obtain ⟨fy182, g183, g184, g185, g186, g187, g188, g189, g190, g191, g192, g193, g194, -⟩ := id h180
                                  refine W.eq (g2 := F0 m 173 ls []) rfl ?_
                                  refine lv_iinc (v := (nI p1) + 1) (lv' := [(4, .int ((nI p1) + 1)), (3, .int (nI i)), (2, .int 1), (0, .ref y), (1, .int (nI nn))]) hx hb d_Md_ticks_173 hl (k := 0) rfl (by rfl) (by decide) rfl (fun ls hl => ?_)
                                  refine lv_goto (tgt := 75) hx hb d_Md_ticks_176 (by decide) ?_
                                  have hm2 : mR cI cJ M177 y b0 b1 b2 b3 b4 b5 b6 b7 b8 b9 b10 b11 0 ho pa (tm + nI (i + 1)) na np (vp_updL balx ka (balx ka - (if 1 = 0 then dd p1 else 0))) mi ky ac (upd stx p1 (if 0 < cl p1 then 3 else 2)) (vp_updL hex p1 0) cl (upd unx p1 0) (upd dnx p1 (if 0 < cl p1 then tm + nI (i + 1) else -1)) (upd dsx p1 (if 1 = 0 then 4 else 3)) dd (upd dlx p1 (-1)) := ⟨fy182, g183, g184, g185, g186, g187, g188, g189, g190, g191, g192, g193, g194, hap⟩
                                  have hs2 : ((vp_updL balx ka (balx ka - (if 1 = 0 then dd p1 else 0)), hb_row ky ac (upd stx p1 (if 0 < cl p1 then 3 else 2)) (vp_updL hex p1 0) cl (upd unx p1 0) (upd dnx p1 (if 0 < cl p1 then tm + nI (i + 1) else -1)) (upd dsx p1 (if 1 = 0 then 4 else 3)) dd (upd dlx p1 (-1))) : hbT) = hb_rk (tm + nI (i + 1)) S1 (p1 + 1) := by
                                    rw [show hb_rk (tm + nI (i + 1)) S1 (p1 + 1) = hb_r1 (tm + nI (i + 1)) (hb_rk (tm + nI (i + 1)) S1 p1) p1 from rfl, ← hs1]
                                    exact hb_r1_EW kE kC kL kd (by rw [hac]; exact nI_clamp (by omega))
                                  exact ih_p (p1 + 1) (by omega) (by omega) _ _ _ _ _ _ _ _ hm2 hs2 _ _ hP hD hS _ (by rw [← nI_1]; exact lv_sub hl [0, 1, 2, 3, 4] rfl)
                            · skip
                              refine lv_aload_n hx hb d_Md_ticks_126 rfl (lv_at hl 3 rfl) ?_
                              refine hb_get hx hb hts hown hC_Md hK hP fy160 15 (by decide) rfl fl_Md_38 rfl d_Md_ticks_127 ?_
                              refine lv_iload hx hb d_Md_ticks_130 (lv_at hl 0 rfl) ?_
                              refine va_iald hx hb hK (hP.one g170) 0 0 rfl rfl (vp_in_nI (by omega) (by omega)) d_Md_ticks_132 ?_
                              refine W.eq (g2 := F0 m 133 ls [.int (dsx p1)]) (by rw [nI_clamp (show p1 < 2 ^ 31 by omega)]) ?_
                              refine lv_iconst (v := 2) hx hb d_Md_ticks_133 (by decide) ?_
                              refine lv_icmp_ne (tgt := 173) hx hb d_Md_ticks_134 (by decide) (fun c195 => ?_) (fun c195 => ?_)
                              · skip
                                have kC : ¬ ((dsx p1 = 1 ∨ dsx p1 = 2) ∧ dlx p1 < tm + nI (i + 1)) := fun z => by rcases z.1 with z9 | z9; exact c173 z9; exact c195 z9
                                have kL : ¬ (dsx p1 = 2 ∧ dlx p1 < tm + nI (i + 1)) := fun z => c195 z.1
                                refine lv_iinc (v := (nI p1) + 1) (lv' := [(4, .int ((nI p1) + 1)), (3, .int (nI i)), (2, .int 1), (0, .ref y), (1, .int (nI nn))]) hx hb d_Md_ticks_173 hl (k := 0) rfl (by rfl) (by decide) rfl (fun ls hl => ?_)
                                refine lv_goto (tgt := 75) hx hb d_Md_ticks_176 (by decide) ?_
                                have hm2 : mR cI cJ M155 y b0 b1 b2 b3 b4 b5 b6 b7 b8 b9 b10 b11 0 ho pa (tm + nI (i + 1)) na np balx mi ky ac (upd stx p1 (if 0 < cl p1 then 3 else 2)) (vp_updL hex p1 0) cl (upd unx p1 0) (upd dnx p1 (if 0 < cl p1 then tm + nI (i + 1) else -1)) dsx dd dlx := ⟨fy160, g161, g162, g163, g164, g165, g166, g167, g168, g169, g170, g171, g172, hap⟩
                                have hs2 : ((balx, hb_row ky ac (upd stx p1 (if 0 < cl p1 then 3 else 2)) (vp_updL hex p1 0) cl (upd unx p1 0) (upd dnx p1 (if 0 < cl p1 then tm + nI (i + 1) else -1)) dsx dd dlx) : hbT) = hb_rk (tm + nI (i + 1)) S1 (p1 + 1) := by
                                  rw [show hb_rk (tm + nI (i + 1)) S1 (p1 + 1) = hb_r1 (tm + nI (i + 1)) (hb_rk (tm + nI (i + 1)) S1 p1) p1 from rfl, ← hs1]
                                  exact hb_r1_EN kE kC kL
                                exact ih_p (p1 + 1) (by omega) (by omega) _ _ _ _ _ _ _ _ hm2 hs2 _ _ hP hD hS _ (by rw [← nI_1]; exact lv_sub hl [0, 1, 2, 3, 4] rfl)
                              · skip
                                have kd : dsx p1 = 2 := c195
                                refine lv_aload_n hx hb d_Md_ticks_137 rfl (lv_at hl 3 rfl) ?_
                                refine hb_get hx hb hts hown hC_Md hK hP fy160 17 (by decide) rfl fl_Md_44 rfl d_Md_ticks_138 ?_
                                refine lv_iload hx hb d_Md_ticks_141 (lv_at hl 0 rfl) ?_
                                refine va_iald hx hb hK (hP.one g172) 0 0 rfl rfl (vp_in_nI (by omega) (by omega)) d_Md_ticks_143 ?_
                                refine W.eq (g2 := F0 m 144 ls [.int (dlx p1)]) (by rw [nI_clamp (show p1 < 2 ^ 31 by omega)]) ?_
                                refine lv_aload_n hx hb d_Md_ticks_144 rfl (lv_at hl 3 rfl) ?_
                                refine hb_get hx hb hts hown hC_Md hK hP fy160 3 (by decide) rfl fl_Md_104 rfl d_Md_ticks_145 ?_
                                refine lv_icmp_ge (tgt := 173) hx hb d_Md_ticks_148 (by decide) (fun c196 => ?_) (fun c196 => ?_)
                                · skip
                                  have c196n := hb_ngti c196
                                  have kC : ¬ ((dsx p1 = 1 ∨ dsx p1 = 2) ∧ dlx p1 < tm + nI (i + 1)) := fun z => c196n z.2
                                  have kL : ¬ (dsx p1 = 2 ∧ dlx p1 < tm + nI (i + 1)) := fun z => c196n z.2
                                  refine lv_iinc (v := (nI p1) + 1) (lv' := [(4, .int ((nI p1) + 1)), (3, .int (nI i)), (2, .int 1), (0, .ref y), (1, .int (nI nn))]) hx hb d_Md_ticks_173 hl (k := 0) rfl (by rfl) (by decide) rfl (fun ls hl => ?_)
                                  refine lv_goto (tgt := 75) hx hb d_Md_ticks_176 (by decide) ?_
                                  have hm2 : mR cI cJ M155 y b0 b1 b2 b3 b4 b5 b6 b7 b8 b9 b10 b11 0 ho pa (tm + nI (i + 1)) na np balx mi ky ac (upd stx p1 (if 0 < cl p1 then 3 else 2)) (vp_updL hex p1 0) cl (upd unx p1 0) (upd dnx p1 (if 0 < cl p1 then tm + nI (i + 1) else -1)) dsx dd dlx := ⟨fy160, g161, g162, g163, g164, g165, g166, g167, g168, g169, g170, g171, g172, hap⟩
                                  have hs2 : ((balx, hb_row ky ac (upd stx p1 (if 0 < cl p1 then 3 else 2)) (vp_updL hex p1 0) cl (upd unx p1 0) (upd dnx p1 (if 0 < cl p1 then tm + nI (i + 1) else -1)) dsx dd dlx) : hbT) = hb_rk (tm + nI (i + 1)) S1 (p1 + 1) := by
                                    rw [show hb_rk (tm + nI (i + 1)) S1 (p1 + 1) = hb_r1 (tm + nI (i + 1)) (hb_rk (tm + nI (i + 1)) S1 p1) p1 from rfl, ← hs1]
                                    exact hb_r1_EN kE kC kL
                                  exact ih_p (p1 + 1) (by omega) (by omega) _ _ _ _ _ _ _ _ hm2 hs2 _ _ hP hD hS _ (by rw [← nI_1]; exact lv_sub hl [0, 1, 2, 3, 4] rfl)
                                · skip
                                  have c196n := hb_gti c196
                                  have kC : (dsx p1 = 1 ∨ dsx p1 = 2) ∧ dlx p1 < tm + nI (i + 1) := ⟨Or.inr kd, c196n⟩
                                  have kL : (dsx p1 = 2 ∧ dlx p1 < tm + nI (i + 1)) := ⟨kd, c196n⟩
                                  obtain ⟨ka, hka, hac⟩ := hfd2 p1 hlt_p1 kC.1
                                  have hac : ac p1 = nI ka := hac
                                  refine lv_aload_n hx hb d_Md_ticks_151 rfl (lv_at hl 3 rfl) ?_
                                  refine lv_iload hx hb d_Md_ticks_152 (lv_at hl 0 rfl) ?_
                                  refine lv_aload_n hx hb d_Md_ticks_154 rfl (lv_at hl 3 rfl) ?_
                                  refine hb_get hx hb hts hown hC_Md hK hP fy160 15 (by decide) rfl fl_Md_38 rfl d_Md_ticks_155 ?_
                                  refine lv_iload hx hb d_Md_ticks_158 (lv_at hl 0 rfl) ?_
                                  refine va_iald hx hb hK (hP.one g170) 0 0 rfl rfl (vp_in_nI (by omega) (by omega)) d_Md_ticks_160 ?_
                                  refine W.eq (g2 := F0 m 161 ls [.int (dsx p1), .int (nI p1), .ref y]) (by rw [nI_clamp (show p1 < 2 ^ 31 by omega)]) ?_
                                  refine lv_iconst (v := 1) hx hb d_Md_ticks_161 (by decide) ?_
                                  refine lv_icmp_ne (tgt := 169) hx hb d_Md_ticks_162 (by decide) (fun c197 => ?_) (fun c197 => ?_)
                                  · skip
                                    refine lv_iconst (v := 0) hx hb d_Md_ticks_169 (by decide) ?_
                                    have hm198 : mR cI cJ M155 y b0 b1 b2 b3 b4 b5 b6 b7 b8 b9 b10 b11 0 ho pa (tm + nI (i + 1)) na np balx mi ky ac (upd stx p1 (if 0 < cl p1 then 3 else 2)) (vp_updL hex p1 0) cl (upd unx p1 0) (upd dnx p1 (if 0 < cl p1 then tm + nI (i + 1) else -1)) dsx dd dlx := ⟨fy160, g161, g162, g163, g164, g165, g166, g167, g168, g169, g170, g171, g172, hap⟩
                                    refine hb_callV (rest := []) hX hts hb_gd Y_Md_closes (c_Md_closes hE M155 y b0 b1 b2 b3 b4 b5 b6 b7 b8 b9 b10 b11 0 ho pa (tm + nI (i + 1)) na np balx mi ky ac (upd stx p1 (if 0 < cl p1 then 3 else 2)) (vp_updL hex p1 0) cl (upd unx p1 0) (upd dnx p1 (if 0 < cl p1 then tm + nI (i + 1) else -1)) dsx dd dlx hm198 (by omega) (by omega) p1 (by omega) 0 ka hka hac) ml_Md_117 im_Md_closes se_Md_closes hK fy160 hC_Md.1 hz hP hD hS hA rfl hl.1 rfl (Nat.le_of_ble_eq_true rfl) ⟨Nat.le_of_ble_eq_true rfl, Nat.le_of_ble_eq_true rfl⟩ ⟨Nat.le_of_ble_eq_true rfl, Nat.le_of_ble_eq_true rfl⟩ d_Md_ticks_170 (fun v201 M199 H locs hq200 hP hD hS _ hkp => ?_)
                                    obtain ⟨ev203, h202⟩ := hq200
                                    subst ev203
                                    obtain ⟨fy204, g205, g206, g207, g208, g209, g210, g211, g212, g213, g214, g215, g216, -⟩ := id h202
                                    refine W.eq (g2 := F0 m 173 ls []) rfl ?_
                                    refine lv_iinc (v := (nI p1) + 1) (lv' := [(4, .int ((nI p1) + 1)), (3, .int (nI i)), (2, .int 1), (0, .ref y), (1, .int (nI nn))]) hx hb d_Md_ticks_173 hl (k := 0) rfl (by rfl) (by decide) rfl (fun ls hl => ?_)
                                    refine lv_goto (tgt := 75) hx hb d_Md_ticks_176 (by decide) ?_
                                    have hm2 : mR cI cJ M199 y b0 b1 b2 b3 b4 b5 b6 b7 b8 b9 b10 b11 0 ho pa (tm + nI (i + 1)) na np (vp_updL balx ka (balx ka - (if 0 = 0 then dd p1 else 0))) mi ky ac (upd stx p1 (if 0 < cl p1 then 3 else 2)) (vp_updL hex p1 0) cl (upd unx p1 0) (upd dnx p1 (if 0 < cl p1 then tm + nI (i + 1) else -1)) (upd dsx p1 (if 0 = 0 then 4 else 3)) dd (upd dlx p1 (-1)) := ⟨fy204, g205, g206, g207, g208, g209, g210, g211, g212, g213, g214, g215, g216, hap⟩
                                    have hs2 : ((vp_updL balx ka (balx ka - (if 0 = 0 then dd p1 else 0)), hb_row ky ac (upd stx p1 (if 0 < cl p1 then 3 else 2)) (vp_updL hex p1 0) cl (upd unx p1 0) (upd dnx p1 (if 0 < cl p1 then tm + nI (i + 1) else -1)) (upd dsx p1 (if 0 = 0 then 4 else 3)) dd (upd dlx p1 (-1))) : hbT) = hb_rk (tm + nI (i + 1)) S1 (p1 + 1) := by
                                      rw [show hb_rk (tm + nI (i + 1)) S1 (p1 + 1) = hb_r1 (tm + nI (i + 1)) (hb_rk (tm + nI (i + 1)) S1 p1) p1 from rfl, ← hs1]
                                      exact hb_r1_EL kE kC kL kd (by rw [hac]; exact nI_clamp (by omega))
                                    exact ih_p (p1 + 1) (by omega) (by omega) _ _ _ _ _ _ _ _ hm2 hs2 _ _ hP hD hS _ (by rw [← nI_1]; exact lv_sub hl [0, 1, 2, 3, 4] rfl)
                                  · skip
                                    rw [kd] at c197
                                    exact absurd c197 (by decide)
                  exact loop_p (np + 1) 0 (by omega) (by omega) _ balx stx hex unx dnx dsx dlx hm1 hs _ _ hP hD hS _ (lv_sub hl [0, 1, 2, 3, 4] rfl)
            exact loop (nn + 1) 0 (by omega) (by omega) _ bal st he un dn ds dl (by rw [hb_t0]; exact hm0) eS0.symm _ _ hP hD hS _ (lv_sub hl [0, 1, 2, 3] rfl)
          · skip
            have c20n := hb_gti c20
            exfalso; revert c20; decide
        · skip
          have c4n := hb_gti c4
          exact absurd c4n hti
      · skip
        exfalso; revert c3; decide
set_option maxHeartbeats 4000000 in
set_option maxRecDepth 100000 in
/-- forget() -/
theorem c_Md_forget {l : Launch} {s0 : State} {D : va_G} {cI cJ cO : ClassId} {e0 mi : Nat} (hE : hb_E l s0 D cI cJ cO e0 mi) (M : hb_M) (y b0 b1 b2 b3 b4 b5 b6 b7 b8 b9 b10 b11 : Nat) (cd ho pa tm : Int32) (na np : Nat) (bal mi : Nat → Int64) (ky ac st : Nat → Int32) (he cl : Nat → Int64) (un dn ds : Nat → Int32) (dd : Nat → Int64) (dl : Nat → Int32) (h : mR cI cJ M y b0 b1 b2 b3 b4 b5 b6 b7 b8 b9 b10 b11 cd ho pa tm na np bal mi ky ac st he cl un dn ds dd dl) (hna : na ≤ 16) (hnp : np ≤ 60) : hb_Met l D hb_cl s0 y_Md_forget b_Md_forget 3 (some .int) { frames := 3, cells := 0, slots := 0, locals := 100 } [.ref y] M (fun v M1 => ∃ (lf : Nat) (ky1 ac1 st1 : Nat → Int32) (he1 cl1 : Nat → Int64) (un1 dn1 ds1 : Nat → Int32) (dd1 : Nat → Int64) (dl1 : Nat → Int32), v = some (.int (nI np - nI lf)) ∧ mR cI cJ M1 y b0 b1 b2 b3 b4 b5 b6 b7 b8 b9 b10 b11 0 ho pa tm na lf bal mi ky1 ac1 st1 he1 cl1 un1 dn1 ds1 dd1 dl1 ∧ ((hb_row ky1 ac1 st1 he1 cl1 un1 dn1 ds1 dd1 dl1, lf) : (Nat → hbY) × Nat) = hb_fn pa tm (hb_row ky ac st he cl un dn ds dd dl, 0) np) := by
  refine hb_Met.of (by decide) (Nat.le_of_ble_eq_true rfl) ?_
  intro p e s m below meth c A hAe hX hz hP hD hA hS ls hl
  obtain ⟨hx, hb, hr, hml, hown, hlocks, hnm, hG, hnh⟩ := id hX
  have hown : s.vm.findClass "HoldBookModel" = some m.cls := hown
  have hts := hE.ts hG ([.ref y] : List Value).toArray
  have hK := hE.kn hG
  have hl : lv_has ls 3 [(0, .ref y)] := hl
  obtain ⟨fy, g0, g1, g2, g3, g4, g5, g6, g7, g8, g9, g10, g11, hap⟩ := id h
  refine lv_aload_n hx hb d_Md_forget_0 rfl (lv_at hl 0 rfl) ?_
  refine lv_iconst (v := 0) hx hb d_Md_forget_1 (by decide) ?_
  refine hb_put (ty := .int) hx hb hts hown hC_Md hK hP hD hS fy 0 (by decide) rfl fl_Md_54 rfl rfl rfl rfl (Nat.le_of_ble_eq_true rfl) d_Md_forget_2 (fun M1 H locs eM2 hP hD hS => ?_)
  have f3 : M1 y = some (.inr (4, [.int 0, .int ho, .int pa, .int tm, .int (nI na), .ref b0, .ref b1, .int (nI np), .ref b2, .ref b3, .ref b4, .ref b5, .ref b6, .ref b7, .ref b8, .ref b9, .ref b10, .ref b11])) := by rw [eM2]; exact hb_up_self
  have f4 : M1 b0 = some (.inl (cJ, 16, .inr (.inl bal))) := by rw [eM2, hb_up_ne (fun q9 => by rw [q9, fy] at g0; cases g0)]; exact g0
  have f5 : M1 b1 = some (.inl (cJ, 16, .inr (.inl mi))) := by rw [eM2, hb_up_ne (fun q9 => by rw [q9, fy] at g1; cases g1)]; exact g1
  have f6 : M1 b2 = some (.inl (cI, 60, .inl ky)) := by rw [eM2, hb_up_ne (fun q9 => by rw [q9, fy] at g2; cases g2)]; exact g2
  have f7 : M1 b3 = some (.inl (cI, 60, .inl ac)) := by rw [eM2, hb_up_ne (fun q9 => by rw [q9, fy] at g3; cases g3)]; exact g3
  have f8 : M1 b4 = some (.inl (cI, 60, .inl st)) := by rw [eM2, hb_up_ne (fun q9 => by rw [q9, fy] at g4; cases g4)]; exact g4
  have f9 : M1 b5 = some (.inl (cJ, 60, .inr (.inl he))) := by rw [eM2, hb_up_ne (fun q9 => by rw [q9, fy] at g5; cases g5)]; exact g5
  have f10 : M1 b6 = some (.inl (cJ, 60, .inr (.inl cl))) := by rw [eM2, hb_up_ne (fun q9 => by rw [q9, fy] at g6; cases g6)]; exact g6
  have f11 : M1 b7 = some (.inl (cI, 60, .inl un)) := by rw [eM2, hb_up_ne (fun q9 => by rw [q9, fy] at g7; cases g7)]; exact g7
  have f12 : M1 b8 = some (.inl (cI, 60, .inl dn)) := by rw [eM2, hb_up_ne (fun q9 => by rw [q9, fy] at g8; cases g8)]; exact g8
  have f13 : M1 b9 = some (.inl (cI, 60, .inl ds)) := by rw [eM2, hb_up_ne (fun q9 => by rw [q9, fy] at g9; cases g9)]; exact g9
  have f14 : M1 b10 = some (.inl (cJ, 60, .inr (.inl dd))) := by rw [eM2, hb_up_ne (fun q9 => by rw [q9, fy] at g10; cases g10)]; exact g10
  have f15 : M1 b11 = some (.inl (cI, 60, .inl dl)) := by rw [eM2, hb_up_ne (fun q9 => by rw [q9, fy] at g11; cases g11)]; exact g11
  refine lv_iconst (v := 0) hx hb d_Md_forget_5 (by decide) ?_
  refine lv_istore_n (lv' := [(1, .int 0), (0, .ref y)]) hx hb d_Md_forget_6 rfl hl (by decide) rfl (fun ls hl => ?_)
  refine lv_iconst (v := 0) hx hb d_Md_forget_7 (by decide) ?_
  refine lv_istore_n (lv' := [(2, .int 0), (1, .int 0), (0, .ref y)]) hx hb d_Md_forget_8 rfl hl (by decide) rfl (fun ls hl => ?_)
  obtain ⟨S0, eS0⟩ : ∃ z : Nat → hbY, z = hb_row ky ac st he cl un dn ds dd dl := ⟨_, rfl⟩
  have hm0 : mR cI cJ M1 y b0 b1 b2 b3 b4 b5 b6 b7 b8 b9 b10 b11 0 ho pa tm na np bal mi ky ac st he cl un dn ds dd dl := ⟨f3, f4, f5, f6, f7, f8, f9, f10, f11, f12, f13, f14, f15, hap⟩
  have loop : ∀ (d p1 : Nat), np - p1 < d → p1 ≤ np → ∀ (lf : Nat) (Mc : hb_M) (kyx acx stx : Nat → Int32) (hex clx : Nat → Int64) (unx dnx dsx : Nat → Int32) (ddx : Nat → Int64) (dlx : Nat → Int32), mR cI cJ Mc y b0 b1 b2 b3 b4 b5 b6 b7 b8 b9 b10 b11 0 ho pa tm na np bal mi kyx acx stx hex clx unx dnx dsx ddx dlx → ((hb_row kyx acx stx hex clx unx dnx dsx ddx dlx, lf) : (Nat → hbY) × Nat) = hb_fn pa tm (S0, 0) p1 → ∀ (H : Heap) (locs : List Loc), hb_P D hb_cl Mc H → hb_D A Mc → va_S A s.heap H locs → ∀ ls : Array Slot, lv_has ls 3 [(2, .int (nI p1)), (1, .int (nI lf)), (0, .ref y)] → W p l e ({ frames := 3, cells := 0, slots := 0, locals := 100 } : Room) s m ([.ref y] : List Value).toArray below meth c H locs 0 0 (MQ below (hb_Post D hb_cl s.heap.size M (fun v M1 => ∃ (lf : Nat) (ky1 ac1 st1 : Nat → Int32) (he1 cl1 : Nat → Int64) (un1 dn1 ds1 : Nat → Int32) (dd1 : Nat → Int64) (dl1 : Nat → Int32), v = some (.int (nI np - nI lf)) ∧ mR cI cJ M1 y b0 b1 b2 b3 b4 b5 b6 b7 b8 b9 b10 b11 0 ho pa tm na lf bal mi ky1 ac1 st1 he1 cl1 un1 dn1 ds1 dd1 dl1 ∧ ((hb_row ky1 ac1 st1 he1 cl1 un1 dn1 ds1 dd1 dl1, lf) : (Nat → hbY) × Nat) = hb_fn pa tm (hb_row ky ac st he cl un dn ds dd dl, 0) np)) ([.ref y] : List Value).toArray s 0 0 A) (F0 m 9 ls []) := by
    intro d
    induction d with
    | zero => intro p1 h9; exact absurd h9 (by omega)
    | succ d ih =>
      intro p1 hd hn_p1 lf Mc kyx acx stx hex clx unx dnx dsx ddx dlx hm hs H locs hP hD hS ls hl
      have hlf : lf ≤ p1 := by have h9 := hb_fn_le (pa := pa) (tm := tm) (f := S0) p1; rw [← hs] at h9; exact h9
      obtain ⟨fy16, g17, g18, g19, g20, g21, g22, g23, g24, g25, g26, g27, g28, -⟩ := id hm
      refine lv_iload_n hx hb d_Md_forget_9 rfl (lv_at hl 0 rfl) ?_
      refine lv_aload_n hx hb d_Md_forget_10 rfl (lv_at hl 2 rfl) ?_
      refine hb_get hx hb hts hown hC_Md hK hP fy16 7 (by decide) rfl fl_Md_60 rfl d_Md_forget_11 ?_
      refine lv_icmp_ge (tgt := 154) hx hb d_Md_forget_14 (by decide) (fun c29 => ?_) (fun c29 => ?_)
      · skip
        have c29n := hb_ngti c29
        have he_p1 : p1 = np := Nat.le_antisymm hn_p1 (by have := (nI_leI (by omega) (by omega)).mp c29; omega)
        refine lv_aload_n hx hb d_Md_forget_154 rfl (lv_at hl 2 rfl) ?_
        refine hb_get hx hb hts hown hC_Md hK hP fy16 7 (by decide) rfl fl_Md_60 rfl d_Md_forget_155 ?_
        refine lv_iload_n hx hb d_Md_forget_158 rfl (lv_at hl 1 rfl) ?_
        refine lv_isub hx hb d_Md_forget_159 ?_
        refine lv_istore_n (lv' := [(2, .int ((nI np) - (nI lf))), (1, .int (nI lf)), (0, .ref y)]) hx hb d_Md_forget_160 rfl hl (by decide) rfl (fun ls hl => ?_)
        refine lv_aload_n hx hb d_Md_forget_161 rfl (lv_at hl 2 rfl) ?_
        refine lv_iload_n hx hb d_Md_forget_162 rfl (lv_at hl 1 rfl) ?_
        refine hb_put (ty := .int) hx hb hts hown hC_Md hK hP hD hS fy16 7 (by decide) rfl fl_Md_60 rfl rfl rfl rfl (Nat.le_of_ble_eq_true rfl) d_Md_forget_163 (fun M30 H locs eM31 hP hD hS => ?_)
        have f32 : M30 y = some (.inr (4, [.int 0, .int ho, .int pa, .int tm, .int (nI na), .ref b0, .ref b1, .int (nI lf), .ref b2, .ref b3, .ref b4, .ref b5, .ref b6, .ref b7, .ref b8, .ref b9, .ref b10, .ref b11])) := by rw [eM31]; exact hb_up_self
        have f33 : M30 b0 = some (.inl (cJ, 16, .inr (.inl bal))) := by rw [eM31, hb_up_ne (fun q9 => by rw [q9, fy16] at g17; cases g17)]; exact g17
        have f34 : M30 b1 = some (.inl (cJ, 16, .inr (.inl mi))) := by rw [eM31, hb_up_ne (fun q9 => by rw [q9, fy16] at g18; cases g18)]; exact g18
        have f35 : M30 b2 = some (.inl (cI, 60, .inl kyx)) := by rw [eM31, hb_up_ne (fun q9 => by rw [q9, fy16] at g19; cases g19)]; exact g19
        have f36 : M30 b3 = some (.inl (cI, 60, .inl acx)) := by rw [eM31, hb_up_ne (fun q9 => by rw [q9, fy16] at g20; cases g20)]; exact g20
        have f37 : M30 b4 = some (.inl (cI, 60, .inl stx)) := by rw [eM31, hb_up_ne (fun q9 => by rw [q9, fy16] at g21; cases g21)]; exact g21
        have f38 : M30 b5 = some (.inl (cJ, 60, .inr (.inl hex))) := by rw [eM31, hb_up_ne (fun q9 => by rw [q9, fy16] at g22; cases g22)]; exact g22
        have f39 : M30 b6 = some (.inl (cJ, 60, .inr (.inl clx))) := by rw [eM31, hb_up_ne (fun q9 => by rw [q9, fy16] at g23; cases g23)]; exact g23
        have f40 : M30 b7 = some (.inl (cI, 60, .inl unx)) := by rw [eM31, hb_up_ne (fun q9 => by rw [q9, fy16] at g24; cases g24)]; exact g24
        have f41 : M30 b8 = some (.inl (cI, 60, .inl dnx)) := by rw [eM31, hb_up_ne (fun q9 => by rw [q9, fy16] at g25; cases g25)]; exact g25
        have f42 : M30 b9 = some (.inl (cI, 60, .inl dsx)) := by rw [eM31, hb_up_ne (fun q9 => by rw [q9, fy16] at g26; cases g26)]; exact g26
        have f43 : M30 b10 = some (.inl (cJ, 60, .inr (.inl ddx))) := by rw [eM31, hb_up_ne (fun q9 => by rw [q9, fy16] at g27; cases g27)]; exact g27
        have f44 : M30 b11 = some (.inl (cI, 60, .inl dlx)) := by rw [eM31, hb_up_ne (fun q9 => by rw [q9, fy16] at g28; cases g28)]; exact g28
        refine lv_iload_n hx hb d_Md_forget_166 rfl (lv_at hl 0 rfl) ?_
        exact hb_iret hAe hx hb hr hlocks hP hD hS (Nat.le_of_ble_eq_true rfl) (Nat.le_of_ble_eq_true rfl) (⟨lf, kyx, acx, stx, hex, clx, unx, dnx, dsx, ddx, dlx, rfl, ⟨f32, f33, f34, f35, f36, f37, f38, f39, f40, f41, f42, f43, f44, hap⟩, by rw [hs, he_p1, eS0]⟩) d_Md_forget_167
      · skip
        have c29n := hb_gti c29
        have hlt_p1 : p1 < np := Nat.lt_of_not_le (fun z => c29 (nI_le z (by omega)))
        refine lv_aload_n hx hb d_Md_forget_17 rfl (lv_at hl 2 rfl) ?_
        refine lv_iload_n hx hb d_Md_forget_18 rfl (lv_at hl 0 rfl) ?_
        have hm45 : mR cI cJ Mc y b0 b1 b2 b3 b4 b5 b6 b7 b8 b9 b10 b11 0 ho pa tm na np bal mi kyx acx stx hex clx unx dnx dsx ddx dlx := ⟨fy16, g17, g18, g19, g20, g21, g22, g23, g24, g25, g26, g27, g28, hap⟩
        refine hb_callV (rest := []) hX hts hb_gd Y_Md_stays (c_Md_stays hE Mc y b0 b1 b2 b3 b4 b5 b6 b7 b8 b9 b10 b11 0 ho pa tm na np bal mi kyx acx stx hex clx unx dnx dsx ddx dlx hm45 (by omega) (by omega) p1 (by omega)) ml_Md_121 im_Md_stays se_Md_stays hK fy16 hC_Md.1 hz hP hD hS hA rfl hl.1 rfl (Nat.le_of_ble_eq_true rfl) ⟨Nat.le_of_ble_eq_true rfl, Nat.le_of_ble_eq_true rfl⟩ ⟨Nat.le_of_ble_eq_true rfl, Nat.le_of_ble_eq_true rfl⟩ d_Md_forget_19 (fun v48 M46 H locs hq47 hP hD hS _ hkp => ?_)
        obtain ⟨ev49, eM50⟩ := hq47
        subst ev49
        rw [eM50] at hP hD
        refine W.eq (g2 := F0 m 22 ls [.int (if (if stx p1 = 3 ∧ dsx p1 = 0 then ¬ dnx p1 + pa < tm else (stx p1 = 1 ∨ dsx p1 = 1 ∨ dsx p1 = 2)) then 1 else 0)]) rfl ?_
        refine lv_if_eq (tgt := 148) hx hb d_Md_forget_22 (by decide) (fun c51 => ?_) (fun c51 => ?_)
        · skip
          have ksy : ¬ (if stx p1 = 3 ∧ dsx p1 = 0 then ¬ dnx p1 + pa < tm else (stx p1 = 1 ∨ dsx p1 = 1 ∨ dsx p1 = 2)) := fun z => by rw [if_pos z] at c51; exact absurd c51 (by decide)
          refine lv_iinc (v := (nI p1) + 1) (lv' := [(2, .int ((nI p1) + 1)), (1, .int (nI lf)), (0, .ref y)]) hx hb d_Md_forget_148 hl (k := 0) rfl (by rfl) (by decide) rfl (fun ls hl => ?_)
          refine lv_goto (tgt := 9) hx hb d_Md_forget_151 (by decide) ?_
          have hm2 : mR cI cJ Mc y b0 b1 b2 b3 b4 b5 b6 b7 b8 b9 b10 b11 0 ho pa tm na np bal mi kyx acx stx hex clx unx dnx dsx ddx dlx := ⟨fy16, g17, g18, g19, g20, g21, g22, g23, g24, g25, g26, g27, g28, hap⟩
          have hs2 : ((hb_row kyx acx stx hex clx unx dnx dsx ddx dlx, lf) : (Nat → hbY) × Nat) = hb_fn pa tm (S0, 0) (p1 + 1) := by
            rw [show hb_fn pa tm (S0, 0) (p1 + 1) = hb_f1 pa tm (hb_fn pa tm (S0, 0) p1) p1 from rfl, ← hs]
            exact (if_neg ksy).symm
          exact ih (p1 + 1) (by omega) (by omega) _ _ _ _ _ _ _ _ _ _ _ _ hm2 hs2 _ _ hP hD hS _ (by rw [← nI_1]; exact lv_sub hl [0, 1, 2] rfl)
        · skip
          have ksy : (if stx p1 = 3 ∧ dsx p1 = 0 then ¬ dnx p1 + pa < tm else (stx p1 = 1 ∨ dsx p1 = 1 ∨ dsx p1 = 2)) := Classical.byContradiction (fun z => c51 (if_neg z))
          refine lv_aload_n hx hb d_Md_forget_25 rfl (lv_at hl 2 rfl) ?_
          refine hb_get hx hb hts hown hC_Md hK hP fy16 8 (by decide) rfl fl_Md_16 rfl d_Md_forget_26 ?_
          refine lv_iload_n hx hb d_Md_forget_29 rfl (lv_at hl 1 rfl) ?_
          refine lv_aload_n hx hb d_Md_forget_30 rfl (lv_at hl 2 rfl) ?_
          refine hb_get hx hb hts hown hC_Md hK hP fy16 8 (by decide) rfl fl_Md_16 rfl d_Md_forget_31 ?_
          refine lv_iload_n hx hb d_Md_forget_34 rfl (lv_at hl 0 rfl) ?_
          refine va_iald hx hb hK (hP.one g19) 0 0 rfl rfl (vp_in_nI (by omega) (by omega)) d_Md_forget_35 ?_
          refine W.eq (g2 := F0 m 36 ls [.int (kyx p1), .int (nI lf), .ref b2]) (by rw [nI_clamp (show p1 < 2 ^ 31 by omega)]) ?_
          refine hb_iast hx hb hK hP hD hS g19 (vp_in_nI (by omega) (by omega)) d_Md_forget_36 (fun M52 H locs eM53 hP hD hS => ?_)
          rw [nI_clamp (show lf < 2 ^ 31 by omega)] at eM53
          have f54 : M52 b2 = some (.inl (cI, 60, .inl (upd kyx lf (kyx p1)))) := by rw [eM53]; exact hb_up_self
          have f55 : M52 y = some (.inr (4, [.int 0, .int ho, .int pa, .int tm, .int (nI na), .ref b0, .ref b1, .int (nI np), .ref b2, .ref b3, .ref b4, .ref b5, .ref b6, .ref b7, .ref b8, .ref b9, .ref b10, .ref b11])) := by rw [eM53, hb_up_ne (fun q9 => by rw [q9, g19] at fy16; cases fy16)]; exact fy16
          have f56 : M52 b0 = some (.inl (cJ, 16, .inr (.inl bal))) := by rw [eM53, hb_up_ne (hap.ne 0 2 (by decide) rfl rfl)]; exact g17
          have f57 : M52 b1 = some (.inl (cJ, 16, .inr (.inl mi))) := by rw [eM53, hb_up_ne (hap.ne 1 2 (by decide) rfl rfl)]; exact g18
          have f58 : M52 b3 = some (.inl (cI, 60, .inl acx)) := by rw [eM53, hb_up_ne (hap.ne 3 2 (by decide) rfl rfl)]; exact g20
          have f59 : M52 b4 = some (.inl (cI, 60, .inl stx)) := by rw [eM53, hb_up_ne (hap.ne 4 2 (by decide) rfl rfl)]; exact g21
          have f60 : M52 b5 = some (.inl (cJ, 60, .inr (.inl hex))) := by rw [eM53, hb_up_ne (hap.ne 5 2 (by decide) rfl rfl)]; exact g22
          have f61 : M52 b6 = some (.inl (cJ, 60, .inr (.inl clx))) := by rw [eM53, hb_up_ne (hap.ne 6 2 (by decide) rfl rfl)]; exact g23
          have f62 : M52 b7 = some (.inl (cI, 60, .inl unx)) := by rw [eM53, hb_up_ne (hap.ne 7 2 (by decide) rfl rfl)]; exact g24
          have f63 : M52 b8 = some (.inl (cI, 60, .inl dnx)) := by rw [eM53, hb_up_ne (hap.ne 8 2 (by decide) rfl rfl)]; exact g25
          have f64 : M52 b9 = some (.inl (cI, 60, .inl dsx)) := by rw [eM53, hb_up_ne (hap.ne 9 2 (by decide) rfl rfl)]; exact g26
          have f65 : M52 b10 = some (.inl (cJ, 60, .inr (.inl ddx))) := by rw [eM53, hb_up_ne (hap.ne 10 2 (by decide) rfl rfl)]; exact g27
          have f66 : M52 b11 = some (.inl (cI, 60, .inl dlx)) := by rw [eM53, hb_up_ne (hap.ne 11 2 (by decide) rfl rfl)]; exact g28
          refine lv_aload_n hx hb d_Md_forget_37 rfl (lv_at hl 2 rfl) ?_
          refine hb_get hx hb hts hown hC_Md hK hP f55 9 (by decide) rfl fl_Md_20 rfl d_Md_forget_38 ?_
          refine lv_iload_n hx hb d_Md_forget_41 rfl (lv_at hl 1 rfl) ?_
          refine lv_aload_n hx hb d_Md_forget_42 rfl (lv_at hl 2 rfl) ?_
          refine hb_get hx hb hts hown hC_Md hK hP f55 9 (by decide) rfl fl_Md_20 rfl d_Md_forget_43 ?_
          refine lv_iload_n hx hb d_Md_forget_46 rfl (lv_at hl 0 rfl) ?_
          refine va_iald hx hb hK (hP.one f58) 0 0 rfl rfl (vp_in_nI (by omega) (by omega)) d_Md_forget_47 ?_
          refine W.eq (g2 := F0 m 48 ls [.int (acx p1), .int (nI lf), .ref b3]) (by rw [nI_clamp (show p1 < 2 ^ 31 by omega)]) ?_
          refine hb_iast hx hb hK hP hD hS f58 (vp_in_nI (by omega) (by omega)) d_Md_forget_48 (fun M67 H locs eM68 hP hD hS => ?_)
          rw [nI_clamp (show lf < 2 ^ 31 by omega)] at eM68
          have f69 : M67 b3 = some (.inl (cI, 60, .inl (upd acx lf (acx p1)))) := by rw [eM68]; exact hb_up_self
          have f70 : M67 b2 = some (.inl (cI, 60, .inl (upd kyx lf (kyx p1)))) := by rw [eM68, hb_up_ne (hap.ne 2 3 (by decide) rfl rfl)]; exact f54
          have f71 : M67 y = some (.inr (4, [.int 0, .int ho, .int pa, .int tm, .int (nI na), .ref b0, .ref b1, .int (nI np), .ref b2, .ref b3, .ref b4, .ref b5, .ref b6, .ref b7, .ref b8, .ref b9, .ref b10, .ref b11])) := by rw [eM68, hb_up_ne (fun q9 => by rw [q9, f58] at f55; cases f55)]; exact f55
          have f72 : M67 b0 = some (.inl (cJ, 16, .inr (.inl bal))) := by rw [eM68, hb_up_ne (hap.ne 0 3 (by decide) rfl rfl)]; exact f56
          have f73 : M67 b1 = some (.inl (cJ, 16, .inr (.inl mi))) := by rw [eM68, hb_up_ne (hap.ne 1 3 (by decide) rfl rfl)]; exact f57
          have f74 : M67 b4 = some (.inl (cI, 60, .inl stx)) := by rw [eM68, hb_up_ne (hap.ne 4 3 (by decide) rfl rfl)]; exact f59
          have f75 : M67 b5 = some (.inl (cJ, 60, .inr (.inl hex))) := by rw [eM68, hb_up_ne (hap.ne 5 3 (by decide) rfl rfl)]; exact f60
          have f76 : M67 b6 = some (.inl (cJ, 60, .inr (.inl clx))) := by rw [eM68, hb_up_ne (hap.ne 6 3 (by decide) rfl rfl)]; exact f61
          have f77 : M67 b7 = some (.inl (cI, 60, .inl unx)) := by rw [eM68, hb_up_ne (hap.ne 7 3 (by decide) rfl rfl)]; exact f62
          have f78 : M67 b8 = some (.inl (cI, 60, .inl dnx)) := by rw [eM68, hb_up_ne (hap.ne 8 3 (by decide) rfl rfl)]; exact f63
          have f79 : M67 b9 = some (.inl (cI, 60, .inl dsx)) := by rw [eM68, hb_up_ne (hap.ne 9 3 (by decide) rfl rfl)]; exact f64
          have f80 : M67 b10 = some (.inl (cJ, 60, .inr (.inl ddx))) := by rw [eM68, hb_up_ne (hap.ne 10 3 (by decide) rfl rfl)]; exact f65
          have f81 : M67 b11 = some (.inl (cI, 60, .inl dlx)) := by rw [eM68, hb_up_ne (hap.ne 11 3 (by decide) rfl rfl)]; exact f66
          refine lv_aload_n hx hb d_Md_forget_49 rfl (lv_at hl 2 rfl) ?_
          refine hb_get hx hb hts hown hC_Md hK hP f71 10 (by decide) rfl fl_Md_23 rfl d_Md_forget_50 ?_
          refine lv_iload_n hx hb d_Md_forget_53 rfl (lv_at hl 1 rfl) ?_
          refine lv_aload_n hx hb d_Md_forget_54 rfl (lv_at hl 2 rfl) ?_
          refine hb_get hx hb hts hown hC_Md hK hP f71 10 (by decide) rfl fl_Md_23 rfl d_Md_forget_55 ?_
          refine lv_iload_n hx hb d_Md_forget_58 rfl (lv_at hl 0 rfl) ?_
          refine va_iald hx hb hK (hP.one f74) 0 0 rfl rfl (vp_in_nI (by omega) (by omega)) d_Md_forget_59 ?_
          refine W.eq (g2 := F0 m 60 ls [.int (stx p1), .int (nI lf), .ref b4]) (by rw [nI_clamp (show p1 < 2 ^ 31 by omega)]) ?_
          refine hb_iast hx hb hK hP hD hS f74 (vp_in_nI (by omega) (by omega)) d_Md_forget_60 (fun M82 H locs eM83 hP hD hS => ?_)
          rw [nI_clamp (show lf < 2 ^ 31 by omega)] at eM83
          have f84 : M82 b4 = some (.inl (cI, 60, .inl (upd stx lf (stx p1)))) := by rw [eM83]; exact hb_up_self
          have f85 : M82 b3 = some (.inl (cI, 60, .inl (upd acx lf (acx p1)))) := by rw [eM83, hb_up_ne (hap.ne 3 4 (by decide) rfl rfl)]; exact f69
          have f86 : M82 b2 = some (.inl (cI, 60, .inl (upd kyx lf (kyx p1)))) := by rw [eM83, hb_up_ne (hap.ne 2 4 (by decide) rfl rfl)]; exact f70
          have f87 : M82 y = some (.inr (4, [.int 0, .int ho, .int pa, .int tm, .int (nI na), .ref b0, .ref b1, .int (nI np), .ref b2, .ref b3, .ref b4, .ref b5, .ref b6, .ref b7, .ref b8, .ref b9, .ref b10, .ref b11])) := by rw [eM83, hb_up_ne (fun q9 => by rw [q9, f74] at f71; cases f71)]; exact f71
          have f88 : M82 b0 = some (.inl (cJ, 16, .inr (.inl bal))) := by rw [eM83, hb_up_ne (hap.ne 0 4 (by decide) rfl rfl)]; exact f72
          have f89 : M82 b1 = some (.inl (cJ, 16, .inr (.inl mi))) := by rw [eM83, hb_up_ne (hap.ne 1 4 (by decide) rfl rfl)]; exact f73
          have f90 : M82 b5 = some (.inl (cJ, 60, .inr (.inl hex))) := by rw [eM83, hb_up_ne (hap.ne 5 4 (by decide) rfl rfl)]; exact f75
          have f91 : M82 b6 = some (.inl (cJ, 60, .inr (.inl clx))) := by rw [eM83, hb_up_ne (hap.ne 6 4 (by decide) rfl rfl)]; exact f76
          have f92 : M82 b7 = some (.inl (cI, 60, .inl unx)) := by rw [eM83, hb_up_ne (hap.ne 7 4 (by decide) rfl rfl)]; exact f77
          have f93 : M82 b8 = some (.inl (cI, 60, .inl dnx)) := by rw [eM83, hb_up_ne (hap.ne 8 4 (by decide) rfl rfl)]; exact f78
          have f94 : M82 b9 = some (.inl (cI, 60, .inl dsx)) := by rw [eM83, hb_up_ne (hap.ne 9 4 (by decide) rfl rfl)]; exact f79
          have f95 : M82 b10 = some (.inl (cJ, 60, .inr (.inl ddx))) := by rw [eM83, hb_up_ne (hap.ne 10 4 (by decide) rfl rfl)]; exact f80
          have f96 : M82 b11 = some (.inl (cI, 60, .inl dlx)) := by rw [eM83, hb_up_ne (hap.ne 11 4 (by decide) rfl rfl)]; exact f81
          refine lv_aload_n hx hb d_Md_forget_61 rfl (lv_at hl 2 rfl) ?_
          refine hb_get hx hb hts hown hC_Md hK hP f87 11 (by decide) rfl fl_Md_26 rfl d_Md_forget_62 ?_
          refine lv_iload_n hx hb d_Md_forget_65 rfl (lv_at hl 1 rfl) ?_
          refine lv_aload_n hx hb d_Md_forget_66 rfl (lv_at hl 2 rfl) ?_
          refine hb_get hx hb hts hown hC_Md hK hP f87 11 (by decide) rfl fl_Md_26 rfl d_Md_forget_67 ?_
          refine lv_iload_n hx hb d_Md_forget_70 rfl (lv_at hl 0 rfl) ?_
          refine va_lald hx hb hK (hP.one f90) 0 1 rfl rfl (vp_in_nI (by omega) (by omega)) d_Md_forget_71 ?_
          refine W.eq (g2 := F0 m 72 ls [.long (hex p1), .int (nI lf), .ref b5]) (by rw [nI_clamp (show p1 < 2 ^ 31 by omega)]) ?_
          refine hb_last hx hb hK hP hD hS f90 (vp_in_nI (by omega) (by omega)) d_Md_forget_72 (fun M97 H locs eM98 hP hD hS => ?_)
          rw [nI_clamp (show lf < 2 ^ 31 by omega)] at eM98
          have f99 : M97 b5 = some (.inl (cJ, 60, .inr (.inl (vp_updL hex lf (hex p1))))) := by rw [eM98]; exact hb_up_self
          have f100 : M97 b4 = some (.inl (cI, 60, .inl (upd stx lf (stx p1)))) := by rw [eM98, hb_up_ne (hap.ne 4 5 (by decide) rfl rfl)]; exact f84
          have f101 : M97 b3 = some (.inl (cI, 60, .inl (upd acx lf (acx p1)))) := by rw [eM98, hb_up_ne (hap.ne 3 5 (by decide) rfl rfl)]; exact f85
          have f102 : M97 b2 = some (.inl (cI, 60, .inl (upd kyx lf (kyx p1)))) := by rw [eM98, hb_up_ne (hap.ne 2 5 (by decide) rfl rfl)]; exact f86
          have f103 : M97 y = some (.inr (4, [.int 0, .int ho, .int pa, .int tm, .int (nI na), .ref b0, .ref b1, .int (nI np), .ref b2, .ref b3, .ref b4, .ref b5, .ref b6, .ref b7, .ref b8, .ref b9, .ref b10, .ref b11])) := by rw [eM98, hb_up_ne (fun q9 => by rw [q9, f90] at f87; cases f87)]; exact f87
          have f104 : M97 b0 = some (.inl (cJ, 16, .inr (.inl bal))) := by rw [eM98, hb_up_ne (hap.ne 0 5 (by decide) rfl rfl)]; exact f88
          have f105 : M97 b1 = some (.inl (cJ, 16, .inr (.inl mi))) := by rw [eM98, hb_up_ne (hap.ne 1 5 (by decide) rfl rfl)]; exact f89
          have f106 : M97 b6 = some (.inl (cJ, 60, .inr (.inl clx))) := by rw [eM98, hb_up_ne (hap.ne 6 5 (by decide) rfl rfl)]; exact f91
          have f107 : M97 b7 = some (.inl (cI, 60, .inl unx)) := by rw [eM98, hb_up_ne (hap.ne 7 5 (by decide) rfl rfl)]; exact f92
          have f108 : M97 b8 = some (.inl (cI, 60, .inl dnx)) := by rw [eM98, hb_up_ne (hap.ne 8 5 (by decide) rfl rfl)]; exact f93
          have f109 : M97 b9 = some (.inl (cI, 60, .inl dsx)) := by rw [eM98, hb_up_ne (hap.ne 9 5 (by decide) rfl rfl)]; exact f94
          have f110 : M97 b10 = some (.inl (cJ, 60, .inr (.inl ddx))) := by rw [eM98, hb_up_ne (hap.ne 10 5 (by decide) rfl rfl)]; exact f95
          have f111 : M97 b11 = some (.inl (cI, 60, .inl dlx)) := by rw [eM98, hb_up_ne (hap.ne 11 5 (by decide) rfl rfl)]; exact f96
          refine lv_aload_n hx hb d_Md_forget_73 rfl (lv_at hl 2 rfl) ?_
          refine hb_get hx hb hts hown hC_Md hK hP f103 12 (by decide) rfl fl_Md_29 rfl d_Md_forget_74 ?_
          refine lv_iload_n hx hb d_Md_forget_77 rfl (lv_at hl 1 rfl) ?_
          refine lv_aload_n hx hb d_Md_forget_78 rfl (lv_at hl 2 rfl) ?_
          refine hb_get hx hb hts hown hC_Md hK hP f103 12 (by decide) rfl fl_Md_29 rfl d_Md_forget_79 ?_
          refine lv_iload_n hx hb d_Md_forget_82 rfl (lv_at hl 0 rfl) ?_
          refine va_lald hx hb hK (hP.one f106) 0 1 rfl rfl (vp_in_nI (by omega) (by omega)) d_Md_forget_83 ?_
          refine W.eq (g2 := F0 m 84 ls [.long (clx p1), .int (nI lf), .ref b6]) (by rw [nI_clamp (show p1 < 2 ^ 31 by omega)]) ?_
          refine hb_last hx hb hK hP hD hS f106 (vp_in_nI (by omega) (by omega)) d_Md_forget_84 (fun M112 H locs eM113 hP hD hS => ?_)
          rw [nI_clamp (show lf < 2 ^ 31 by omega)] at eM113
          have f114 : M112 b6 = some (.inl (cJ, 60, .inr (.inl (vp_updL clx lf (clx p1))))) := by rw [eM113]; exact hb_up_self
          have f115 : M112 b5 = some (.inl (cJ, 60, .inr (.inl (vp_updL hex lf (hex p1))))) := by rw [eM113, hb_up_ne (hap.ne 5 6 (by decide) rfl rfl)]; exact f99
          have f116 : M112 b4 = some (.inl (cI, 60, .inl (upd stx lf (stx p1)))) := by rw [eM113, hb_up_ne (hap.ne 4 6 (by decide) rfl rfl)]; exact f100
          have f117 : M112 b3 = some (.inl (cI, 60, .inl (upd acx lf (acx p1)))) := by rw [eM113, hb_up_ne (hap.ne 3 6 (by decide) rfl rfl)]; exact f101
          have f118 : M112 b2 = some (.inl (cI, 60, .inl (upd kyx lf (kyx p1)))) := by rw [eM113, hb_up_ne (hap.ne 2 6 (by decide) rfl rfl)]; exact f102
          have f119 : M112 y = some (.inr (4, [.int 0, .int ho, .int pa, .int tm, .int (nI na), .ref b0, .ref b1, .int (nI np), .ref b2, .ref b3, .ref b4, .ref b5, .ref b6, .ref b7, .ref b8, .ref b9, .ref b10, .ref b11])) := by rw [eM113, hb_up_ne (fun q9 => by rw [q9, f106] at f103; cases f103)]; exact f103
          have f120 : M112 b0 = some (.inl (cJ, 16, .inr (.inl bal))) := by rw [eM113, hb_up_ne (hap.ne 0 6 (by decide) rfl rfl)]; exact f104
          have f121 : M112 b1 = some (.inl (cJ, 16, .inr (.inl mi))) := by rw [eM113, hb_up_ne (hap.ne 1 6 (by decide) rfl rfl)]; exact f105
          have f122 : M112 b7 = some (.inl (cI, 60, .inl unx)) := by rw [eM113, hb_up_ne (hap.ne 7 6 (by decide) rfl rfl)]; exact f107
          have f123 : M112 b8 = some (.inl (cI, 60, .inl dnx)) := by rw [eM113, hb_up_ne (hap.ne 8 6 (by decide) rfl rfl)]; exact f108
          have f124 : M112 b9 = some (.inl (cI, 60, .inl dsx)) := by rw [eM113, hb_up_ne (hap.ne 9 6 (by decide) rfl rfl)]; exact f109
          have f125 : M112 b10 = some (.inl (cJ, 60, .inr (.inl ddx))) := by rw [eM113, hb_up_ne (hap.ne 10 6 (by decide) rfl rfl)]; exact f110
          have f126 : M112 b11 = some (.inl (cI, 60, .inl dlx)) := by rw [eM113, hb_up_ne (hap.ne 11 6 (by decide) rfl rfl)]; exact f111
          refine lv_aload_n hx hb d_Md_forget_85 rfl (lv_at hl 2 rfl) ?_
          refine hb_get hx hb hts hown hC_Md hK hP f119 13 (by decide) rfl fl_Md_32 rfl d_Md_forget_86 ?_
          refine lv_iload_n hx hb d_Md_forget_89 rfl (lv_at hl 1 rfl) ?_
          refine lv_aload_n hx hb d_Md_forget_90 rfl (lv_at hl 2 rfl) ?_
          refine hb_get hx hb hts hown hC_Md hK hP f119 13 (by decide) rfl fl_Md_32 rfl d_Md_forget_91 ?_
          refine lv_iload_n hx hb d_Md_forget_94 rfl (lv_at hl 0 rfl) ?_
          refine va_iald hx hb hK (hP.one f122) 0 0 rfl rfl (vp_in_nI (by omega) (by omega)) d_Md_forget_95 ?_
          refine W.eq (g2 := F0 m 96 ls [.int (unx p1), .int (nI lf), .ref b7]) (by rw [nI_clamp (show p1 < 2 ^ 31 by omega)]) ?_
          refine hb_iast hx hb hK hP hD hS f122 (vp_in_nI (by omega) (by omega)) d_Md_forget_96 (fun M127 H locs eM128 hP hD hS => ?_)
          rw [nI_clamp (show lf < 2 ^ 31 by omega)] at eM128
          have f129 : M127 b7 = some (.inl (cI, 60, .inl (upd unx lf (unx p1)))) := by rw [eM128]; exact hb_up_self
          have f130 : M127 b6 = some (.inl (cJ, 60, .inr (.inl (vp_updL clx lf (clx p1))))) := by rw [eM128, hb_up_ne (hap.ne 6 7 (by decide) rfl rfl)]; exact f114
          have f131 : M127 b5 = some (.inl (cJ, 60, .inr (.inl (vp_updL hex lf (hex p1))))) := by rw [eM128, hb_up_ne (hap.ne 5 7 (by decide) rfl rfl)]; exact f115
          have f132 : M127 b4 = some (.inl (cI, 60, .inl (upd stx lf (stx p1)))) := by rw [eM128, hb_up_ne (hap.ne 4 7 (by decide) rfl rfl)]; exact f116
          have f133 : M127 b3 = some (.inl (cI, 60, .inl (upd acx lf (acx p1)))) := by rw [eM128, hb_up_ne (hap.ne 3 7 (by decide) rfl rfl)]; exact f117
          have f134 : M127 b2 = some (.inl (cI, 60, .inl (upd kyx lf (kyx p1)))) := by rw [eM128, hb_up_ne (hap.ne 2 7 (by decide) rfl rfl)]; exact f118
          have f135 : M127 y = some (.inr (4, [.int 0, .int ho, .int pa, .int tm, .int (nI na), .ref b0, .ref b1, .int (nI np), .ref b2, .ref b3, .ref b4, .ref b5, .ref b6, .ref b7, .ref b8, .ref b9, .ref b10, .ref b11])) := by rw [eM128, hb_up_ne (fun q9 => by rw [q9, f122] at f119; cases f119)]; exact f119
          have f136 : M127 b0 = some (.inl (cJ, 16, .inr (.inl bal))) := by rw [eM128, hb_up_ne (hap.ne 0 7 (by decide) rfl rfl)]; exact f120
          have f137 : M127 b1 = some (.inl (cJ, 16, .inr (.inl mi))) := by rw [eM128, hb_up_ne (hap.ne 1 7 (by decide) rfl rfl)]; exact f121
          have f138 : M127 b8 = some (.inl (cI, 60, .inl dnx)) := by rw [eM128, hb_up_ne (hap.ne 8 7 (by decide) rfl rfl)]; exact f123
          have f139 : M127 b9 = some (.inl (cI, 60, .inl dsx)) := by rw [eM128, hb_up_ne (hap.ne 9 7 (by decide) rfl rfl)]; exact f124
          have f140 : M127 b10 = some (.inl (cJ, 60, .inr (.inl ddx))) := by rw [eM128, hb_up_ne (hap.ne 10 7 (by decide) rfl rfl)]; exact f125
          have f141 : M127 b11 = some (.inl (cI, 60, .inl dlx)) := by rw [eM128, hb_up_ne (hap.ne 11 7 (by decide) rfl rfl)]; exact f126
          refine lv_aload_n hx hb d_Md_forget_97 rfl (lv_at hl 2 rfl) ?_
          refine hb_get hx hb hts hown hC_Md hK hP f135 14 (by decide) rfl fl_Md_35 rfl d_Md_forget_98 ?_
          refine lv_iload_n hx hb d_Md_forget_101 rfl (lv_at hl 1 rfl) ?_
          refine lv_aload_n hx hb d_Md_forget_102 rfl (lv_at hl 2 rfl) ?_
          refine hb_get hx hb hts hown hC_Md hK hP f135 14 (by decide) rfl fl_Md_35 rfl d_Md_forget_103 ?_
          refine lv_iload_n hx hb d_Md_forget_106 rfl (lv_at hl 0 rfl) ?_
          refine va_iald hx hb hK (hP.one f138) 0 0 rfl rfl (vp_in_nI (by omega) (by omega)) d_Md_forget_107 ?_
          refine W.eq (g2 := F0 m 108 ls [.int (dnx p1), .int (nI lf), .ref b8]) (by rw [nI_clamp (show p1 < 2 ^ 31 by omega)]) ?_
          refine hb_iast hx hb hK hP hD hS f138 (vp_in_nI (by omega) (by omega)) d_Md_forget_108 (fun M142 H locs eM143 hP hD hS => ?_)
          rw [nI_clamp (show lf < 2 ^ 31 by omega)] at eM143
          have f144 : M142 b8 = some (.inl (cI, 60, .inl (upd dnx lf (dnx p1)))) := by rw [eM143]; exact hb_up_self
          have f145 : M142 b7 = some (.inl (cI, 60, .inl (upd unx lf (unx p1)))) := by rw [eM143, hb_up_ne (hap.ne 7 8 (by decide) rfl rfl)]; exact f129
          have f146 : M142 b6 = some (.inl (cJ, 60, .inr (.inl (vp_updL clx lf (clx p1))))) := by rw [eM143, hb_up_ne (hap.ne 6 8 (by decide) rfl rfl)]; exact f130
          have f147 : M142 b5 = some (.inl (cJ, 60, .inr (.inl (vp_updL hex lf (hex p1))))) := by rw [eM143, hb_up_ne (hap.ne 5 8 (by decide) rfl rfl)]; exact f131
          have f148 : M142 b4 = some (.inl (cI, 60, .inl (upd stx lf (stx p1)))) := by rw [eM143, hb_up_ne (hap.ne 4 8 (by decide) rfl rfl)]; exact f132
          have f149 : M142 b3 = some (.inl (cI, 60, .inl (upd acx lf (acx p1)))) := by rw [eM143, hb_up_ne (hap.ne 3 8 (by decide) rfl rfl)]; exact f133
          have f150 : M142 b2 = some (.inl (cI, 60, .inl (upd kyx lf (kyx p1)))) := by rw [eM143, hb_up_ne (hap.ne 2 8 (by decide) rfl rfl)]; exact f134
          have f151 : M142 y = some (.inr (4, [.int 0, .int ho, .int pa, .int tm, .int (nI na), .ref b0, .ref b1, .int (nI np), .ref b2, .ref b3, .ref b4, .ref b5, .ref b6, .ref b7, .ref b8, .ref b9, .ref b10, .ref b11])) := by rw [eM143, hb_up_ne (fun q9 => by rw [q9, f138] at f135; cases f135)]; exact f135
          have f152 : M142 b0 = some (.inl (cJ, 16, .inr (.inl bal))) := by rw [eM143, hb_up_ne (hap.ne 0 8 (by decide) rfl rfl)]; exact f136
          have f153 : M142 b1 = some (.inl (cJ, 16, .inr (.inl mi))) := by rw [eM143, hb_up_ne (hap.ne 1 8 (by decide) rfl rfl)]; exact f137
          have f154 : M142 b9 = some (.inl (cI, 60, .inl dsx)) := by rw [eM143, hb_up_ne (hap.ne 9 8 (by decide) rfl rfl)]; exact f139
          have f155 : M142 b10 = some (.inl (cJ, 60, .inr (.inl ddx))) := by rw [eM143, hb_up_ne (hap.ne 10 8 (by decide) rfl rfl)]; exact f140
          have f156 : M142 b11 = some (.inl (cI, 60, .inl dlx)) := by rw [eM143, hb_up_ne (hap.ne 11 8 (by decide) rfl rfl)]; exact f141
          refine lv_aload_n hx hb d_Md_forget_109 rfl (lv_at hl 2 rfl) ?_
          refine hb_get hx hb hts hown hC_Md hK hP f151 15 (by decide) rfl fl_Md_38 rfl d_Md_forget_110 ?_
          refine lv_iload_n hx hb d_Md_forget_113 rfl (lv_at hl 1 rfl) ?_
          refine lv_aload_n hx hb d_Md_forget_114 rfl (lv_at hl 2 rfl) ?_
          refine hb_get hx hb hts hown hC_Md hK hP f151 15 (by decide) rfl fl_Md_38 rfl d_Md_forget_115 ?_
          refine lv_iload_n hx hb d_Md_forget_118 rfl (lv_at hl 0 rfl) ?_
          refine va_iald hx hb hK (hP.one f154) 0 0 rfl rfl (vp_in_nI (by omega) (by omega)) d_Md_forget_119 ?_
          refine W.eq (g2 := F0 m 120 ls [.int (dsx p1), .int (nI lf), .ref b9]) (by rw [nI_clamp (show p1 < 2 ^ 31 by omega)]) ?_
          refine hb_iast hx hb hK hP hD hS f154 (vp_in_nI (by omega) (by omega)) d_Md_forget_120 (fun M157 H locs eM158 hP hD hS => ?_)
          rw [nI_clamp (show lf < 2 ^ 31 by omega)] at eM158
          have f159 : M157 b9 = some (.inl (cI, 60, .inl (upd dsx lf (dsx p1)))) := by rw [eM158]; exact hb_up_self
          have f160 : M157 b8 = some (.inl (cI, 60, .inl (upd dnx lf (dnx p1)))) := by rw [eM158, hb_up_ne (hap.ne 8 9 (by decide) rfl rfl)]; exact f144
          have f161 : M157 b7 = some (.inl (cI, 60, .inl (upd unx lf (unx p1)))) := by rw [eM158, hb_up_ne (hap.ne 7 9 (by decide) rfl rfl)]; exact f145
          have f162 : M157 b6 = some (.inl (cJ, 60, .inr (.inl (vp_updL clx lf (clx p1))))) := by rw [eM158, hb_up_ne (hap.ne 6 9 (by decide) rfl rfl)]; exact f146
          have f163 : M157 b5 = some (.inl (cJ, 60, .inr (.inl (vp_updL hex lf (hex p1))))) := by rw [eM158, hb_up_ne (hap.ne 5 9 (by decide) rfl rfl)]; exact f147
          have f164 : M157 b4 = some (.inl (cI, 60, .inl (upd stx lf (stx p1)))) := by rw [eM158, hb_up_ne (hap.ne 4 9 (by decide) rfl rfl)]; exact f148
          have f165 : M157 b3 = some (.inl (cI, 60, .inl (upd acx lf (acx p1)))) := by rw [eM158, hb_up_ne (hap.ne 3 9 (by decide) rfl rfl)]; exact f149
          have f166 : M157 b2 = some (.inl (cI, 60, .inl (upd kyx lf (kyx p1)))) := by rw [eM158, hb_up_ne (hap.ne 2 9 (by decide) rfl rfl)]; exact f150
          have f167 : M157 y = some (.inr (4, [.int 0, .int ho, .int pa, .int tm, .int (nI na), .ref b0, .ref b1, .int (nI np), .ref b2, .ref b3, .ref b4, .ref b5, .ref b6, .ref b7, .ref b8, .ref b9, .ref b10, .ref b11])) := by rw [eM158, hb_up_ne (fun q9 => by rw [q9, f154] at f151; cases f151)]; exact f151
          have f168 : M157 b0 = some (.inl (cJ, 16, .inr (.inl bal))) := by rw [eM158, hb_up_ne (hap.ne 0 9 (by decide) rfl rfl)]; exact f152
          have f169 : M157 b1 = some (.inl (cJ, 16, .inr (.inl mi))) := by rw [eM158, hb_up_ne (hap.ne 1 9 (by decide) rfl rfl)]; exact f153
          have f170 : M157 b10 = some (.inl (cJ, 60, .inr (.inl ddx))) := by rw [eM158, hb_up_ne (hap.ne 10 9 (by decide) rfl rfl)]; exact f155
          have f171 : M157 b11 = some (.inl (cI, 60, .inl dlx)) := by rw [eM158, hb_up_ne (hap.ne 11 9 (by decide) rfl rfl)]; exact f156
          refine lv_aload_n hx hb d_Md_forget_121 rfl (lv_at hl 2 rfl) ?_
          refine hb_get hx hb hts hown hC_Md hK hP f167 16 (by decide) rfl fl_Md_41 rfl d_Md_forget_122 ?_
          refine lv_iload_n hx hb d_Md_forget_125 rfl (lv_at hl 1 rfl) ?_
          refine lv_aload_n hx hb d_Md_forget_126 rfl (lv_at hl 2 rfl) ?_
          refine hb_get hx hb hts hown hC_Md hK hP f167 16 (by decide) rfl fl_Md_41 rfl d_Md_forget_127 ?_
          refine lv_iload_n hx hb d_Md_forget_130 rfl (lv_at hl 0 rfl) ?_
          refine va_lald hx hb hK (hP.one f170) 0 1 rfl rfl (vp_in_nI (by omega) (by omega)) d_Md_forget_131 ?_
          refine W.eq (g2 := F0 m 132 ls [.long (ddx p1), .int (nI lf), .ref b10]) (by rw [nI_clamp (show p1 < 2 ^ 31 by omega)]) ?_
          refine hb_last hx hb hK hP hD hS f170 (vp_in_nI (by omega) (by omega)) d_Md_forget_132 (fun M172 H locs eM173 hP hD hS => ?_)
          rw [nI_clamp (show lf < 2 ^ 31 by omega)] at eM173
          have f174 : M172 b10 = some (.inl (cJ, 60, .inr (.inl (vp_updL ddx lf (ddx p1))))) := by rw [eM173]; exact hb_up_self
          have f175 : M172 b9 = some (.inl (cI, 60, .inl (upd dsx lf (dsx p1)))) := by rw [eM173, hb_up_ne (hap.ne 9 10 (by decide) rfl rfl)]; exact f159
          have f176 : M172 b8 = some (.inl (cI, 60, .inl (upd dnx lf (dnx p1)))) := by rw [eM173, hb_up_ne (hap.ne 8 10 (by decide) rfl rfl)]; exact f160
          have f177 : M172 b7 = some (.inl (cI, 60, .inl (upd unx lf (unx p1)))) := by rw [eM173, hb_up_ne (hap.ne 7 10 (by decide) rfl rfl)]; exact f161
          have f178 : M172 b6 = some (.inl (cJ, 60, .inr (.inl (vp_updL clx lf (clx p1))))) := by rw [eM173, hb_up_ne (hap.ne 6 10 (by decide) rfl rfl)]; exact f162
          have f179 : M172 b5 = some (.inl (cJ, 60, .inr (.inl (vp_updL hex lf (hex p1))))) := by rw [eM173, hb_up_ne (hap.ne 5 10 (by decide) rfl rfl)]; exact f163
          have f180 : M172 b4 = some (.inl (cI, 60, .inl (upd stx lf (stx p1)))) := by rw [eM173, hb_up_ne (hap.ne 4 10 (by decide) rfl rfl)]; exact f164
          have f181 : M172 b3 = some (.inl (cI, 60, .inl (upd acx lf (acx p1)))) := by rw [eM173, hb_up_ne (hap.ne 3 10 (by decide) rfl rfl)]; exact f165
          have f182 : M172 b2 = some (.inl (cI, 60, .inl (upd kyx lf (kyx p1)))) := by rw [eM173, hb_up_ne (hap.ne 2 10 (by decide) rfl rfl)]; exact f166
          have f183 : M172 y = some (.inr (4, [.int 0, .int ho, .int pa, .int tm, .int (nI na), .ref b0, .ref b1, .int (nI np), .ref b2, .ref b3, .ref b4, .ref b5, .ref b6, .ref b7, .ref b8, .ref b9, .ref b10, .ref b11])) := by rw [eM173, hb_up_ne (fun q9 => by rw [q9, f170] at f167; cases f167)]; exact f167
          have f184 : M172 b0 = some (.inl (cJ, 16, .inr (.inl bal))) := by rw [eM173, hb_up_ne (hap.ne 0 10 (by decide) rfl rfl)]; exact f168
          have f185 : M172 b1 = some (.inl (cJ, 16, .inr (.inl mi))) := by rw [eM173, hb_up_ne (hap.ne 1 10 (by decide) rfl rfl)]; exact f169
          have f186 : M172 b11 = some (.inl (cI, 60, .inl dlx)) := by rw [eM173, hb_up_ne (hap.ne 11 10 (by decide) rfl rfl)]; exact f171
          refine lv_aload_n hx hb d_Md_forget_133 rfl (lv_at hl 2 rfl) ?_
          refine hb_get hx hb hts hown hC_Md hK hP f183 17 (by decide) rfl fl_Md_44 rfl d_Md_forget_134 ?_
          refine lv_iload_n hx hb d_Md_forget_137 rfl (lv_at hl 1 rfl) ?_
          refine lv_aload_n hx hb d_Md_forget_138 rfl (lv_at hl 2 rfl) ?_
          refine hb_get hx hb hts hown hC_Md hK hP f183 17 (by decide) rfl fl_Md_44 rfl d_Md_forget_139 ?_
          refine lv_iload_n hx hb d_Md_forget_142 rfl (lv_at hl 0 rfl) ?_
          refine va_iald hx hb hK (hP.one f186) 0 0 rfl rfl (vp_in_nI (by omega) (by omega)) d_Md_forget_143 ?_
          refine W.eq (g2 := F0 m 144 ls [.int (dlx p1), .int (nI lf), .ref b11]) (by rw [nI_clamp (show p1 < 2 ^ 31 by omega)]) ?_
          refine hb_iast hx hb hK hP hD hS f186 (vp_in_nI (by omega) (by omega)) d_Md_forget_144 (fun M187 H locs eM188 hP hD hS => ?_)
          rw [nI_clamp (show lf < 2 ^ 31 by omega)] at eM188
          have f189 : M187 b11 = some (.inl (cI, 60, .inl (upd dlx lf (dlx p1)))) := by rw [eM188]; exact hb_up_self
          have f190 : M187 b10 = some (.inl (cJ, 60, .inr (.inl (vp_updL ddx lf (ddx p1))))) := by rw [eM188, hb_up_ne (hap.ne 10 11 (by decide) rfl rfl)]; exact f174
          have f191 : M187 b9 = some (.inl (cI, 60, .inl (upd dsx lf (dsx p1)))) := by rw [eM188, hb_up_ne (hap.ne 9 11 (by decide) rfl rfl)]; exact f175
          have f192 : M187 b8 = some (.inl (cI, 60, .inl (upd dnx lf (dnx p1)))) := by rw [eM188, hb_up_ne (hap.ne 8 11 (by decide) rfl rfl)]; exact f176
          have f193 : M187 b7 = some (.inl (cI, 60, .inl (upd unx lf (unx p1)))) := by rw [eM188, hb_up_ne (hap.ne 7 11 (by decide) rfl rfl)]; exact f177
          have f194 : M187 b6 = some (.inl (cJ, 60, .inr (.inl (vp_updL clx lf (clx p1))))) := by rw [eM188, hb_up_ne (hap.ne 6 11 (by decide) rfl rfl)]; exact f178
          have f195 : M187 b5 = some (.inl (cJ, 60, .inr (.inl (vp_updL hex lf (hex p1))))) := by rw [eM188, hb_up_ne (hap.ne 5 11 (by decide) rfl rfl)]; exact f179
          have f196 : M187 b4 = some (.inl (cI, 60, .inl (upd stx lf (stx p1)))) := by rw [eM188, hb_up_ne (hap.ne 4 11 (by decide) rfl rfl)]; exact f180
          have f197 : M187 b3 = some (.inl (cI, 60, .inl (upd acx lf (acx p1)))) := by rw [eM188, hb_up_ne (hap.ne 3 11 (by decide) rfl rfl)]; exact f181
          have f198 : M187 b2 = some (.inl (cI, 60, .inl (upd kyx lf (kyx p1)))) := by rw [eM188, hb_up_ne (hap.ne 2 11 (by decide) rfl rfl)]; exact f182
          have f199 : M187 y = some (.inr (4, [.int 0, .int ho, .int pa, .int tm, .int (nI na), .ref b0, .ref b1, .int (nI np), .ref b2, .ref b3, .ref b4, .ref b5, .ref b6, .ref b7, .ref b8, .ref b9, .ref b10, .ref b11])) := by rw [eM188, hb_up_ne (fun q9 => by rw [q9, f186] at f183; cases f183)]; exact f183
          have f200 : M187 b0 = some (.inl (cJ, 16, .inr (.inl bal))) := by rw [eM188, hb_up_ne (hap.ne 0 11 (by decide) rfl rfl)]; exact f184
          have f201 : M187 b1 = some (.inl (cJ, 16, .inr (.inl mi))) := by rw [eM188, hb_up_ne (hap.ne 1 11 (by decide) rfl rfl)]; exact f185
          refine lv_iinc (v := (nI lf) + 1) (lv' := [(1, .int ((nI lf) + 1)), (2, .int (nI p1)), (0, .ref y)]) hx hb d_Md_forget_145 hl (k := 1) rfl (by rfl) (by decide) rfl (fun ls hl => ?_)
          refine lv_iinc (v := (nI p1) + 1) (lv' := [(2, .int ((nI p1) + 1)), (1, .int ((nI lf) + 1)), (0, .ref y)]) hx hb d_Md_forget_148 hl (k := 1) rfl (by rfl) (by decide) rfl (fun ls hl => ?_)
          refine lv_goto (tgt := 9) hx hb d_Md_forget_151 (by decide) ?_
          have hm2 : mR cI cJ M187 y b0 b1 b2 b3 b4 b5 b6 b7 b8 b9 b10 b11 0 ho pa tm na np bal mi (upd kyx lf (kyx p1)) (upd acx lf (acx p1)) (upd stx lf (stx p1)) (vp_updL hex lf (hex p1)) (vp_updL clx lf (clx p1)) (upd unx lf (unx p1)) (upd dnx lf (dnx p1)) (upd dsx lf (dsx p1)) (vp_updL ddx lf (ddx p1)) (upd dlx lf (dlx p1)) := ⟨f199, f200, f201, f198, f197, f196, f195, f194, f193, f192, f191, f190, f189, hap⟩
          have hs2 : ((hb_row (upd kyx lf (kyx p1)) (upd acx lf (acx p1)) (upd stx lf (stx p1)) (vp_updL hex lf (hex p1)) (vp_updL clx lf (clx p1)) (upd unx lf (unx p1)) (upd dnx lf (dnx p1)) (upd dsx lf (dsx p1)) (vp_updL ddx lf (ddx p1)) (upd dlx lf (dlx p1)), lf + 1) : (Nat → hbY) × Nat) = hb_fn pa tm (S0, 0) (p1 + 1) := by
            rw [show hb_fn pa tm (S0, 0) (p1 + 1) = hb_f1 pa tm (hb_fn pa tm (S0, 0) p1) p1 from rfl, ← hs]
            refine Eq.trans ?_ (if_pos ksy).symm
            refine Prod.ext (funext fun q => ?_) rfl
            show _ = if q = lf then hb_row kyx acx stx hex clx unx dnx dsx ddx dlx p1 else hb_row kyx acx stx hex clx unx dnx dsx ddx dlx q
            by_cases hq : q = lf
            · rw [if_pos hq]; simp [hb_row, upd, vp_updL, hq]
            · rw [if_neg hq]; simp [hb_row, upd, vp_updL, hq]
          exact ih (p1 + 1) (by omega) (by omega) _ _ _ _ _ _ _ _ _ _ _ _ hm2 hs2 _ _ hP hD hS _ (by rw [← nI_1, ← nI_1]; exact lv_sub hl [0, 1, 2] rfl)
  exact loop (np + 1) 0 (by omega) (by omega) 0 _ ky ac st he cl un dn ds dd dl hm0 (by rw [eS0]; rfl) _ _ hP hD hS _ (lv_sub hl [0, 1, 2] rfl)
