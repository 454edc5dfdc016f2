/-! ARRAYLIST: grow -/
set_option maxHeartbeats 4000000 in
set_option maxRecDepth 100000 in
/-- ArrayList.grow(min), own array that is full -/
theorem c_Al_grow2_a {l : Launch} {s0 : State} {D : va_G} {cI cJ cO : ClassId} {e0 mi : Nat} (hE : hb_E l s0 D cI cJ cO e0 mi) (M : hb_M) (t ar cap n : Nat) (md : Int32) (f : Nat → Option Nat) (h0 : 0 < cap) (hc : cap ≤ 66) (hels : hb_els M f cap) (ht : M t = some (.inr (3, [.ref ar, .int (nI n), .int md]))) (har : M ar = some (hb_ar cO cap f)) : hb_Met l D hb_cl s0 y_Al_grow2 b_Al_grow2 4 (some (.array (.object "java/lang/Object"))) { frames := 3, cells := 1, slots := 100, locals := 104 } [.ref t, .int (nI (cap + 1))] M (fun v M1 => ∃ q g, v = some (.ref q) ∧ M q = none ∧ M1 q = some (hb_ar cO (cap + max 1 (cap / 2)) g) ∧ M1 t = some (.inr (3, [.ref q, .int (nI n), .int md])) ∧ hb_off [q, t] M M1 ∧ ∀ i, i < cap → g i = f i) := by
  refine hb_Met.of (by decide) (Nat.le_of_ble_eq_true rfl) ?_
  intro p e s m below meth c A hAe hX hz hP hD hA hS ls hl
  obtain ⟨hx, hb, hr, hml, hown, hlocks, hnm, hG, hnh⟩ := id hX
  have hown : s.vm.findClass "java/util/ArrayList" = some m.cls := hown
  have hts := hE.ts hG ([.ref t, .int (nI (cap + 1))] : List Value).toArray
  have hK := hE.kn hG
  have hl : lv_has ls 4 [(0, .ref t), (1, .int (nI (cap + 1)))] := hl
  refine lv_aload_n hx hb d_Al_grow2_0 rfl (lv_at hl 0 rfl) ?_
  refine hb_get hx hb hts hown hC_Al hK hP ht 0 (by decide) rfl fl_Al_9 rfl d_Al_grow2_1 ?_
  refine va_alen (v := nI cap) hx hb hK (hP.one har) 0 2 rfl rfl rfl d_Al_grow2_4 ?_
  refine lv_istore_n (lv' := [(2, .int (nI cap)), (0, .ref t), (1, .int (nI (cap + 1)))]) hx hb d_Al_grow2_5 rfl hl (by decide) rfl (fun ls hl => ?_)
  refine lv_iload_n hx hb d_Al_grow2_6 rfl (lv_at hl 0 rfl) ?_
  refine lv_if_gt (tgt := 20) hx hb d_Al_grow2_7 (by decide) (fun c1 => ?_) (fun c1 => ?_)
  · skip
    refine lv_iload_n hx hb d_Al_grow2_20 rfl (lv_at hl 0 rfl) ?_
    refine lv_iload_n hx hb d_Al_grow2_21 rfl (lv_at hl 2 rfl) ?_
    refine lv_iload_n hx hb d_Al_grow2_22 rfl (lv_at hl 0 rfl) ?_
    refine lv_isub hx hb d_Al_grow2_23 ?_
    refine lv_iload_n hx hb d_Al_grow2_24 rfl (lv_at hl 0 rfl) ?_
    refine lv_iconst (v := 1) hx hb d_Al_grow2_25 (by decide) ?_
    refine lv_ishr hx hb d_Al_grow2_26 ?_
    refine W.eq (g2 := F0 m 27 ls [.int (nI (cap / 2)), .int (nI 1), .int (nI cap)]) (by rw [pk_sub (by omega), pk_shrN (by omega) _ 1 (by decide), show cap + 1 - cap = 1 by omega]) ?_
    refine hb_callS (rest := []) hX hts hb_gd Y_Sup_newLength (c_Sup_newLength hE M cap 1 (cap / 2) (by omega) (by omega) (by omega) (by omega)) ml_Al_73 st_Sup_newLength hz hP hD hS hA rfl hl.1 rfl (Nat.le_of_ble_eq_true rfl) ⟨Nat.le_of_ble_eq_true rfl, Nat.le_of_ble_eq_true rfl⟩ ⟨Nat.le_of_ble_eq_true rfl, Nat.le_of_ble_eq_true rfl⟩ d_Al_grow2_27 (fun v4 M2 H locs hq3 hP hD hS _ hkp => ?_)
    obtain ⟨ev5, eM6⟩ := hq3
    subst ev5
    rw [eM6] at hP hD
    refine W.eq (g2 := F0 m 30 ls [.int (nI (cap + max 1 (cap / 2)))]) rfl ?_
    refine lv_istore_n (lv' := [(3, .int (nI (cap + max 1 (cap / 2)))), (2, .int (nI cap)), (0, .ref t), (1, .int (nI (cap + 1)))]) hx hb d_Al_grow2_30 rfl hl (by decide) rfl (fun ls hl => ?_)
    refine lv_aload_n hx hb d_Al_grow2_31 rfl (lv_at hl 2 rfl) ?_
    refine lv_aload_n hx hb d_Al_grow2_32 rfl (lv_at hl 2 rfl) ?_
    refine hb_get hx hb hts hown hC_Al hK hP ht 0 (by decide) rfl fl_Al_9 rfl d_Al_grow2_33 ?_
    refine lv_iload_n hx hb d_Al_grow2_36 rfl (lv_at hl 0 rfl) ?_
    refine hb_callS (rest := [.ref t]) hX hts hb_gd Y_Ars_copyOf1 (c_Ars_copyOf1 hE M ar cap (cap + max 1 (cap / 2)) f (by omega) (by omega) hels har) ml_Al_66 st_Ars_copyOf1 hz hP hD hS hA rfl hl.1 rfl (Nat.le_of_ble_eq_true rfl) ⟨Nat.le_of_ble_eq_true rfl, Nat.le_of_ble_eq_true rfl⟩ ⟨Nat.le_of_ble_eq_true rfl, Nat.le_of_ble_eq_true rfl⟩ d_Al_grow2_37 (fun v9 M7 H locs hq8 hP hD hS _ hkp => ?_)
    obtain ⟨q10, g9, ev9, hqn, eM9, hg9⟩ := hq8
    subst ev9
    have f11 : M7 q10 = some (.inl (cO, (cap + max 1 (cap / 2)), .inr (.inr (.inr (.inr g9))))) := by rw [eM9]; exact hb_up_self
    have f12 : M7 t = some (.inr (3, [.ref ar, .int (nI n), .int md])) := by rw [eM9, hb_up_ne (fun q9 => by rw [q9, hqn] at ht; cases ht)]; exact ht
    have f13 : M7 ar = some (.inl (cO, cap, .inr (.inr (.inr (.inr f))))) := by rw [eM9, hb_up_ne (fun q9 => by rw [q9, hqn] at har; cases har)]; exact har
    refine W.eq (g2 := F0 m 40 ls [.ref q10, .ref t]) rfl ?_
    refine lv_dup_x1 hx hb d_Al_grow2_40 rfl rfl ?_
    refine hb_put (ty := .array (.object "java/lang/Object")) hx hb hts hown hC_Al hK hP hD hS f12 0 (by decide) rfl fl_Al_9 rfl rfl rfl rfl (Nat.le_of_ble_eq_true rfl) d_Al_grow2_41 (fun M14 H locs eM15 hP hD hS => ?_)
    have f16 : M14 t = some (.inr (3, [.ref q10, .int (nI n), .int md])) := by rw [eM15]; exact hb_up_self
    have f17 : M14 q10 = some (.inl (cO, (cap + max 1 (cap / 2)), .inr (.inr (.inr (.inr g9))))) := by rw [eM15, hb_up_ne (Ne.symm (fun q9 => by rw [q9, hqn] at ht; cases ht))]; exact f11
    have f18 : M14 ar = some (.inl (cO, cap, .inr (.inr (.inr (.inr f))))) := by rw [eM15, hb_up_ne (fun q9 => by rw [q9, f12] at f13; cases f13)]; exact f13
    exact hb_aret hAe hx hb hr (Or.inr ⟨_, rfl⟩) (Or.inr ⟨_, rfl⟩) hlocks hP hD hS (Nat.le_of_ble_eq_true rfl) (Nat.le_of_ble_eq_true rfl) (⟨q10, g9, rfl, hqn, f17, f16, ((hb_off.rf.up (by simp) eM9).up (by simp) eM15), hg9⟩) d_Al_grow2_44
  · skip
    exact absurd (nI_lt h0 (by omega)) c1
set_option maxHeartbeats 4000000 in
set_option maxRecDepth 100000 in
/-- ArrayList.grow(1), empty list -/
theorem c_Al_grow2_e {l : Launch} {s0 : State} {D : va_G} {cI cJ cO : ClassId} {e0 mi : Nat} (hE : hb_E l s0 D cI cJ cO e0 mi) (M : hb_M) (t : Nat) (md : Int32) (ht : M t = some (.inr (3, [.ref e0, .int (nI 0), .int md]))) : hb_Met l D hb_cl s0 y_Al_grow2 b_Al_grow2 4 (some (.array (.object "java/lang/Object"))) { frames := 1, cells := 1, slots := 100, locals := 20 } [.ref t, .int (nI 1)] M (fun v M1 => ∃ q g, v = some (.ref q) ∧ M q = none ∧ M1 q = some (hb_ar cO 10 g) ∧ M1 t = some (.inr (3, [.ref q, .int (nI 0), .int md])) ∧ hb_off [q, t] M M1) := by
  refine hb_Met.of (by decide) (Nat.le_of_ble_eq_true rfl) ?_
  intro p e s m below meth c A hAe hX hz hP hD hA hS ls hl
  obtain ⟨hx, hb, hr, hml, hown, hlocks, hnm, hG, hnh⟩ := id hX
  have hown : s.vm.findClass "java/util/ArrayList" = some m.cls := hown
  have hts := hE.ts hG ([.ref t, .int (nI 1)] : List Value).toArray
  have hK := hE.kn hG
  have hl : lv_has ls 4 [(0, .ref t), (1, .int (nI 1))] := hl
  refine lv_aload_n hx hb d_Al_grow2_0 rfl (lv_at hl 0 rfl) ?_
  refine hb_get hx hb hts hown hC_Al hK hP ht 0 (by decide) rfl fl_Al_9 rfl d_Al_grow2_1 ?_
  refine va_tlen (v := 0) hx hb (hE.et hG hz) hS rfl d_Al_grow2_4 ?_
  refine lv_istore_n (lv' := [(2, .int 0), (0, .ref t), (1, .int (nI 1))]) hx hb d_Al_grow2_5 rfl hl (by decide) rfl (fun ls hl => ?_)
  refine lv_iload_n hx hb d_Al_grow2_6 rfl (lv_at hl 0 rfl) ?_
  refine lv_if_gt (tgt := 20) hx hb d_Al_grow2_7 (by decide) (fun c1 => ?_) (fun c1 => ?_)
  · skip
    exact absurd c1 (by decide)
  · skip
    refine lv_aload_n hx hb d_Al_grow2_10 rfl (lv_at hl 1 rfl) ?_
    refine hb_get hx hb hts hown hC_Al hK hP ht 0 (by decide) rfl fl_Al_9 rfl d_Al_grow2_11 ?_
    refine va_gets hx hb (hE.zs hG hz) hS hown (hts _ fl_Al_39) (fun _ h9 => h9) d_Al_grow2_14 ?_
    refine lv_acmp_eq (rx := some e0) (ry := some e0) (tgt := 45) hx hb d_Al_grow2_17 (by decide) (fun c2 => ?_) (fun c2 => ?_)
    · skip
      refine lv_aload_n hx hb d_Al_grow2_45 rfl (lv_at hl 1 rfl) ?_
      refine lv_bipush (v := 10) hx hb d_Al_grow2_46 (by decide) ?_
      refine lv_iload_n hx hb d_Al_grow2_48 rfl (lv_at hl 2 rfl) ?_
      refine va_mmax hx hb (by rw [hml]; exact hl.1.symm) hown (hts _ ml_Al_79) (hts _ st_Mth_max) (hts _ in_Mth) (hts _ cd_Mth_max) (Nat.le_of_ble_eq_true rfl) (Nat.le_of_ble_eq_true rfl) (Nat.le_of_ble_eq_true rfl) (Nat.le_of_ble_eq_true rfl) d_Al_grow2_49 ?_
      refine W.eq (g2 := F0 m 52 ls [.int 10, .ref t]) (by rw [if_neg (by decide)]) ?_
      refine hb_newq (N' := 10) hx hb hts hown kl_Al_7 (hE.ao hG) hK hP hD hS hA (by decide) (by decide) (by decide) (Nat.le_of_ble_eq_true rfl) (show 0 + 10 ≤ 100 by decide) d_Al_grow2_52 (fun q3 M4 H hq6 ha7 eM5 hP hD hS => ?_)
      refine W.widen (k := 1) (n := 100) (Nat.le_of_ble_eq_true rfl) (by decide) ?_
      have f8 : M4 q3 = some (.inl (cO, 10, .inr (.inr (.inr (.inr (fun _ => none)))))) := by rw [eM5]; exact hb_up_self
      have f9 : M4 t = some (.inr (3, [.ref e0, .int (nI 0), .int md])) := by rw [eM5, hb_up_ne (fun q9 => by rw [q9, hq6] at ht; cases ht)]; exact ht
      refine lv_dup_x1 hx hb d_Al_grow2_55 rfl rfl ?_
      refine hb_put (ty := .array (.object "java/lang/Object")) hx hb hts hown hC_Al hK hP hD hS f9 0 (by decide) rfl fl_Al_9 rfl rfl rfl rfl (Nat.le_of_ble_eq_true rfl) d_Al_grow2_56 (fun M10 H locs eM11 hP hD hS => ?_)
      have f12 : M10 t = some (.inr (3, [.ref q3, .int (nI 0), .int md])) := by rw [eM11]; exact hb_up_self
      have f13 : M10 q3 = some (.inl (cO, 10, .inr (.inr (.inr (.inr (fun _ => none)))))) := by rw [eM11, hb_up_ne (Ne.symm (fun q9 => by rw [q9, hq6] at ht; cases ht))]; exact f8
      exact hb_aret hAe hx hb hr (Or.inr ⟨_, rfl⟩) (Or.inr ⟨_, rfl⟩) hlocks hP hD hS (Nat.le_of_ble_eq_true rfl) (Nat.le_of_ble_eq_true rfl) (⟨q3, _, rfl, hq6, f13, f12, ((hb_off.rf.up (by simp) eM5).up (by simp) eM11)⟩) d_Al_grow2_59
    · skip
      exact absurd rfl c2
set_option maxHeartbeats 4000000 in
set_option maxRecDepth 100000 in
/-- ArrayList.grow(), full -/
theorem c_Al_grow1_a {l : Launch} {s0 : State} {D : va_G} {cI cJ cO : ClassId} {e0 mi : Nat} (hE : hb_E l s0 D cI cJ cO e0 mi) (M : hb_M) (t ar cap : Nat) (md : Int32) (f : Nat → Option Nat) (h0 : 0 < cap) (hc : cap ≤ 66) (hels : hb_els M f cap) (ht : M t = some (.inr (3, [.ref ar, .int (nI cap), .int md]))) (har : M ar = some (hb_ar cO cap f)) : hb_Met l D hb_cl s0 y_Al_grow1 b_Al_grow1 1 (some (.array (.object "java/lang/Object"))) { frames := 4, cells := 1, slots := 100, locals := 127 } [.ref t] M (fun v M1 => ∃ q g, v = some (.ref q) ∧ M q = none ∧ M1 q = some (hb_ar cO (cap + max 1 (cap / 2)) g) ∧ M1 t = some (.inr (3, [.ref q, .int (nI cap), .int md])) ∧ hb_off [q, t] M M1 ∧ ∀ i, i < cap → g i = f i) := by
  refine hb_Met.of (by decide) (Nat.le_of_ble_eq_true rfl) ?_
  intro p e s m below meth c A hAe hX hz hP hD hA hS ls hl
  obtain ⟨hx, hb, hr, hml, hown, hlocks, hnm, hG, hnh⟩ := id hX
  have hown : s.vm.findClass "java/util/ArrayList" = some m.cls := hown
  have hts := hE.ts hG ([.ref t] : List Value).toArray
  have hK := hE.kn hG
  have hl : lv_has ls 1 [(0, .ref t)] := hl
  refine lv_aload_n hx hb d_Al_grow1_0 rfl (lv_at hl 0 rfl) ?_
  refine lv_aload_n hx hb d_Al_grow1_1 rfl (lv_at hl 0 rfl) ?_
  refine hb_get hx hb hts hown hC_Al hK hP ht 1 (by decide) rfl fl_Al_48 rfl d_Al_grow1_2 ?_
  refine lv_iconst (v := 1) hx hb d_Al_grow1_5 (by decide) ?_
  refine lv_iadd hx hb d_Al_grow1_6 ?_
  refine W.eq (g2 := F0 m 7 ls [.int (nI (cap + 1)), .ref t]) (by rw [nI_1]) ?_
  refine hb_callV (rest := []) hX hts hb_gd Y_Al_grow2 (c_Al_grow2_a hE M t ar cap cap md f h0 hc hels ht har) ml_Al_69 im_Al_grow2 se_Al_grow2 hK ht hC_Al.1 hz hP hD hS hA rfl hl.1 rfl (Nat.le_of_ble_eq_true rfl) ⟨Nat.le_of_ble_eq_true rfl, Nat.le_of_ble_eq_true rfl⟩ ⟨Nat.le_of_ble_eq_true rfl, Nat.le_of_ble_eq_true rfl⟩ d_Al_grow1_7 (fun v3 M1 H locs hq2 hP hD hS _ hkp => ?_)
  obtain ⟨q4, g9, ev9, hq9⟩ := hq2
  subst ev9
  refine W.eq (g2 := F0 m 10 ls [.ref q4]) rfl ?_
  exact hb_aret hAe hx hb hr (Or.inr ⟨_, rfl⟩) (Or.inr ⟨_, rfl⟩) hlocks hP hD hS (Nat.le_of_ble_eq_true rfl) (Nat.le_of_ble_eq_true rfl) (⟨q4, g9, rfl, hq9⟩) d_Al_grow1_10
set_option maxHeartbeats 4000000 in
set_option maxRecDepth 100000 in
/-- ArrayList.grow(), empty -/
theorem c_Al_grow1_e {l : Launch} {s0 : State} {D : va_G} {cI cJ cO : ClassId} {e0 mi : Nat} (hE : hb_E l s0 D cI cJ cO e0 mi) (M : hb_M) (t : Nat) (md : Int32) (ht : M t = some (.inr (3, [.ref e0, .int (nI 0), .int md]))) : hb_Met l D hb_cl s0 y_Al_grow1 b_Al_grow1 1 (some (.array (.object "java/lang/Object"))) { frames := 2, cells := 1, slots := 100, locals := 43 } [.ref t] M (fun v M1 => ∃ q g, v = some (.ref q) ∧ M q = none ∧ M1 q = some (hb_ar cO 10 g) ∧ M1 t = some (.inr (3, [.ref q, .int (nI 0), .int md])) ∧ hb_off [q, t] M M1) := by
  refine hb_Met.of (by decide) (Nat.le_of_ble_eq_true rfl) ?_
  intro p e s m below meth c A hAe hX hz hP hD hA hS ls hl
  obtain ⟨hx, hb, hr, hml, hown, hlocks, hnm, hG, hnh⟩ := id hX
  have hown : s.vm.findClass "java/util/ArrayList" = some m.cls := hown
  have hts := hE.ts hG ([.ref t] : List Value).toArray
  have hK := hE.kn hG
  have hl : lv_has ls 1 [(0, .ref t)] := hl
  refine lv_aload_n hx hb d_Al_grow1_0 rfl (lv_at hl 0 rfl) ?_
  refine lv_aload_n hx hb d_Al_grow1_1 rfl (lv_at hl 0 rfl) ?_
  refine hb_get hx hb hts hown hC_Al hK hP ht 1 (by decide) rfl fl_Al_48 rfl d_Al_grow1_2 ?_
  refine lv_iconst (v := 1) hx hb d_Al_grow1_5 (by decide) ?_
  refine lv_iadd hx hb d_Al_grow1_6 ?_
  refine W.eq (g2 := F0 m 7 ls [.int (nI 1), .ref t]) (by rw [nI_1]) ?_
  refine hb_callV (rest := []) hX hts hb_gd Y_Al_grow2 (c_Al_grow2_e hE M t md ht) ml_Al_69 im_Al_grow2 se_Al_grow2 hK ht hC_Al.1 hz hP hD hS hA rfl hl.1 rfl (Nat.le_of_ble_eq_true rfl) ⟨Nat.le_of_ble_eq_true rfl, Nat.le_of_ble_eq_true rfl⟩ ⟨Nat.le_of_ble_eq_true rfl, Nat.le_of_ble_eq_true rfl⟩ d_Al_grow1_7 (fun v3 M1 H locs hq2 hP hD hS _ hkp => ?_)
  obtain ⟨q4, g9, ev9, hq9⟩ := hq2
  subst ev9
  refine W.eq (g2 := F0 m 10 ls [.ref q4]) rfl ?_
  exact hb_aret hAe hx hb hr (Or.inr ⟨_, rfl⟩) (Or.inr ⟨_, rfl⟩) hlocks hP hD hS (Nat.le_of_ble_eq_true rfl) (Nat.le_of_ble_eq_true rfl) (⟨q4, g9, rfl, hq9⟩) d_Al_grow1_10
