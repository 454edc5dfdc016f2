/-! ACCOUNT AND PAYMENT: contracts, by the walker -/
set_option maxHeartbeats 4000000 in
set_option maxRecDepth 100000 in
/-- Account.free() -/
theorem c_Acc_free {l : Launch} {s0 : State} {D : va_G} {cI cJ cO : ClassId} {e0 mi : Nat} (hE : hb_E l s0 D cI cJ cO e0 mi) (M : hb_M) (a : Nat) (an : Int32) (am af ab ah al : Int64) (ha : M a = some (.inr (0, [.int an, .long am, .long af, .long ab, .long ah, .long al]))) : hb_Met l D hb_cl s0 y_Acc_free b_Acc_free 1 (some .long) { frames := 0, cells := 0, slots := 0, locals := 0 } [.ref a] M (fun v M1 => v = some (.long (ab - am - ah - al)) ∧ M1 = M) := by
  refine hb_Met.of (by decide) (Nat.le_of_ble_eq_true rfl) ?_
  intro p e s m below meth c A hAe hX hz hP hD hA hS ls hl
  obtain ⟨hx, hb, hr, hml, hown, hlocks, hnm, hG, hnh⟩ := id hX
  have hown : s.vm.findClass "HoldBook$Account" = some m.cls := hown
  have hts := hE.ts hG ([.ref a] : List Value).toArray
  have hK := hE.kn hG
  have hl : lv_has ls 1 [(0, .ref a)] := hl
  refine lv_aload_n hx hb d_Acc_free_0 rfl (lv_at hl 0 rfl) ?_
  refine hb_get hx hb hts hown hC_Acc hK hP ha 3 (by decide) rfl fl_Acc_20 rfl d_Acc_free_1 ?_
  refine lv_aload_n hx hb d_Acc_free_4 rfl (lv_at hl 0 rfl) ?_
  refine hb_get hx hb hts hown hC_Acc hK hP ha 1 (by decide) rfl fl_Acc_23 rfl d_Acc_free_5 ?_
  refine lv_lsub hx hb d_Acc_free_8 ?_
  refine lv_aload_n hx hb d_Acc_free_9 rfl (lv_at hl 0 rfl) ?_
  refine hb_get hx hb hts hown hC_Acc hK hP ha 4 (by decide) rfl fl_Acc_7 rfl d_Acc_free_10 ?_
  refine lv_lsub hx hb d_Acc_free_13 ?_
  refine lv_aload_n hx hb d_Acc_free_14 rfl (lv_at hl 0 rfl) ?_
  refine hb_get hx hb hts hown hC_Acc hK hP ha 5 (by decide) rfl fl_Acc_13 rfl d_Acc_free_15 ?_
  refine lv_lsub hx hb d_Acc_free_18 ?_
  exact hb_lret hAe hx hb hr hlocks hP hD hS (Nat.le_of_ble_eq_true rfl) (Nat.le_of_ble_eq_true rfl) (⟨rfl, rfl⟩) d_Acc_free_19
set_option maxHeartbeats 4000000 in
set_option maxRecDepth 100000 in
/-- Account(number, balance, minimum) -/
theorem c_Acc_init {l : Launch} {s0 : State} {D : va_G} {cI cJ cO : ClassId} {e0 mi : Nat} (hE : hb_E l s0 D cI cJ cO e0 mi) (M : hb_M) (a : Nat) (n : Int32) (b mn : Int64) (ha : M a = some (.inr (0, [.int 0, .long 0, .long 0, .long 0, .long 0, .long 0]))) : hb_Met l D hb_cl s0 y_Acc_init b_Acc_init 6 none { frames := 1, cells := 0, slots := 0, locals := 12 } [.ref a, .int n, .long b, .long mn] M (fun v M1 => v = none ∧ M1 a = some (.inr (0, [.int n, .long mn, .long (b - mn), .long b, .long 0, .long 0])) ∧ hb_off [a] M M1) := by
  refine hb_Met.of (by decide) (Nat.le_of_ble_eq_true rfl) ?_
  intro p e s m below meth c A hAe hX hz hP hD hA hS ls hl
  obtain ⟨hx, hb, hr, hml, hown, hlocks, hnm, hG, hnh⟩ := id hX
  have hown : s.vm.findClass "HoldBook$Account" = some m.cls := hown
  have hts := hE.ts hG ([.ref a, .int n, .long b, .long mn] : List Value).toArray
  have hK := hE.kn hG
  have hl : lv_has ls 6 [(0, .ref a), (1, .int n), (2, .long b), (4, .long mn)] := hl
  refine lv_aload_n hx hb d_Acc_init_0 rfl (lv_at hl 0 rfl) ?_
  refine W.objInit hx hb hown (hts _ ml_Acc_1) (hts _ im_Ob_init) (hts _ cd_Ob_init) rfl (by rw [hml]; exact hl.1) rfl d_Acc_init_1 (Nat.le_of_ble_eq_true rfl) (Nat.le_of_ble_eq_true rfl) ?_
  refine W.eq (g2 := F0 m 4 ls []) rfl ?_
  refine lv_aload_n hx hb d_Acc_init_4 rfl (lv_at hl 0 rfl) ?_
  refine lv_lconst (v := 0) hx hb d_Acc_init_5 (by decide) ?_
  refine hb_put (ty := .long) hx hb hts hown hC_Acc hK hP hD hS ha 4 (by decide) rfl fl_Acc_7 rfl rfl rfl rfl (Nat.le_of_ble_eq_true rfl) d_Acc_init_6 (fun M1 H locs eM2 hP hD hS => ?_)
  have f3 : M1 a = some (.inr (0, [.int 0, .long 0, .long 0, .long 0, .long 0, .long 0])) := by rw [eM2]; exact hb_up_self
  refine lv_aload_n hx hb d_Acc_init_9 rfl (lv_at hl 0 rfl) ?_
  refine lv_lconst (v := 0) hx hb d_Acc_init_10 (by decide) ?_
  refine hb_put (ty := .long) hx hb hts hown hC_Acc hK hP hD hS f3 5 (by decide) rfl fl_Acc_13 rfl rfl rfl rfl (Nat.le_of_ble_eq_true rfl) d_Acc_init_11 (fun M4 H locs eM5 hP hD hS => ?_)
  have f6 : M4 a = some (.inr (0, [.int 0, .long 0, .long 0, .long 0, .long 0, .long 0])) := by rw [eM5]; exact hb_up_self
  refine lv_aload_n hx hb d_Acc_init_14 rfl (lv_at hl 0 rfl) ?_
  refine lv_iload_n hx hb d_Acc_init_15 rfl (lv_at hl 1 rfl) ?_
  refine hb_putF (ty := .int) hx hb hts hown hC_Acc hK hP hD hS f6 0 (by decide) rfl fl_Acc_16 rfl hnm rfl rfl rfl rfl (Nat.le_of_ble_eq_true rfl) d_Acc_init_16 (fun M7 H locs eM8 hP hD hS => ?_)
  have f9 : M7 a = some (.inr (0, [.int n, .long 0, .long 0, .long 0, .long 0, .long 0])) := by rw [eM8]; exact hb_up_self
  refine lv_aload_n hx hb d_Acc_init_19 rfl (lv_at hl 0 rfl) ?_
  refine lv_lload_n hx hb d_Acc_init_20 rfl (lv_at hl 2 rfl) ?_
  refine hb_put (ty := .long) hx hb hts hown hC_Acc hK hP hD hS f9 3 (by decide) rfl fl_Acc_20 rfl rfl rfl rfl (Nat.le_of_ble_eq_true rfl) d_Acc_init_21 (fun M10 H locs eM11 hP hD hS => ?_)
  have f12 : M10 a = some (.inr (0, [.int n, .long 0, .long 0, .long b, .long 0, .long 0])) := by rw [eM11]; exact hb_up_self
  refine lv_aload_n hx hb d_Acc_init_24 rfl (lv_at hl 0 rfl) ?_
  refine lv_lload hx hb d_Acc_init_25 (lv_at hl 3 rfl) ?_
  refine hb_putF (ty := .long) hx hb hts hown hC_Acc hK hP hD hS f12 1 (by decide) rfl fl_Acc_23 rfl hnm rfl rfl rfl rfl (Nat.le_of_ble_eq_true rfl) d_Acc_init_27 (fun M13 H locs eM14 hP hD hS => ?_)
  have f15 : M13 a = some (.inr (0, [.int n, .long mn, .long 0, .long b, .long 0, .long 0])) := by rw [eM14]; exact hb_up_self
  refine lv_aload_n hx hb d_Acc_init_30 rfl (lv_at hl 0 rfl) ?_
  refine lv_lload_n hx hb d_Acc_init_31 rfl (lv_at hl 2 rfl) ?_
  refine lv_lload hx hb d_Acc_init_32 (lv_at hl 3 rfl) ?_
  refine lv_lsub hx hb d_Acc_init_34 ?_
  refine hb_putF (ty := .long) hx hb hts hown hC_Acc hK hP hD hS f15 2 (by decide) rfl fl_Acc_26 rfl hnm rfl rfl rfl rfl (Nat.le_of_ble_eq_true rfl) d_Acc_init_35 (fun M16 H locs eM17 hP hD hS => ?_)
  have f18 : M16 a = some (.inr (0, [.int n, .long mn, .long (b - mn), .long b, .long 0, .long 0])) := by rw [eM17]; exact hb_up_self
  exact hb_vret hAe hx hb hr hlocks hP hD hS (Nat.le_of_ble_eq_true rfl) (Nat.le_of_ble_eq_true rfl) (⟨rfl, f18, ((((((hb_off.rf.up (by simp) eM2).up (by simp) eM5).up (by simp) eM8).up (by simp) eM11).up (by simp) eM14).up (by simp) eM17)⟩) d_Acc_init_38
set_option maxHeartbeats 4000000 in
set_option maxRecDepth 100000 in
/-- Account.isOverdrawn() -/
theorem c_Acc_isOverdrawn {l : Launch} {s0 : State} {D : va_G} {cI cJ cO : ClassId} {e0 mi : Nat} (hE : hb_E l s0 D cI cJ cO e0 mi) (M : hb_M) (a : Nat) (an : Int32) (am af ab ah al : Int64) (ha : M a = some (.inr (0, [.int an, .long am, .long af, .long ab, .long ah, .long al]))) : hb_Met l D hb_cl s0 y_Acc_isOverdrawn b_Acc_isOverdrawn 3 (some .boolean) { frames := 1, cells := 0, slots := 0, locals := 20 } [.ref a] M (fun v M1 => v = some (.int (if (ab - am - ah - al) < 0 ∧ (ab - am - ah - al) < af then 1 else 0)) ∧ M1 = M) := by
  refine hb_Met.of (by decide) (Nat.le_of_ble_eq_true rfl) ?_
  intro p e s m below meth c A hAe hX hz hP hD hA hS ls hl
  obtain ⟨hx, hb, hr, hml, hown, hlocks, hnm, hG, hnh⟩ := id hX
  have hown : s.vm.findClass "HoldBook$Account" = some m.cls := hown
  have hts := hE.ts hG ([.ref a] : List Value).toArray
  have hK := hE.kn hG
  have hl : lv_has ls 3 [(0, .ref a)] := hl
  refine lv_aload_n hx hb d_Acc_isOverdrawn_0 rfl (lv_at hl 0 rfl) ?_
  refine hb_callV (rest := []) hX hts hb_gd Y_Acc_free (c_Acc_free hE M a an am af ab ah al ha) ml_Acc_29 im_Acc_free se_Acc_free hK ha hC_Acc.1 hz hP hD hS hA rfl hl.1 rfl (Nat.le_of_ble_eq_true rfl) ⟨Nat.le_of_ble_eq_true rfl, Nat.le_of_ble_eq_true rfl⟩ ⟨Nat.le_of_ble_eq_true rfl, Nat.le_of_ble_eq_true rfl⟩ d_Acc_isOverdrawn_1 (fun v3 M1 H locs hq2 hP hD hS _ hkp => ?_)
  obtain ⟨ev4, eM5⟩ := hq2
  subst ev4
  rw [eM5] at hP hD
  refine W.eq (g2 := F0 m 4 ls [.long (ab - am - ah - al)]) rfl ?_
  refine lv_lstore_n (lv' := [(1, .long (ab - am - ah - al)), (0, .ref a)]) hx hb d_Acc_isOverdrawn_4 rfl hl (by decide) rfl (fun ls hl => ?_)
  refine lv_lload_n hx hb d_Acc_isOverdrawn_5 rfl (lv_at hl 0 rfl) ?_
  refine lv_lconst (v := 0) hx hb d_Acc_isOverdrawn_6 (by decide) ?_
  refine hb_lc_ge (tgt := 24) hx hb d_Acc_isOverdrawn_7 d_Acc_isOverdrawn_8 (by decide) (fun c6 => ?_) (fun c6 => ?_)
  · skip
    have c6n := hb_ngt c6
    refine lv_iconst (v := 0) hx hb d_Acc_isOverdrawn_24 (by decide) ?_
    exact hb_zret hAe hx hb hr (by decide) hlocks hP hD hS (Nat.le_of_ble_eq_true rfl) (Nat.le_of_ble_eq_true rfl) (⟨by first | (rw [if_pos ⟨by assumption, by assumption⟩]) | (rw [if_neg (fun h => absurd h.1 (by assumption))]) | (rw [if_neg (fun h => absurd h.2 (by assumption))]), rfl⟩) d_Acc_isOverdrawn_25
  · skip
    have c6n := hb_gt c6
    refine lv_lload_n hx hb d_Acc_isOverdrawn_11 rfl (lv_at hl 0 rfl) ?_
    refine lv_aload_n hx hb d_Acc_isOverdrawn_12 rfl (lv_at hl 1 rfl) ?_
    refine hb_get hx hb hts hown hC_Acc hK hP ha 2 (by decide) rfl fl_Acc_26 rfl d_Acc_isOverdrawn_13 ?_
    refine hb_lc_ge (tgt := 24) hx hb d_Acc_isOverdrawn_16 d_Acc_isOverdrawn_17 (by decide) (fun c7 => ?_) (fun c7 => ?_)
    · skip
      have c7n := hb_ngt c7
      refine lv_iconst (v := 0) hx hb d_Acc_isOverdrawn_24 (by decide) ?_
      exact hb_zret hAe hx hb hr (by decide) hlocks hP hD hS (Nat.le_of_ble_eq_true rfl) (Nat.le_of_ble_eq_true rfl) (⟨by first | (rw [if_pos ⟨by assumption, by assumption⟩]) | (rw [if_neg (fun h => absurd h.1 (by assumption))]) | (rw [if_neg (fun h => absurd h.2 (by assumption))]), rfl⟩) d_Acc_isOverdrawn_25
    · skip
      have c7n := hb_gt c7
      refine lv_iconst (v := 1) hx hb d_Acc_isOverdrawn_20 (by decide) ?_
      refine lv_goto (tgt := 25) hx hb d_Acc_isOverdrawn_21 (by decide) ?_
      exact hb_zret hAe hx hb hr (by decide) hlocks hP hD hS (Nat.le_of_ble_eq_true rfl) (Nat.le_of_ble_eq_true rfl) (⟨by first | (rw [if_pos ⟨by assumption, by assumption⟩]) | (rw [if_neg (fun h => absurd h.1 (by assumption))]) | (rw [if_neg (fun h => absurd h.2 (by assumption))]), rfl⟩) d_Acc_isOverdrawn_25
set_option maxHeartbeats 4000000 in
set_option maxRecDepth 100000 in
/-- Payment(key, account) -/
theorem c_Pay_init {l : Launch} {s0 : State} {D : va_G} {cI cJ cO : ClassId} {e0 mi : Nat} (hE : hb_E l s0 D cI cJ cO e0 mi) (M : hb_M) (p0 a : Nat) (k : Int32) (hp : M p0 = some (.inr (1, [.int 0, .null, .int 0, .long 0, .long 0, .int 0, .int 0, .int 0, .long 0, .int 0]))) : hb_Met l D hb_cl s0 y_Pay_init b_Pay_init 3 none { frames := 1, cells := 0, slots := 0, locals := 12 } [.ref p0, .int k, .ref a] M (fun v M1 => v = none ∧ M1 p0 = some (.inr (1, [.int k, .ref a, .int 2, .long 0, .long 0, .int 0, .int (-1), .int 0, .long 0, .int (-1)])) ∧ hb_off [p0] M M1) := by
  refine hb_Met.of (by decide) (Nat.le_of_ble_eq_true rfl) ?_
  intro p e s m below meth c A hAe hX hz hP hD hA hS ls hl
  obtain ⟨hx, hb, hr, hml, hown, hlocks, hnm, hG, hnh⟩ := id hX
  have hown : s.vm.findClass "HoldBook$Payment" = some m.cls := hown
  have hts := hE.ts hG ([.ref p0, .int k, .ref a] : List Value).toArray
  have hK := hE.kn hG
  have hl : lv_has ls 3 [(0, .ref p0), (1, .int k), (2, .ref a)] := hl
  refine lv_aload_n hx hb d_Pay_init_0 rfl (lv_at hl 0 rfl) ?_
  refine W.objInit hx hb hown (hts _ ml_Pay_3) (hts _ im_Ob_init) (hts _ cd_Ob_init) rfl (by rw [hml]; exact hl.1) rfl d_Pay_init_1 (Nat.le_of_ble_eq_true rfl) (Nat.le_of_ble_eq_true rfl) ?_
  refine W.eq (g2 := F0 m 4 ls []) rfl ?_
  refine lv_aload_n hx hb d_Pay_init_4 rfl (lv_at hl 0 rfl) ?_
  refine lv_iconst (v := 2) hx hb d_Pay_init_5 (by decide) ?_
  refine hb_put (ty := .int) hx hb hts hown hC_Pay hK hP hD hS hp 2 (by decide) rfl fl_Pay_11 rfl rfl rfl rfl (Nat.le_of_ble_eq_true rfl) d_Pay_init_6 (fun M1 H locs eM2 hP hD hS => ?_)
  have f3 : M1 p0 = some (.inr (1, [.int 0, .null, .int 2, .long 0, .long 0, .int 0, .int 0, .int 0, .long 0, .int 0])) := by rw [eM2]; exact hb_up_self
  refine lv_aload_n hx hb d_Pay_init_9 rfl (lv_at hl 0 rfl) ?_
  refine lv_lconst (v := 0) hx hb d_Pay_init_10 (by decide) ?_
  refine hb_put (ty := .long) hx hb hts hown hC_Pay hK hP hD hS f3 3 (by decide) rfl fl_Pay_15 rfl rfl rfl rfl (Nat.le_of_ble_eq_true rfl) d_Pay_init_11 (fun M4 H locs eM5 hP hD hS => ?_)
  have f6 : M4 p0 = some (.inr (1, [.int 0, .null, .int 2, .long 0, .long 0, .int 0, .int 0, .int 0, .long 0, .int 0])) := by rw [eM5]; exact hb_up_self
  refine lv_aload_n hx hb d_Pay_init_14 rfl (lv_at hl 0 rfl) ?_
  refine lv_lconst (v := 0) hx hb d_Pay_init_15 (by decide) ?_
  refine hb_put (ty := .long) hx hb hts hown hC_Pay hK hP hD hS f6 4 (by decide) rfl fl_Pay_19 rfl rfl rfl rfl (Nat.le_of_ble_eq_true rfl) d_Pay_init_16 (fun M7 H locs eM8 hP hD hS => ?_)
  have f9 : M7 p0 = some (.inr (1, [.int 0, .null, .int 2, .long 0, .long 0, .int 0, .int 0, .int 0, .long 0, .int 0])) := by rw [eM8]; exact hb_up_self
  refine lv_aload_n hx hb d_Pay_init_19 rfl (lv_at hl 0 rfl) ?_
  refine lv_iconst (v := 0) hx hb d_Pay_init_20 (by decide) ?_
  refine hb_put (ty := .int) hx hb hts hown hC_Pay hK hP hD hS f9 5 (by decide) rfl fl_Pay_22 rfl rfl rfl rfl (Nat.le_of_ble_eq_true rfl) d_Pay_init_21 (fun M10 H locs eM11 hP hD hS => ?_)
  have f12 : M10 p0 = some (.inr (1, [.int 0, .null, .int 2, .long 0, .long 0, .int 0, .int 0, .int 0, .long 0, .int 0])) := by rw [eM11]; exact hb_up_self
  refine lv_aload_n hx hb d_Pay_init_24 rfl (lv_at hl 0 rfl) ?_
  refine lv_iconst (v := (-1)) hx hb d_Pay_init_25 (by decide) ?_
  refine hb_put (ty := .int) hx hb hts hown hC_Pay hK hP hD hS f12 6 (by decide) rfl fl_Pay_25 rfl rfl rfl rfl (Nat.le_of_ble_eq_true rfl) d_Pay_init_26 (fun M13 H locs eM14 hP hD hS => ?_)
  have f15 : M13 p0 = some (.inr (1, [.int 0, .null, .int 2, .long 0, .long 0, .int 0, .int (-1), .int 0, .long 0, .int 0])) := by rw [eM14]; exact hb_up_self
  refine lv_aload_n hx hb d_Pay_init_29 rfl (lv_at hl 0 rfl) ?_
  refine lv_iconst (v := 0) hx hb d_Pay_init_30 (by decide) ?_
  refine hb_put (ty := .int) hx hb hts hown hC_Pay hK hP hD hS f15 7 (by decide) rfl fl_Pay_28 rfl rfl rfl rfl (Nat.le_of_ble_eq_true rfl) d_Pay_init_31 (fun M16 H locs eM17 hP hD hS => ?_)
  have f18 : M16 p0 = some (.inr (1, [.int 0, .null, .int 2, .long 0, .long 0, .int 0, .int (-1), .int 0, .long 0, .int 0])) := by rw [eM17]; exact hb_up_self
  refine lv_aload_n hx hb d_Pay_init_34 rfl (lv_at hl 0 rfl) ?_
  refine lv_lconst (v := 0) hx hb d_Pay_init_35 (by decide) ?_
  refine hb_put (ty := .long) hx hb hts hown hC_Pay hK hP hD hS f18 8 (by decide) rfl fl_Pay_31 rfl rfl rfl rfl (Nat.le_of_ble_eq_true rfl) d_Pay_init_36 (fun M19 H locs eM20 hP hD hS => ?_)
  have f21 : M19 p0 = some (.inr (1, [.int 0, .null, .int 2, .long 0, .long 0, .int 0, .int (-1), .int 0, .long 0, .int 0])) := by rw [eM20]; exact hb_up_self
  refine lv_aload_n hx hb d_Pay_init_39 rfl (lv_at hl 0 rfl) ?_
  refine lv_iconst (v := (-1)) hx hb d_Pay_init_40 (by decide) ?_
  refine hb_put (ty := .int) hx hb hts hown hC_Pay hK hP hD hS f21 9 (by decide) rfl fl_Pay_34 rfl rfl rfl rfl (Nat.le_of_ble_eq_true rfl) d_Pay_init_41 (fun M22 H locs eM23 hP hD hS => ?_)
  have f24 : M22 p0 = some (.inr (1, [.int 0, .null, .int 2, .long 0, .long 0, .int 0, .int (-1), .int 0, .long 0, .int (-1)])) := by rw [eM23]; exact hb_up_self
  refine lv_aload_n hx hb d_Pay_init_44 rfl (lv_at hl 0 rfl) ?_
  refine lv_iload_n hx hb d_Pay_init_45 rfl (lv_at hl 1 rfl) ?_
  refine hb_putF (ty := .int) hx hb hts hown hC_Pay hK hP hD hS f24 0 (by decide) rfl fl_Pay_37 rfl hnm rfl rfl rfl rfl (Nat.le_of_ble_eq_true rfl) d_Pay_init_46 (fun M25 H locs eM26 hP hD hS => ?_)
  have f27 : M25 p0 = some (.inr (1, [.int k, .null, .int 2, .long 0, .long 0, .int 0, .int (-1), .int 0, .long 0, .int (-1)])) := by rw [eM26]; exact hb_up_self
  refine lv_aload_n hx hb d_Pay_init_49 rfl (lv_at hl 0 rfl) ?_
  refine lv_aload_n hx hb d_Pay_init_50 rfl (lv_at hl 2 rfl) ?_
  refine hb_putF (ty := .object "HoldBook$Account") hx hb hts hown hC_Pay hK hP hD hS f27 1 (by decide) rfl fl_Pay_40 rfl hnm rfl rfl rfl rfl (Nat.le_of_ble_eq_true rfl) d_Pay_init_51 (fun M28 H locs eM29 hP hD hS => ?_)
  have f30 : M28 p0 = some (.inr (1, [.int k, .ref a, .int 2, .long 0, .long 0, .int 0, .int (-1), .int 0, .long 0, .int (-1)])) := by rw [eM29]; exact hb_up_self
  exact hb_vret hAe hx hb hr hlocks hP hD hS (Nat.le_of_ble_eq_true rfl) (Nat.le_of_ble_eq_true rfl) (⟨rfl, f30, ((((((((((hb_off.rf.up (by simp) eM2).up (by simp) eM5).up (by simp) eM8).up (by simp) eM11).up (by simp) eM14).up (by simp) eM17).up (by simp) eM20).up (by simp) eM23).up (by simp) eM26).up (by simp) eM29)⟩) d_Pay_init_54
set_option maxHeartbeats 4000000 in
set_option maxRecDepth 100000 in
/-- Payment.keepHeld(x) -/
theorem c_Pay_keepHeld {l : Launch} {s0 : State} {D : va_G} {cI cJ cO : ClassId} {e0 mi : Nat} (hE : hb_E l s0 D cI cJ cO e0 mi) (M : hb_M) (p0 a : Nat) (an : Int32) (am af ab ah al : Int64) (pk ps pu pn pd pt : Int32) (ph pc pa : Int64) (ha : M a = some (.inr (0, [.int an, .long am, .long af, .long ab, .long ah, .long al]))) (hp : M p0 = some (.inr (1, [.int pk, .ref a, .int ps, .long ph, .long pc, .int pu, .int pn, .int pd, .long pa, .int pt]))) (x : Int64) : hb_Met l D hb_cl s0 y_Pay_keepHeld b_Pay_keepHeld 3 none { frames := 0, cells := 0, slots := 0, locals := 0 } [.ref p0, .long x] M (fun v M1 => v = none ∧ M1 a = some (.inr (0, [.int an, .long am, .long af, .long ab, .long (ah + (x - ph)), .long al])) ∧ M1 p0 = some (.inr (1, [.int pk, .ref a, .int ps, .long x, .long pc, .int pu, .int pn, .int pd, .long pa, .int pt])) ∧ hb_off [a, p0] M M1) := by
  refine hb_Met.of (by decide) (Nat.le_of_ble_eq_true rfl) ?_
  intro p e s m below meth c A hAe hX hz hP hD hA hS ls hl
  obtain ⟨hx, hb, hr, hml, hown, hlocks, hnm, hG, hnh⟩ := id hX
  have hown : s.vm.findClass "HoldBook$Payment" = some m.cls := hown
  have hts := hE.ts hG ([.ref p0, .long x] : List Value).toArray
  have hK := hE.kn hG
  have hl : lv_has ls 3 [(0, .ref p0), (1, .long x)] := hl
  refine lv_aload_n hx hb d_Pay_keepHeld_0 rfl (lv_at hl 0 rfl) ?_
  refine hb_get hx hb hts hown hC_Pay hK hP hp 1 (by decide) rfl fl_Pay_40 rfl d_Pay_keepHeld_1 ?_
  refine lv_dup hx hb d_Pay_keepHeld_4 rfl ?_
  refine hb_get hx hb hts hown hC_Acc hK hP ha 4 (by decide) rfl fl_Pay_48 rfl d_Pay_keepHeld_5 ?_
  refine lv_lload_n hx hb d_Pay_keepHeld_8 rfl (lv_at hl 1 rfl) ?_
  refine lv_aload_n hx hb d_Pay_keepHeld_9 rfl (lv_at hl 0 rfl) ?_
  refine hb_get hx hb hts hown hC_Pay hK hP hp 3 (by decide) rfl fl_Pay_15 rfl d_Pay_keepHeld_10 ?_
  refine lv_lsub hx hb d_Pay_keepHeld_13 ?_
  refine lv_ladd hx hb d_Pay_keepHeld_14 ?_
  refine hb_put (ty := .long) hx hb hts hown hC_Acc hK hP hD hS ha 4 (by decide) rfl fl_Pay_48 rfl rfl rfl rfl (Nat.le_of_ble_eq_true rfl) d_Pay_keepHeld_15 (fun M1 H locs eM2 hP hD hS => ?_)
  have f3 : M1 a = some (.inr (0, [.int an, .long am, .long af, .long ab, .long (ah + (x - ph)), .long al])) := by rw [eM2]; exact hb_up_self
  have f4 : M1 p0 = some (.inr (1, [.int pk, .ref a, .int ps, .long ph, .long pc, .int pu, .int pn, .int pd, .long pa, .int pt])) := by rw [eM2, hb_up_ne (fun q9 => by rw [q9, ha] at hp; cases hp)]; exact hp
  refine lv_aload_n hx hb d_Pay_keepHeld_18 rfl (lv_at hl 0 rfl) ?_
  refine lv_lload_n hx hb d_Pay_keepHeld_19 rfl (lv_at hl 1 rfl) ?_
  refine hb_put (ty := .long) hx hb hts hown hC_Pay hK hP hD hS f4 3 (by decide) rfl fl_Pay_15 rfl rfl rfl rfl (Nat.le_of_ble_eq_true rfl) d_Pay_keepHeld_20 (fun M5 H locs eM6 hP hD hS => ?_)
  have f7 : M5 p0 = some (.inr (1, [.int pk, .ref a, .int ps, .long x, .long pc, .int pu, .int pn, .int pd, .long pa, .int pt])) := by rw [eM6]; exact hb_up_self
  have f8 : M5 a = some (.inr (0, [.int an, .long am, .long af, .long ab, .long (ah + (x - ph)), .long al])) := by rw [eM6, hb_up_ne (fun q9 => by rw [q9, f4] at f3; cases f3)]; exact f3
  exact hb_vret hAe hx hb hr hlocks hP hD hS (Nat.le_of_ble_eq_true rfl) (Nat.le_of_ble_eq_true rfl) (⟨rfl, f8, f7, ((hb_off.rf.up (by simp) eM2).up (by simp) eM6)⟩) d_Pay_keepHeld_23
set_option maxHeartbeats 4000000 in
set_option maxRecDepth 100000 in
/-- Payment.holdUntil(x, e) -/
theorem c_Pay_holdUntil {l : Launch} {s0 : State} {D : va_G} {cI cJ cO : ClassId} {e0 mi : Nat} (hE : hb_E l s0 D cI cJ cO e0 mi) (M : hb_M) (p0 a : Nat) (an : Int32) (am af ab ah al : Int64) (pk ps pu pn pd pt : Int32) (ph pc pa : Int64) (ha : M a = some (.inr (0, [.int an, .long am, .long af, .long ab, .long ah, .long al]))) (hp : M p0 = some (.inr (1, [.int pk, .ref a, .int ps, .long ph, .long pc, .int pu, .int pn, .int pd, .long pa, .int pt]))) (x : Int64) (en : Int32) : hb_Met l D hb_cl s0 y_Pay_holdUntil b_Pay_holdUntil 4 none { frames := 1, cells := 0, slots := 0, locals := 22 } [.ref p0, .long x, .int en] M (fun v M1 => v = none ∧ M1 a = some (.inr (0, [.int an, .long am, .long af, .long ab, .long (ah + (x - ph)), .long al])) ∧ M1 p0 = some (.inr (1, [.int pk, .ref a, .int 1, .long x, .long pc, .int en, .int pn, .int pd, .long pa, .int pt])) ∧ hb_off [a, p0] M M1) := by
  refine hb_Met.of (by decide) (Nat.le_of_ble_eq_true rfl) ?_
  intro p e s m below meth c A hAe hX hz hP hD hA hS ls hl
  obtain ⟨hx, hb, hr, hml, hown, hlocks, hnm, hG, hnh⟩ := id hX
  have hown : s.vm.findClass "HoldBook$Payment" = some m.cls := hown
  have hts := hE.ts hG ([.ref p0, .long x, .int en] : List Value).toArray
  have hK := hE.kn hG
  have hl : lv_has ls 4 [(0, .ref p0), (1, .long x), (3, .int en)] := hl
  refine lv_aload_n hx hb d_Pay_holdUntil_0 rfl (lv_at hl 0 rfl) ?_
  refine lv_iconst (v := 1) hx hb d_Pay_holdUntil_1 (by decide) ?_
  refine hb_put (ty := .int) hx hb hts hown hC_Pay hK hP hD hS hp 2 (by decide) rfl fl_Pay_11 rfl rfl rfl rfl (Nat.le_of_ble_eq_true rfl) d_Pay_holdUntil_2 (fun M1 H locs eM2 hP hD hS => ?_)
  have f3 : M1 p0 = some (.inr (1, [.int pk, .ref a, .int 1, .long ph, .long pc, .int pu, .int pn, .int pd, .long pa, .int pt])) := by rw [eM2]; exact hb_up_self
  have f4 : M1 a = some (.inr (0, [.int an, .long am, .long af, .long ab, .long ah, .long al])) := by rw [eM2, hb_up_ne (fun q9 => by rw [q9, hp] at ha; cases ha)]; exact ha
  refine lv_aload_n hx hb d_Pay_holdUntil_5 rfl (lv_at hl 0 rfl) ?_
  refine lv_iload_n hx hb d_Pay_holdUntil_6 rfl (lv_at hl 2 rfl) ?_
  refine hb_put (ty := .int) hx hb hts hown hC_Pay hK hP hD hS f3 5 (by decide) rfl fl_Pay_22 rfl rfl rfl rfl (Nat.le_of_ble_eq_true rfl) d_Pay_holdUntil_7 (fun M5 H locs eM6 hP hD hS => ?_)
  have f7 : M5 p0 = some (.inr (1, [.int pk, .ref a, .int 1, .long ph, .long pc, .int en, .int pn, .int pd, .long pa, .int pt])) := by rw [eM6]; exact hb_up_self
  have f8 : M5 a = some (.inr (0, [.int an, .long am, .long af, .long ab, .long ah, .long al])) := by rw [eM6, hb_up_ne (fun q9 => by rw [q9, f3] at f4; cases f4)]; exact f4
  refine lv_aload_n hx hb d_Pay_holdUntil_10 rfl (lv_at hl 0 rfl) ?_
  refine lv_lload_n hx hb d_Pay_holdUntil_11 rfl (lv_at hl 1 rfl) ?_
  refine hb_callV (rest := []) hX hts hb_gd Y_Pay_keepHeld (c_Pay_keepHeld hE M5 p0 a an am af ab ah al pk 1 en pn pd pt ph pc pa f8 f7 x) ml_Pay_44 im_Pay_keepHeld se_Pay_keepHeld hK f7 hC_Pay.1 hz hP hD hS hA rfl hl.1 rfl (Nat.le_of_ble_eq_true rfl) ⟨Nat.le_of_ble_eq_true rfl, Nat.le_of_ble_eq_true rfl⟩ ⟨Nat.le_of_ble_eq_true rfl, Nat.le_of_ble_eq_true rfl⟩ d_Pay_holdUntil_12 (fun v11 M9 H locs hq10 hP hD hS _ hkp => ?_)
  obtain ⟨ev15, f12, f13, ho14⟩ := hq10
  subst ev15
  refine W.eq (g2 := F0 m 15 ls []) rfl ?_
  exact hb_vret hAe hx hb hr hlocks hP hD hS (Nat.le_of_ble_eq_true rfl) (Nat.le_of_ble_eq_true rfl) (⟨rfl, f12, f13, (((hb_off.rf.up (by simp) eM2).up (by simp) eM6).tr ho14 (by simp))⟩) d_Pay_holdUntil_15
set_option maxHeartbeats 4000000 in
set_option maxRecDepth 100000 in
/-- Payment.take(x) -/
theorem c_Pay_take {l : Launch} {s0 : State} {D : va_G} {cI cJ cO : ClassId} {e0 mi : Nat} (hE : hb_E l s0 D cI cJ cO e0 mi) (M : hb_M) (p0 a : Nat) (an : Int32) (am af ab ah al : Int64) (pk ps pu pn pd pt : Int32) (ph pc pa : Int64) (ha : M a = some (.inr (0, [.int an, .long am, .long af, .long ab, .long ah, .long al]))) (hp : M p0 = some (.inr (1, [.int pk, .ref a, .int ps, .long ph, .long pc, .int pu, .int pn, .int pd, .long pa, .int pt]))) (x : Int64) : hb_Met l D hb_cl s0 y_Pay_take b_Pay_take 3 none { frames := 1, cells := 0, slots := 0, locals := 22 } [.ref p0, .long x] M (fun v M1 => v = none ∧ M1 a = some (.inr (0, [.int an, .long am, .long af, .long (ab - x), .long (ah + ((ph - x) - ph)), .long al])) ∧ M1 p0 = some (.inr (1, [.int pk, .ref a, .int ps, .long (ph - x), .long (pc + x), .int pu, .int pn, .int pd, .long pa, .int pt])) ∧ hb_off [a, p0] M M1) := by
  refine hb_Met.of (by decide) (Nat.le_of_ble_eq_true rfl) ?_
  intro p e s m below meth c A hAe hX hz hP hD hA hS ls hl
  obtain ⟨hx, hb, hr, hml, hown, hlocks, hnm, hG, hnh⟩ := id hX
  have hown : s.vm.findClass "HoldBook$Payment" = some m.cls := hown
  have hts := hE.ts hG ([.ref p0, .long x] : List Value).toArray
  have hK := hE.kn hG
  have hl : lv_has ls 3 [(0, .ref p0), (1, .long x)] := hl
  refine lv_aload_n hx hb d_Pay_take_0 rfl (lv_at hl 0 rfl) ?_
  refine lv_aload_n hx hb d_Pay_take_1 rfl (lv_at hl 0 rfl) ?_
  refine hb_get hx hb hts hown hC_Pay hK hP hp 3 (by decide) rfl fl_Pay_15 rfl d_Pay_take_2 ?_
  refine lv_lload_n hx hb d_Pay_take_5 rfl (lv_at hl 1 rfl) ?_
  refine lv_lsub hx hb d_Pay_take_6 ?_
  refine hb_callV (rest := []) hX hts hb_gd Y_Pay_keepHeld (c_Pay_keepHeld hE M p0 a an am af ab ah al pk ps pu pn pd pt ph pc pa ha hp (ph - x)) ml_Pay_44 im_Pay_keepHeld se_Pay_keepHeld hK hp hC_Pay.1 hz hP hD hS hA rfl hl.1 rfl (Nat.le_of_ble_eq_true rfl) ⟨Nat.le_of_ble_eq_true rfl, Nat.le_of_ble_eq_true rfl⟩ ⟨Nat.le_of_ble_eq_true rfl, Nat.le_of_ble_eq_true rfl⟩ d_Pay_take_7 (fun v3 M1 H locs hq2 hP hD hS _ hkp => ?_)
  obtain ⟨ev7, f4, f5, ho6⟩ := hq2
  subst ev7
  refine W.eq (g2 := F0 m 10 ls []) rfl ?_
  refine lv_aload_n hx hb d_Pay_take_10 rfl (lv_at hl 0 rfl) ?_
  refine lv_dup hx hb d_Pay_take_11 rfl ?_
  refine hb_get hx hb hts hown hC_Pay hK hP f5 4 (by decide) rfl fl_Pay_19 rfl d_Pay_take_12 ?_
  refine lv_lload_n hx hb d_Pay_take_15 rfl (lv_at hl 1 rfl) ?_
  refine lv_ladd hx hb d_Pay_take_16 ?_
  refine hb_put (ty := .long) hx hb hts hown hC_Pay hK hP hD hS f5 4 (by decide) rfl fl_Pay_19 rfl rfl rfl rfl (Nat.le_of_ble_eq_true rfl) d_Pay_take_17 (fun M8 H locs eM9 hP hD hS => ?_)
  have f10 : M8 p0 = some (.inr (1, [.int pk, .ref a, .int ps, .long (ph - x), .long (pc + x), .int pu, .int pn, .int pd, .long pa, .int pt])) := by rw [eM9]; exact hb_up_self
  have f11 : M8 a = some (.inr (0, [.int an, .long am, .long af, .long ab, .long (ah + ((ph - x) - ph)), .long al])) := by rw [eM9, hb_up_ne (fun q9 => by rw [q9, f5] at f4; cases f4)]; exact f4
  refine lv_aload_n hx hb d_Pay_take_20 rfl (lv_at hl 0 rfl) ?_
  refine hb_get hx hb hts hown hC_Pay hK hP f10 1 (by decide) rfl fl_Pay_40 rfl d_Pay_take_21 ?_
  refine lv_dup hx hb d_Pay_take_24 rfl ?_
  refine hb_get hx hb hts hown hC_Acc hK hP f11 3 (by decide) rfl fl_Pay_51 rfl d_Pay_take_25 ?_
  refine lv_lload_n hx hb d_Pay_take_28 rfl (lv_at hl 1 rfl) ?_
  refine lv_lsub hx hb d_Pay_take_29 ?_
  refine hb_put (ty := .long) hx hb hts hown hC_Acc hK hP hD hS f11 3 (by decide) rfl fl_Pay_51 rfl rfl rfl rfl (Nat.le_of_ble_eq_true rfl) d_Pay_take_30 (fun M12 H locs eM13 hP hD hS => ?_)
  have f14 : M12 a = some (.inr (0, [.int an, .long am, .long af, .long (ab - x), .long (ah + ((ph - x) - ph)), .long al])) := by rw [eM13]; exact hb_up_self
  have f15 : M12 p0 = some (.inr (1, [.int pk, .ref a, .int ps, .long (ph - x), .long (pc + x), .int pu, .int pn, .int pd, .long pa, .int pt])) := by rw [eM13, hb_up_ne (fun q9 => by rw [q9, f11] at f10; cases f10)]; exact f10
  exact hb_vret hAe hx hb hr hlocks hP hD hS (Nat.le_of_ble_eq_true rfl) (Nat.le_of_ble_eq_true rfl) (⟨rfl, f14, f15, (((hb_off.rf.tr ho6 (by simp)).up (by simp) eM9).up (by simp) eM13)⟩) d_Pay_take_33
set_option maxHeartbeats 4000000 in
set_option maxRecDepth 100000 in
/-- Payment.endHold(n) -/
theorem c_Pay_endHold {l : Launch} {s0 : State} {D : va_G} {cI cJ cO : ClassId} {e0 mi : Nat} (hE : hb_E l s0 D cI cJ cO e0 mi) (M : hb_M) (p0 a : Nat) (an : Int32) (am af ab ah al : Int64) (pk ps pu pn pd pt : Int32) (ph pc pa : Int64) (ha : M a = some (.inr (0, [.int an, .long am, .long af, .long ab, .long ah, .long al]))) (hp : M p0 = some (.inr (1, [.int pk, .ref a, .int ps, .long ph, .long pc, .int pu, .int pn, .int pd, .long pa, .int pt]))) (n : Int32) : hb_Met l D hb_cl s0 y_Pay_endHold b_Pay_endHold 2 none { frames := 1, cells := 0, slots := 0, locals := 22 } [.ref p0, .int n] M (fun v M1 => v = none ∧ M1 a = some (.inr (0, [.int an, .long am, .long af, .long ab, .long (ah + (0 - ph)), .long al])) ∧ M1 p0 = some (.inr (1, [.int pk, .ref a, .int (if 0 < pc then 3 else 2), .long 0, .long pc, .int 0, .int (if 0 < pc then n else pn), .int pd, .long pa, .int pt])) ∧ hb_off [a, p0] M M1) := by
  refine hb_Met.of (by decide) (Nat.le_of_ble_eq_true rfl) ?_
  intro p e s m below meth c A hAe hX hz hP hD hA hS ls hl
  obtain ⟨hx, hb, hr, hml, hown, hlocks, hnm, hG, hnh⟩ := id hX
  have hown : s.vm.findClass "HoldBook$Payment" = some m.cls := hown
  have hts := hE.ts hG ([.ref p0, .int n] : List Value).toArray
  have hK := hE.kn hG
  have hl : lv_has ls 2 [(0, .ref p0), (1, .int n)] := hl
  refine lv_aload_n hx hb d_Pay_endHold_0 rfl (lv_at hl 0 rfl) ?_
  refine lv_lconst (v := 0) hx hb d_Pay_endHold_1 (by decide) ?_
  refine hb_callV (rest := []) hX hts hb_gd Y_Pay_keepHeld (c_Pay_keepHeld hE M p0 a an am af ab ah al pk ps pu pn pd pt ph pc pa ha hp 0) ml_Pay_44 im_Pay_keepHeld se_Pay_keepHeld hK hp hC_Pay.1 hz hP hD hS hA rfl hl.1 rfl (Nat.le_of_ble_eq_true rfl) ⟨Nat.le_of_ble_eq_true rfl, Nat.le_of_ble_eq_true rfl⟩ ⟨Nat.le_of_ble_eq_true rfl, Nat.le_of_ble_eq_true rfl⟩ d_Pay_endHold_2 (fun v3 M1 H locs hq2 hP hD hS _ hkp => ?_)
  obtain ⟨ev7, f4, f5, ho6⟩ := hq2
  subst ev7
  refine W.eq (g2 := F0 m 5 ls []) rfl ?_
  refine lv_aload_n hx hb d_Pay_endHold_5 rfl (lv_at hl 0 rfl) ?_
  refine lv_iconst (v := 0) hx hb d_Pay_endHold_6 (by decide) ?_
  refine hb_put (ty := .int) hx hb hts hown hC_Pay hK hP hD hS f5 5 (by decide) rfl fl_Pay_22 rfl rfl rfl rfl (Nat.le_of_ble_eq_true rfl) d_Pay_endHold_7 (fun M8 H locs eM9 hP hD hS => ?_)
  have f10 : M8 p0 = some (.inr (1, [.int pk, .ref a, .int ps, .long 0, .long pc, .int 0, .int pn, .int pd, .long pa, .int pt])) := by rw [eM9]; exact hb_up_self
  have f11 : M8 a = some (.inr (0, [.int an, .long am, .long af, .long ab, .long (ah + (0 - ph)), .long al])) := by rw [eM9, hb_up_ne (fun q9 => by rw [q9, f5] at f4; cases f4)]; exact f4
  refine lv_aload_n hx hb d_Pay_endHold_10 rfl (lv_at hl 0 rfl) ?_
  refine hb_get hx hb hts hown hC_Pay hK hP f10 4 (by decide) rfl fl_Pay_19 rfl d_Pay_endHold_11 ?_
  refine lv_lconst (v := 0) hx hb d_Pay_endHold_14 (by decide) ?_
  refine hb_lc_le (tgt := 32) hx hb d_Pay_endHold_15 d_Pay_endHold_16 (by decide) (fun c12 => ?_) (fun c12 => ?_)
  · skip
    have c12n := hb_ngt c12
    have w_c := c12n
    refine lv_aload_n hx hb d_Pay_endHold_32 rfl (lv_at hl 0 rfl) ?_
    refine lv_iconst (v := 2) hx hb d_Pay_endHold_33 (by decide) ?_
    refine hb_put (ty := .int) hx hb hts hown hC_Pay hK hP hD hS f10 2 (by decide) rfl fl_Pay_11 rfl rfl rfl rfl (Nat.le_of_ble_eq_true rfl) d_Pay_endHold_34 (fun M13 H locs eM14 hP hD hS => ?_)
    have f15 : M13 p0 = some (.inr (1, [.int pk, .ref a, .int 2, .long 0, .long pc, .int 0, .int pn, .int pd, .long pa, .int pt])) := by rw [eM14]; exact hb_up_self
    have f16 : M13 a = some (.inr (0, [.int an, .long am, .long af, .long ab, .long (ah + (0 - ph)), .long al])) := by rw [eM14, hb_up_ne (fun q9 => by rw [q9, f10] at f11; cases f11)]; exact f11
    exact hb_vret hAe hx hb hr hlocks hP hD hS (Nat.le_of_ble_eq_true rfl) (Nat.le_of_ble_eq_true rfl) (⟨rfl, f16, by first | (rw [if_pos w_c, if_pos w_c]; exact f15) | (rw [if_neg w_c, if_neg w_c]; exact f15), (((hb_off.rf.tr ho6 (by simp)).up (by simp) eM9).up (by simp) eM14)⟩) d_Pay_endHold_37
  · skip
    have c12n := hb_gt c12
    have w_c := c12n
    refine lv_aload_n hx hb d_Pay_endHold_19 rfl (lv_at hl 0 rfl) ?_
    refine lv_iconst (v := 3) hx hb d_Pay_endHold_20 (by decide) ?_
    refine hb_put (ty := .int) hx hb hts hown hC_Pay hK hP hD hS f10 2 (by decide) rfl fl_Pay_11 rfl rfl rfl rfl (Nat.le_of_ble_eq_true rfl) d_Pay_endHold_21 (fun M17 H locs eM18 hP hD hS => ?_)
    have f19 : M17 p0 = some (.inr (1, [.int pk, .ref a, .int 3, .long 0, .long pc, .int 0, .int pn, .int pd, .long pa, .int pt])) := by rw [eM18]; exact hb_up_self
    have f20 : M17 a = some (.inr (0, [.int an, .long am, .long af, .long ab, .long (ah + (0 - ph)), .long al])) := by rw [eM18, hb_up_ne (fun q9 => by rw [q9, f10] at f11; cases f11)]; exact f11
    refine lv_aload_n hx hb d_Pay_endHold_24 rfl (lv_at hl 0 rfl) ?_
    refine lv_iload_n hx hb d_Pay_endHold_25 rfl (lv_at hl 1 rfl) ?_
    refine hb_put (ty := .int) hx hb hts hown hC_Pay hK hP hD hS f19 6 (by decide) rfl fl_Pay_25 rfl rfl rfl rfl (Nat.le_of_ble_eq_true rfl) d_Pay_endHold_26 (fun M21 H locs eM22 hP hD hS => ?_)
    have f23 : M21 p0 = some (.inr (1, [.int pk, .ref a, .int 3, .long 0, .long pc, .int 0, .int n, .int pd, .long pa, .int pt])) := by rw [eM22]; exact hb_up_self
    have f24 : M21 a = some (.inr (0, [.int an, .long am, .long af, .long ab, .long (ah + (0 - ph)), .long al])) := by rw [eM22, hb_up_ne (fun q9 => by rw [q9, f19] at f20; cases f20)]; exact f20
    refine lv_goto (tgt := 37) hx hb d_Pay_endHold_29 (by decide) ?_
    exact hb_vret hAe hx hb hr hlocks hP hD hS (Nat.le_of_ble_eq_true rfl) (Nat.le_of_ble_eq_true rfl) (⟨rfl, f24, by first | (rw [if_pos w_c, if_pos w_c]; exact f23) | (rw [if_neg w_c, if_neg w_c]; exact f23), ((((hb_off.rf.tr ho6 (by simp)).up (by simp) eM9).up (by simp) eM18).up (by simp) eM22)⟩) d_Pay_endHold_37
set_option maxHeartbeats 4000000 in
set_option maxRecDepth 100000 in
/-- Payment.openDispute(x, e) -/
theorem c_Pay_openDispute {l : Launch} {s0 : State} {D : va_G} {cI cJ cO : ClassId} {e0 mi : Nat} (hE : hb_E l s0 D cI cJ cO e0 mi) (M : hb_M) (p0 a : Nat) (an : Int32) (am af ab ah al : Int64) (pk ps pu pn pd pt : Int32) (ph pc pa : Int64) (ha : M a = some (.inr (0, [.int an, .long am, .long af, .long ab, .long ah, .long al]))) (hp : M p0 = some (.inr (1, [.int pk, .ref a, .int ps, .long ph, .long pc, .int pu, .int pn, .int pd, .long pa, .int pt]))) (x : Int64) (en : Int32) : hb_Met l D hb_cl s0 y_Pay_openDispute b_Pay_openDispute 4 none { frames := 0, cells := 0, slots := 0, locals := 0 } [.ref p0, .long x, .int en] M (fun v M1 => v = none ∧ M1 a = some (.inr (0, [.int an, .long am, .long af, .long (ab + x), .long ah, .long (al + x)])) ∧ M1 p0 = some (.inr (1, [.int pk, .ref a, .int ps, .long ph, .long pc, .int pu, .int pn, .int 1, .long x, .int en])) ∧ hb_off [a, p0] M M1) := by
  refine hb_Met.of (by decide) (Nat.le_of_ble_eq_true rfl) ?_
  intro p e s m below meth c A hAe hX hz hP hD hA hS ls hl
  obtain ⟨hx, hb, hr, hml, hown, hlocks, hnm, hG, hnh⟩ := id hX
  have hown : s.vm.findClass "HoldBook$Payment" = some m.cls := hown
  have hts := hE.ts hG ([.ref p0, .long x, .int en] : List Value).toArray
  have hK := hE.kn hG
  have hl : lv_has ls 4 [(0, .ref p0), (1, .long x), (3, .int en)] := hl
  refine lv_aload_n hx hb d_Pay_openDispute_0 rfl (lv_at hl 0 rfl) ?_
  refine lv_iconst (v := 1) hx hb d_Pay_openDispute_1 (by decide) ?_
  refine hb_put (ty := .int) hx hb hts hown hC_Pay hK hP hD hS hp 7 (by decide) rfl fl_Pay_28 rfl rfl rfl rfl (Nat.le_of_ble_eq_true rfl) d_Pay_openDispute_2 (fun M1 H locs eM2 hP hD hS => ?_)
  have f3 : M1 p0 = some (.inr (1, [.int pk, .ref a, .int ps, .long ph, .long pc, .int pu, .int pn, .int 1, .long pa, .int pt])) := by rw [eM2]; exact hb_up_self
  have f4 : M1 a = some (.inr (0, [.int an, .long am, .long af, .long ab, .long ah, .long al])) := by rw [eM2, hb_up_ne (fun q9 => by rw [q9, hp] at ha; cases ha)]; exact ha
  refine lv_aload_n hx hb d_Pay_openDispute_5 rfl (lv_at hl 0 rfl) ?_
  refine lv_lload_n hx hb d_Pay_openDispute_6 rfl (lv_at hl 1 rfl) ?_
  refine hb_put (ty := .long) hx hb hts hown hC_Pay hK hP hD hS f3 8 (by decide) rfl fl_Pay_31 rfl rfl rfl rfl (Nat.le_of_ble_eq_true rfl) d_Pay_openDispute_7 (fun M5 H locs eM6 hP hD hS => ?_)
  have f7 : M5 p0 = some (.inr (1, [.int pk, .ref a, .int ps, .long ph, .long pc, .int pu, .int pn, .int 1, .long x, .int pt])) := by rw [eM6]; exact hb_up_self
  have f8 : M5 a = some (.inr (0, [.int an, .long am, .long af, .long ab, .long ah, .long al])) := by rw [eM6, hb_up_ne (fun q9 => by rw [q9, f3] at f4; cases f4)]; exact f4
  refine lv_aload_n hx hb d_Pay_openDispute_10 rfl (lv_at hl 0 rfl) ?_
  refine lv_iload_n hx hb d_Pay_openDispute_11 rfl (lv_at hl 2 rfl) ?_
  refine hb_put (ty := .int) hx hb hts hown hC_Pay hK hP hD hS f7 9 (by decide) rfl fl_Pay_34 rfl rfl rfl rfl (Nat.le_of_ble_eq_true rfl) d_Pay_openDispute_12 (fun M9 H locs eM10 hP hD hS => ?_)
  have f11 : M9 p0 = some (.inr (1, [.int pk, .ref a, .int ps, .long ph, .long pc, .int pu, .int pn, .int 1, .long x, .int en])) := by rw [eM10]; exact hb_up_self
  have f12 : M9 a = some (.inr (0, [.int an, .long am, .long af, .long ab, .long ah, .long al])) := by rw [eM10, hb_up_ne (fun q9 => by rw [q9, f7] at f8; cases f8)]; exact f8
  refine lv_aload_n hx hb d_Pay_openDispute_15 rfl (lv_at hl 0 rfl) ?_
  refine hb_get hx hb hts hown hC_Pay hK hP f11 1 (by decide) rfl fl_Pay_40 rfl d_Pay_openDispute_16 ?_
  refine lv_dup hx hb d_Pay_openDispute_19 rfl ?_
  refine hb_get hx hb hts hown hC_Acc hK hP f12 3 (by decide) rfl fl_Pay_51 rfl d_Pay_openDispute_20 ?_
  refine lv_lload_n hx hb d_Pay_openDispute_23 rfl (lv_at hl 1 rfl) ?_
  refine lv_ladd hx hb d_Pay_openDispute_24 ?_
  refine hb_put (ty := .long) hx hb hts hown hC_Acc hK hP hD hS f12 3 (by decide) rfl fl_Pay_51 rfl rfl rfl rfl (Nat.le_of_ble_eq_true rfl) d_Pay_openDispute_25 (fun M13 H locs eM14 hP hD hS => ?_)
  have f15 : M13 a = some (.inr (0, [.int an, .long am, .long af, .long (ab + x), .long ah, .long al])) := by rw [eM14]; exact hb_up_self
  have f16 : M13 p0 = some (.inr (1, [.int pk, .ref a, .int ps, .long ph, .long pc, .int pu, .int pn, .int 1, .long x, .int en])) := by rw [eM14, hb_up_ne (fun q9 => by rw [q9, f12] at f11; cases f11)]; exact f11
  refine lv_aload_n hx hb d_Pay_openDispute_28 rfl (lv_at hl 0 rfl) ?_
  refine hb_get hx hb hts hown hC_Pay hK hP f16 1 (by decide) rfl fl_Pay_40 rfl d_Pay_openDispute_29 ?_
  refine lv_dup hx hb d_Pay_openDispute_32 rfl ?_
  refine hb_get hx hb hts hown hC_Acc hK hP f15 5 (by decide) rfl fl_Pay_54 rfl d_Pay_openDispute_33 ?_
  refine lv_lload_n hx hb d_Pay_openDispute_36 rfl (lv_at hl 1 rfl) ?_
  refine lv_ladd hx hb d_Pay_openDispute_37 ?_
  refine hb_put (ty := .long) hx hb hts hown hC_Acc hK hP hD hS f15 5 (by decide) rfl fl_Pay_54 rfl rfl rfl rfl (Nat.le_of_ble_eq_true rfl) d_Pay_openDispute_38 (fun M17 H locs eM18 hP hD hS => ?_)
  have f19 : M17 a = some (.inr (0, [.int an, .long am, .long af, .long (ab + x), .long ah, .long (al + x)])) := by rw [eM18]; exact hb_up_self
  have f20 : M17 p0 = some (.inr (1, [.int pk, .ref a, .int ps, .long ph, .long pc, .int pu, .int pn, .int 1, .long x, .int en])) := by rw [eM18, hb_up_ne (fun q9 => by rw [q9, f15] at f16; cases f16)]; exact f16
  exact hb_vret hAe hx hb hr hlocks hP hD hS (Nat.le_of_ble_eq_true rfl) (Nat.le_of_ble_eq_true rfl) (⟨rfl, f19, f20, (((((hb_off.rf.up (by simp) eM2).up (by simp) eM6).up (by simp) eM10).up (by simp) eM14).up (by simp) eM18)⟩) d_Pay_openDispute_41
set_option maxHeartbeats 4000000 in
set_option maxRecDepth 100000 in
/-- Payment.answerDispute(e) -/
theorem c_Pay_answerDispute {l : Launch} {s0 : State} {D : va_G} {cI cJ cO : ClassId} {e0 mi : Nat} (hE : hb_E l s0 D cI cJ cO e0 mi) (M : hb_M) (p0 a : Nat) (pk ps pu pn pd pt : Int32) (ph pc pa : Int64) (hp : M p0 = some (.inr (1, [.int pk, .ref a, .int ps, .long ph, .long pc, .int pu, .int pn, .int pd, .long pa, .int pt]))) (en : Int32) : hb_Met l D hb_cl s0 y_Pay_answerDispute b_Pay_answerDispute 2 none { frames := 0, cells := 0, slots := 0, locals := 0 } [.ref p0, .int en] M (fun v M1 => v = none ∧ M1 p0 = some (.inr (1, [.int pk, .ref a, .int ps, .long ph, .long pc, .int pu, .int pn, .int 2, .long pa, .int en])) ∧ hb_off [p0] M M1) := by
  refine hb_Met.of (by decide) (Nat.le_of_ble_eq_true rfl) ?_
  intro p e s m below meth c A hAe hX hz hP hD hA hS ls hl
  obtain ⟨hx, hb, hr, hml, hown, hlocks, hnm, hG, hnh⟩ := id hX
  have hown : s.vm.findClass "HoldBook$Payment" = some m.cls := hown
  have hts := hE.ts hG ([.ref p0, .int en] : List Value).toArray
  have hK := hE.kn hG
  have hl : lv_has ls 2 [(0, .ref p0), (1, .int en)] := hl
  refine lv_aload_n hx hb d_Pay_answerDispute_0 rfl (lv_at hl 0 rfl) ?_
  refine lv_iconst (v := 2) hx hb d_Pay_answerDispute_1 (by decide) ?_
  refine hb_put (ty := .int) hx hb hts hown hC_Pay hK hP hD hS hp 7 (by decide) rfl fl_Pay_28 rfl rfl rfl rfl (Nat.le_of_ble_eq_true rfl) d_Pay_answerDispute_2 (fun M1 H locs eM2 hP hD hS => ?_)
  have f3 : M1 p0 = some (.inr (1, [.int pk, .ref a, .int ps, .long ph, .long pc, .int pu, .int pn, .int 2, .long pa, .int pt])) := by rw [eM2]; exact hb_up_self
  refine lv_aload_n hx hb d_Pay_answerDispute_5 rfl (lv_at hl 0 rfl) ?_
  refine lv_iload_n hx hb d_Pay_answerDispute_6 rfl (lv_at hl 1 rfl) ?_
  refine hb_put (ty := .int) hx hb hts hown hC_Pay hK hP hD hS f3 9 (by decide) rfl fl_Pay_34 rfl rfl rfl rfl (Nat.le_of_ble_eq_true rfl) d_Pay_answerDispute_7 (fun M4 H locs eM5 hP hD hS => ?_)
  have f6 : M4 p0 = some (.inr (1, [.int pk, .ref a, .int ps, .long ph, .long pc, .int pu, .int pn, .int 2, .long pa, .int en])) := by rw [eM5]; exact hb_up_self
  exact hb_vret hAe hx hb hr hlocks hP hD hS (Nat.le_of_ble_eq_true rfl) (Nat.le_of_ble_eq_true rfl) (⟨rfl, f6, ((hb_off.rf.up (by simp) eM2).up (by simp) eM5)⟩) d_Pay_answerDispute_10
set_option maxHeartbeats 4000000 in
set_option maxRecDepth 100000 in
/-- Payment.endDispute(w) -/
theorem c_Pay_endDispute {l : Launch} {s0 : State} {D : va_G} {cI cJ cO : ClassId} {e0 mi : Nat} (hE : hb_E l s0 D cI cJ cO e0 mi) (M : hb_M) (p0 a : Nat) (an : Int32) (am af ab ah al : Int64) (pk ps pu pn pd pt : Int32) (ph pc pa : Int64) (ha : M a = some (.inr (0, [.int an, .long am, .long af, .long ab, .long ah, .long al]))) (hp : M p0 = some (.inr (1, [.int pk, .ref a, .int ps, .long ph, .long pc, .int pu, .int pn, .int pd, .long pa, .int pt]))) (w : Int32) : hb_Met l D hb_cl s0 y_Pay_endDispute b_Pay_endDispute 2 none { frames := 0, cells := 0, slots := 0, locals := 0 } [.ref p0, .int w] M (fun v M1 => v = none ∧ M1 a = some (.inr (0, [.int an, .long am, .long af, .long (if w = 0 then ab - pa else ab), .long ah, .long (al - pa)])) ∧ M1 p0 = some (.inr (1, [.int pk, .ref a, .int ps, .long ph, .long pc, .int pu, .int pn, .int (if w = 0 then 4 else 3), .long pa, .int (-1)])) ∧ hb_off [a, p0] M M1) := by
  refine hb_Met.of (by decide) (Nat.le_of_ble_eq_true rfl) ?_
  intro p e s m below meth c A hAe hX hz hP hD hA hS ls hl
  obtain ⟨hx, hb, hr, hml, hown, hlocks, hnm, hG, hnh⟩ := id hX
  have hown : s.vm.findClass "HoldBook$Payment" = some m.cls := hown
  have hts := hE.ts hG ([.ref p0, .int w] : List Value).toArray
  have hK := hE.kn hG
  have hl : lv_has ls 2 [(0, .ref p0), (1, .int w)] := hl
  refine lv_aload_n hx hb d_Pay_endDispute_0 rfl (lv_at hl 0 rfl) ?_
  refine hb_get hx hb hts hown hC_Pay hK hP hp 1 (by decide) rfl fl_Pay_40 rfl d_Pay_endDispute_1 ?_
  refine lv_dup hx hb d_Pay_endDispute_4 rfl ?_
  refine hb_get hx hb hts hown hC_Acc hK hP ha 5 (by decide) rfl fl_Pay_54 rfl d_Pay_endDispute_5 ?_
  refine lv_aload_n hx hb d_Pay_endDispute_8 rfl (lv_at hl 0 rfl) ?_
  refine hb_get hx hb hts hown hC_Pay hK hP hp 8 (by decide) rfl fl_Pay_31 rfl d_Pay_endDispute_9 ?_
  refine lv_lsub hx hb d_Pay_endDispute_12 ?_
  refine hb_put (ty := .long) hx hb hts hown hC_Acc hK hP hD hS ha 5 (by decide) rfl fl_Pay_54 rfl rfl rfl rfl (Nat.le_of_ble_eq_true rfl) d_Pay_endDispute_13 (fun M1 H locs eM2 hP hD hS => ?_)
  have f3 : M1 a = some (.inr (0, [.int an, .long am, .long af, .long ab, .long ah, .long (al - pa)])) := by rw [eM2]; exact hb_up_self
  have f4 : M1 p0 = some (.inr (1, [.int pk, .ref a, .int ps, .long ph, .long pc, .int pu, .int pn, .int pd, .long pa, .int pt])) := by rw [eM2, hb_up_ne (fun q9 => by rw [q9, ha] at hp; cases hp)]; exact hp
  refine lv_iload_n hx hb d_Pay_endDispute_16 rfl (lv_at hl 1 rfl) ?_
  refine lv_if_ne (tgt := 36) hx hb d_Pay_endDispute_17 (by decide) (fun c5 => ?_) (fun c5 => ?_)
  · skip
    refine lv_aload_n hx hb d_Pay_endDispute_36 rfl (lv_at hl 0 rfl) ?_
    refine lv_iload_n hx hb d_Pay_endDispute_37 rfl (lv_at hl 1 rfl) ?_
    refine lv_if_eq (tgt := 45) hx hb d_Pay_endDispute_38 (by decide) (fun c6 => ?_) (fun c6 => ?_)
    · skip
      refine lv_iconst (v := 4) hx hb d_Pay_endDispute_45 (by decide) ?_
      refine hb_put (ty := .int) hx hb hts hown hC_Pay hK hP hD hS f4 7 (by decide) rfl fl_Pay_28 rfl rfl rfl rfl (Nat.le_of_ble_eq_true rfl) d_Pay_endDispute_46 (fun M7 H locs eM8 hP hD hS => ?_)
      have f9 : M7 p0 = some (.inr (1, [.int pk, .ref a, .int ps, .long ph, .long pc, .int pu, .int pn, .int 4, .long pa, .int pt])) := by rw [eM8]; exact hb_up_self
      have f10 : M7 a = some (.inr (0, [.int an, .long am, .long af, .long ab, .long ah, .long (al - pa)])) := by rw [eM8, hb_up_ne (fun q9 => by rw [q9, f4] at f3; cases f3)]; exact f3
      refine lv_aload_n hx hb d_Pay_endDispute_49 rfl (lv_at hl 0 rfl) ?_
      refine lv_iconst (v := (-1)) hx hb d_Pay_endDispute_50 (by decide) ?_
      refine hb_put (ty := .int) hx hb hts hown hC_Pay hK hP hD hS f9 9 (by decide) rfl fl_Pay_34 rfl rfl rfl rfl (Nat.le_of_ble_eq_true rfl) d_Pay_endDispute_51 (fun M11 H locs eM12 hP hD hS => ?_)
      have f13 : M11 p0 = some (.inr (1, [.int pk, .ref a, .int ps, .long ph, .long pc, .int pu, .int pn, .int 4, .long pa, .int (-1)])) := by rw [eM12]; exact hb_up_self
      have f14 : M11 a = some (.inr (0, [.int an, .long am, .long af, .long ab, .long ah, .long (al - pa)])) := by rw [eM12, hb_up_ne (fun q9 => by rw [q9, f9] at f10; cases f10)]; exact f10
      exact hb_vret hAe hx hb hr hlocks hP hD hS (Nat.le_of_ble_eq_true rfl) (Nat.le_of_ble_eq_true rfl) (⟨rfl, by simp_all, by simp_all, (((hb_off.rf.up (by simp) eM2).up (by simp) eM8).up (by simp) eM12)⟩) d_Pay_endDispute_54
    · skip
      refine lv_iconst (v := 3) hx hb d_Pay_endDispute_41 (by decide) ?_
      refine lv_goto (tgt := 46) hx hb d_Pay_endDispute_42 (by decide) ?_
      refine hb_put (ty := .int) hx hb hts hown hC_Pay hK hP hD hS f4 7 (by decide) rfl fl_Pay_28 rfl rfl rfl rfl (Nat.le_of_ble_eq_true rfl) d_Pay_endDispute_46 (fun M15 H locs eM16 hP hD hS => ?_)
      have f17 : M15 p0 = some (.inr (1, [.int pk, .ref a, .int ps, .long ph, .long pc, .int pu, .int pn, .int 3, .long pa, .int pt])) := by rw [eM16]; exact hb_up_self
      have f18 : M15 a = some (.inr (0, [.int an, .long am, .long af, .long ab, .long ah, .long (al - pa)])) := by rw [eM16, hb_up_ne (fun q9 => by rw [q9, f4] at f3; cases f3)]; exact f3
      refine lv_aload_n hx hb d_Pay_endDispute_49 rfl (lv_at hl 0 rfl) ?_
      refine lv_iconst (v := (-1)) hx hb d_Pay_endDispute_50 (by decide) ?_
      refine hb_put (ty := .int) hx hb hts hown hC_Pay hK hP hD hS f17 9 (by decide) rfl fl_Pay_34 rfl rfl rfl rfl (Nat.le_of_ble_eq_true rfl) d_Pay_endDispute_51 (fun M19 H locs eM20 hP hD hS => ?_)
      have f21 : M19 p0 = some (.inr (1, [.int pk, .ref a, .int ps, .long ph, .long pc, .int pu, .int pn, .int 3, .long pa, .int (-1)])) := by rw [eM20]; exact hb_up_self
      have f22 : M19 a = some (.inr (0, [.int an, .long am, .long af, .long ab, .long ah, .long (al - pa)])) := by rw [eM20, hb_up_ne (fun q9 => by rw [q9, f17] at f18; cases f18)]; exact f18
      exact hb_vret hAe hx hb hr hlocks hP hD hS (Nat.le_of_ble_eq_true rfl) (Nat.le_of_ble_eq_true rfl) (⟨rfl, by simp_all, by simp_all, (((hb_off.rf.up (by simp) eM2).up (by simp) eM16).up (by simp) eM20)⟩) d_Pay_endDispute_54
  · skip
    refine lv_aload_n hx hb d_Pay_endDispute_20 rfl (lv_at hl 0 rfl) ?_
    refine hb_get hx hb hts hown hC_Pay hK hP f4 1 (by decide) rfl fl_Pay_40 rfl d_Pay_endDispute_21 ?_
    refine lv_dup hx hb d_Pay_endDispute_24 rfl ?_
    refine hb_get hx hb hts hown hC_Acc hK hP f3 3 (by decide) rfl fl_Pay_51 rfl d_Pay_endDispute_25 ?_
    refine lv_aload_n hx hb d_Pay_endDispute_28 rfl (lv_at hl 0 rfl) ?_
    refine hb_get hx hb hts hown hC_Pay hK hP f4 8 (by decide) rfl fl_Pay_31 rfl d_Pay_endDispute_29 ?_
    refine lv_lsub hx hb d_Pay_endDispute_32 ?_
    refine hb_put (ty := .long) hx hb hts hown hC_Acc hK hP hD hS f3 3 (by decide) rfl fl_Pay_51 rfl rfl rfl rfl (Nat.le_of_ble_eq_true rfl) d_Pay_endDispute_33 (fun M23 H locs eM24 hP hD hS => ?_)
    have f25 : M23 a = some (.inr (0, [.int an, .long am, .long af, .long (ab - pa), .long ah, .long (al - pa)])) := by rw [eM24]; exact hb_up_self
    have f26 : M23 p0 = some (.inr (1, [.int pk, .ref a, .int ps, .long ph, .long pc, .int pu, .int pn, .int pd, .long pa, .int pt])) := by rw [eM24, hb_up_ne (fun q9 => by rw [q9, f3] at f4; cases f4)]; exact f4
    refine lv_aload_n hx hb d_Pay_endDispute_36 rfl (lv_at hl 0 rfl) ?_
    refine lv_iload_n hx hb d_Pay_endDispute_37 rfl (lv_at hl 1 rfl) ?_
    refine lv_if_eq (tgt := 45) hx hb d_Pay_endDispute_38 (by decide) (fun c27 => ?_) (fun c27 => ?_)
    · skip
      refine lv_iconst (v := 4) hx hb d_Pay_endDispute_45 (by decide) ?_
      refine hb_put (ty := .int) hx hb hts hown hC_Pay hK hP hD hS f26 7 (by decide) rfl fl_Pay_28 rfl rfl rfl rfl (Nat.le_of_ble_eq_true rfl) d_Pay_endDispute_46 (fun M28 H locs eM29 hP hD hS => ?_)
      have f30 : M28 p0 = some (.inr (1, [.int pk, .ref a, .int ps, .long ph, .long pc, .int pu, .int pn, .int 4, .long pa, .int pt])) := by rw [eM29]; exact hb_up_self
      have f31 : M28 a = some (.inr (0, [.int an, .long am, .long af, .long (ab - pa), .long ah, .long (al - pa)])) := by rw [eM29, hb_up_ne (fun q9 => by rw [q9, f26] at f25; cases f25)]; exact f25
      refine lv_aload_n hx hb d_Pay_endDispute_49 rfl (lv_at hl 0 rfl) ?_
      refine lv_iconst (v := (-1)) hx hb d_Pay_endDispute_50 (by decide) ?_
      refine hb_put (ty := .int) hx hb hts hown hC_Pay hK hP hD hS f30 9 (by decide) rfl fl_Pay_34 rfl rfl rfl rfl (Nat.le_of_ble_eq_true rfl) d_Pay_endDispute_51 (fun M32 H locs eM33 hP hD hS => ?_)
      have f34 : M32 p0 = some (.inr (1, [.int pk, .ref a, .int ps, .long ph, .long pc, .int pu, .int pn, .int 4, .long pa, .int (-1)])) := by rw [eM33]; exact hb_up_self
      have f35 : M32 a = some (.inr (0, [.int an, .long am, .long af, .long (ab - pa), .long ah, .long (al - pa)])) := by rw [eM33, hb_up_ne (fun q9 => by rw [q9, f30] at f31; cases f31)]; exact f31
      exact hb_vret hAe hx hb hr hlocks hP hD hS (Nat.le_of_ble_eq_true rfl) (Nat.le_of_ble_eq_true rfl) (⟨rfl, by simp_all, by simp_all, ((((hb_off.rf.up (by simp) eM2).up (by simp) eM24).up (by simp) eM29).up (by simp) eM33)⟩) d_Pay_endDispute_54
    · skip
      refine lv_iconst (v := 3) hx hb d_Pay_endDispute_41 (by decide) ?_
      refine lv_goto (tgt := 46) hx hb d_Pay_endDispute_42 (by decide) ?_
      refine hb_put (ty := .int) hx hb hts hown hC_Pay hK hP hD hS f26 7 (by decide) rfl fl_Pay_28 rfl rfl rfl rfl (Nat.le_of_ble_eq_true rfl) d_Pay_endDispute_46 (fun M36 H locs eM37 hP hD hS => ?_)
      have f38 : M36 p0 = some (.inr (1, [.int pk, .ref a, .int ps, .long ph, .long pc, .int pu, .int pn, .int 3, .long pa, .int pt])) := by rw [eM37]; exact hb_up_self
      have f39 : M36 a = some (.inr (0, [.int an, .long am, .long af, .long (ab - pa), .long ah, .long (al - pa)])) := by rw [eM37, hb_up_ne (fun q9 => by rw [q9, f26] at f25; cases f25)]; exact f25
      refine lv_aload_n hx hb d_Pay_endDispute_49 rfl (lv_at hl 0 rfl) ?_
      refine lv_iconst (v := (-1)) hx hb d_Pay_endDispute_50 (by decide) ?_
      refine hb_put (ty := .int) hx hb hts hown hC_Pay hK hP hD hS f38 9 (by decide) rfl fl_Pay_34 rfl rfl rfl rfl (Nat.le_of_ble_eq_true rfl) d_Pay_endDispute_51 (fun M40 H locs eM41 hP hD hS => ?_)
      have f42 : M40 p0 = some (.inr (1, [.int pk, .ref a, .int ps, .long ph, .long pc, .int pu, .int pn, .int 3, .long pa, .int (-1)])) := by rw [eM41]; exact hb_up_self
      have f43 : M40 a = some (.inr (0, [.int an, .long am, .long af, .long (ab - pa), .long ah, .long (al - pa)])) := by rw [eM41, hb_up_ne (fun q9 => by rw [q9, f38] at f39; cases f39)]; exact f39
      exact hb_vret hAe hx hb hr hlocks hP hD hS (Nat.le_of_ble_eq_true rfl) (Nat.le_of_ble_eq_true rfl) (⟨rfl, by simp_all, by simp_all, ((((hb_off.rf.up (by simp) eM2).up (by simp) eM24).up (by simp) eM37).up (by simp) eM41)⟩) d_Pay_endDispute_54
set_option maxHeartbeats 4000000 in
set_option maxRecDepth 100000 in
/-- Payment.isDisputeOpen() -/
theorem c_Pay_isDisputeOpen {l : Launch} {s0 : State} {D : va_G} {cI cJ cO : ClassId} {e0 mi : Nat} (hE : hb_E l s0 D cI cJ cO e0 mi) (M : hb_M) (p0 a : Nat) (pk ps pu pn pd pt : Int32) (ph pc pa : Int64) (hp : M p0 = some (.inr (1, [.int pk, .ref a, .int ps, .long ph, .long pc, .int pu, .int pn, .int pd, .long pa, .int pt]))) : hb_Met l D hb_cl s0 y_Pay_isDisputeOpen b_Pay_isDisputeOpen 1 (some .boolean) { frames := 0, cells := 0, slots := 0, locals := 0 } [.ref p0] M (fun v M1 => v = some (.int (if pd = 1 ∨ pd = 2 then 1 else 0)) ∧ M1 = M) := by
  refine hb_Met.of (by decide) (Nat.le_of_ble_eq_true rfl) ?_
  intro p e s m below meth c A hAe hX hz hP hD hA hS ls hl
  obtain ⟨hx, hb, hr, hml, hown, hlocks, hnm, hG, hnh⟩ := id hX
  have hown : s.vm.findClass "HoldBook$Payment" = some m.cls := hown
  have hts := hE.ts hG ([.ref p0] : List Value).toArray
  have hK := hE.kn hG
  have hl : lv_has ls 1 [(0, .ref p0)] := hl
  refine lv_aload_n hx hb d_Pay_isDisputeOpen_0 rfl (lv_at hl 0 rfl) ?_
  refine hb_get hx hb hts hown hC_Pay hK hP hp 7 (by decide) rfl fl_Pay_28 rfl d_Pay_isDisputeOpen_1 ?_
  refine lv_iconst (v := 1) hx hb d_Pay_isDisputeOpen_4 (by decide) ?_
  refine lv_icmp_eq (tgt := 16) hx hb d_Pay_isDisputeOpen_5 (by decide) (fun c1 => ?_) (fun c1 => ?_)
  · skip
    refine lv_iconst (v := 1) hx hb d_Pay_isDisputeOpen_16 (by decide) ?_
    refine lv_goto (tgt := 21) hx hb d_Pay_isDisputeOpen_17 (by decide) ?_
    exact hb_zret hAe hx hb hr (by decide) hlocks hP hD hS (Nat.le_of_ble_eq_true rfl) (Nat.le_of_ble_eq_true rfl) (⟨by simp_all, rfl⟩) d_Pay_isDisputeOpen_21
  · skip
    refine lv_aload_n hx hb d_Pay_isDisputeOpen_8 rfl (lv_at hl 0 rfl) ?_
    refine hb_get hx hb hts hown hC_Pay hK hP hp 7 (by decide) rfl fl_Pay_28 rfl d_Pay_isDisputeOpen_9 ?_
    refine lv_iconst (v := 2) hx hb d_Pay_isDisputeOpen_12 (by decide) ?_
    refine lv_icmp_ne (tgt := 20) hx hb d_Pay_isDisputeOpen_13 (by decide) (fun c2 => ?_) (fun c2 => ?_)
    · skip
      refine lv_iconst (v := 0) hx hb d_Pay_isDisputeOpen_20 (by decide) ?_
      exact hb_zret hAe hx hb hr (by decide) hlocks hP hD hS (Nat.le_of_ble_eq_true rfl) (Nat.le_of_ble_eq_true rfl) (⟨by simp_all, rfl⟩) d_Pay_isDisputeOpen_21
    · skip
      refine lv_iconst (v := 1) hx hb d_Pay_isDisputeOpen_16 (by decide) ?_
      refine lv_goto (tgt := 21) hx hb d_Pay_isDisputeOpen_17 (by decide) ?_
      exact hb_zret hAe hx hb hr (by decide) hlocks hP hD hS (Nat.le_of_ble_eq_true rfl) (Nat.le_of_ble_eq_true rfl) (⟨by simp_all, rfl⟩) d_Pay_isDisputeOpen_21
set_option maxHeartbeats 4000000 in
set_option maxRecDepth 100000 in
/-- Payment.locked() -/
theorem c_Pay_locked {l : Launch} {s0 : State} {D : va_G} {cI cJ cO : ClassId} {e0 mi : Nat} (hE : hb_E l s0 D cI cJ cO e0 mi) (M : hb_M) (p0 a : Nat) (pk ps pu pn pd pt : Int32) (ph pc pa : Int64) (hp : M p0 = some (.inr (1, [.int pk, .ref a, .int ps, .long ph, .long pc, .int pu, .int pn, .int pd, .long pa, .int pt]))) : hb_Met l D hb_cl s0 y_Pay_locked b_Pay_locked 1 (some .long) { frames := 1, cells := 0, slots := 0, locals := 20 } [.ref p0] M (fun v M1 => v = some (.long (if pd = 1 ∨ pd = 2 then pa else 0)) ∧ M1 = M) := by
  refine hb_Met.of (by decide) (Nat.le_of_ble_eq_true rfl) ?_
  intro p e s m below meth c A hAe hX hz hP hD hA hS ls hl
  obtain ⟨hx, hb, hr, hml, hown, hlocks, hnm, hG, hnh⟩ := id hX
  have hown : s.vm.findClass "HoldBook$Payment" = some m.cls := hown
  have hts := hE.ts hG ([.ref p0] : List Value).toArray
  have hK := hE.kn hG
  have hl : lv_has ls 1 [(0, .ref p0)] := hl
  refine lv_aload_n hx hb d_Pay_locked_0 rfl (lv_at hl 0 rfl) ?_
  refine hb_callV (rest := []) hX hts hb_gd Y_Pay_isDisputeOpen (c_Pay_isDisputeOpen hE M p0 a pk ps pu pn pd pt ph pc pa hp) ml_Pay_57 im_Pay_isDisputeOpen se_Pay_isDisputeOpen hK hp hC_Pay.1 hz hP hD hS hA rfl hl.1 rfl (Nat.le_of_ble_eq_true rfl) ⟨Nat.le_of_ble_eq_true rfl, Nat.le_of_ble_eq_true rfl⟩ ⟨Nat.le_of_ble_eq_true rfl, Nat.le_of_ble_eq_true rfl⟩ d_Pay_locked_1 (fun v3 M1 H locs hq2 hP hD hS _ hkp => ?_)
  obtain ⟨ev4, eM5⟩ := hq2
  subst ev4
  rw [eM5] at hP hD
  refine W.eq (g2 := F0 m 4 ls [.int (if pd = 1 ∨ pd = 2 then 1 else 0)]) rfl ?_
  refine lv_if_eq (tgt := 14) hx hb d_Pay_locked_4 (by decide) (fun c6 => ?_) (fun c6 => ?_)
  · skip
    refine lv_lconst (v := 0) hx hb d_Pay_locked_14 (by decide) ?_
    exact hb_lret hAe hx hb hr hlocks hP hD hS (Nat.le_of_ble_eq_true rfl) (Nat.le_of_ble_eq_true rfl) (⟨by simp_all, rfl⟩) d_Pay_locked_15
  · skip
    refine lv_aload_n hx hb d_Pay_locked_7 rfl (lv_at hl 0 rfl) ?_
    refine hb_get hx hb hts hown hC_Pay hK hP hp 8 (by decide) rfl fl_Pay_31 rfl d_Pay_locked_8 ?_
    refine lv_goto (tgt := 15) hx hb d_Pay_locked_11 (by decide) ?_
    exact hb_lret hAe hx hb hr hlocks hP hD hS (Nat.le_of_ble_eq_true rfl) (Nat.le_of_ble_eq_true rfl) (⟨by simp_all, rfl⟩) d_Pay_locked_15
