/-! ARRAYLIST: growing, adding, removing -/
theorem hb_acell {D : va_G} {cl : List vw_C} {cI cJ cO : ClassId} {s : State} {M : hb_M} {H : Heap} {a n : Nat} {f : Nat → Option Nat} (hK : va_K D cl [(cI, .int), (cJ, .long), (cO, .object "java/lang/Object")] s) (hP : hb_P D cl M H) (h : M a = some (hb_ar cO n f)) : ∃ cell : Cell, H[a]? = some cell ∧ cell.vm.isStatics = false ∧ s.vm.findClass "[Ljava/lang/Object;" = some cell.cls :=
  ⟨_, hP a _ h, rfl, va_nmO (hK.2 2 (cO, .object "java/lang/Object") rfl).2 rfl⟩
theorem hb_mx {a b : Nat} (ha : a < 2 ^ 31) (hb : b < 2 ^ 31) : (if nI a < nI b then nI b else nI a) = nI (max a b) := by
  by_cases h : a < b
  · rw [if_pos (nI_lt h hb), Nat.max_eq_right (by omega)]
  · rw [if_neg (nI_nlt (by omega) ha), Nat.max_eq_left (by omega)]
def hb_ins (f : Nat → Option Nat) (j x i : Nat) : Option Nat := if i < j then f i else if i = j then some x else f (i - 1)
/-- existing cells but these are kept -/
def hb_kp (L : List Nat) (M M1 : hb_M) : Prop := ∀ q e, q ∉ L → M q = some e → M1 q = some e
theorem hb_off.kp {L : List Nat} {M M1 : hb_M} (h : hb_off L M M1) : hb_kp L M M1 := fun q e hq he => by rw [h q hq]; exact he
theorem hb_kp.tr {L : List Nat} {M M1 M2 : hb_M} (h : hb_kp L M M1) (h2 : hb_kp L M1 M2) : hb_kp L M M2 := fun q e hq he => h2 q e hq (h q e hq he)
theorem hb_kp.of_off {L L1 : List Nat} {M M1 : hb_M} (h : hb_off L1 M M1) (hs : ∀ q, q ∈ L1 → q ∈ L ∨ M q = none) : hb_kp L M M1 := fun q e hq he => by
  rw [h q (fun z => by
    rcases hs q z with k | k
    · exact hq k
    · rw [he] at k; cases k)]
  exact he
def hb_added (cO : ClassId) (M M1 : hb_M) (t ar n : Nat) (md : Int32) (f : Nat → Option Nat) (j x : Nat) : Prop := ∃ (ar1 cap1 : Nat) (g : Nat → Option Nat), M1 t = some (.inr (3, [.ref ar1, .int (nI (n + 1)), .int md])) ∧ M1 ar1 = some (hb_ar cO cap1 g) ∧ n + 1 ≤ cap1 ∧ cap1 ≤ 100 ∧ (ar1 = ar ∨ M ar1 = none) ∧ (∀ i, i < n + 1 → g i = hb_ins f j x i) ∧ hb_kp [t, ar] M M1
set_option maxHeartbeats 4000000 in
set_option maxRecDepth 100000 in
/-- ArrayList.fastRemove(es, j) -/
theorem c_Al_fastRemove {l : Launch} {s0 : State} {D : va_G} {cI cJ cO : ClassId} {e0 mi : Nat} (hE : hb_E l s0 D cI cJ cO e0 mi) (M : hb_M) (t ar j k cap : Nat) (md : Int32) (f : Nat → Option Nat) (hj : j < k + 1) (hn : k + 1 ≤ cap) (hc : cap ≤ 100) (hels : hb_els M f (k + 1)) (ht : M t = some (.inr (3, [.ref ar, .int (nI (k + 1)), .int md]))) (har : M ar = some (hb_ar cO cap f)) : hb_Met l D hb_cl s0 y_Al_fastRemove b_Al_fastRemove 4 none { frames := 1, cells := 0, slots := 0, locals := 60 } [.ref t, .ref ar, .int (nI j)] M (fun v M1 => v = none ∧ M1 t = some (.inr (3, [.ref ar, .int (nI k), .int (md + 1)])) ∧ (∃ g, M1 ar = some (hb_ar cO cap g) ∧ ∀ i, i < k → g i = f (if i < j then i else i + 1)) ∧ hb_off [t, ar] M M1) := by
  refine hb_Met.of (by decide) (Nat.le_of_ble_eq_true rfl) ?_
  intro p e s m below meth c A hAe hX hz hP hD hA hS ls hl
  obtain ⟨hx, hb, hr, hml, hown, hlocks, hnm, hG, hnh⟩ := id hX
  have hown : s.vm.findClass "java/util/ArrayList" = some m.cls := hown
  have hts := hE.ts hG ([.ref t, .ref ar, .int (nI j)] : List Value).toArray
  have hK := hE.kn hG
  have hl : lv_has ls 4 [(0, .ref t), (1, .ref ar), (2, .int (nI j))] := hl
  refine lv_aload_n hx hb d_Al_fastRemove_0 rfl (lv_at hl 0 rfl) ?_
  refine lv_dup hx hb d_Al_fastRemove_1 rfl ?_
  refine hb_getm hx hb hts hown hC_Al hK hP ht 2 (by decide) fl_Al_63 sf_modCount rfl d_Al_fastRemove_2 ?_
  refine lv_iconst (v := 1) hx hb d_Al_fastRemove_5 (by decide) ?_
  refine lv_iadd hx hb d_Al_fastRemove_6 ?_
  refine hb_putm (ty := .int) hx hb hts hown hC_Al hK hP hD hS ht 2 (by decide) fl_Al_63 sf_modCount rfl rfl rfl rfl (Nat.le_of_ble_eq_true rfl) d_Al_fastRemove_7 (fun M1 H locs eM2 hP hD hS => ?_)
  have f3 : M1 t = some (.inr (3, [.ref ar, .int (nI (k + 1)), .int (md + 1)])) := by rw [eM2]; exact hb_up_self
  have f4 : M1 ar = some (.inl (cO, cap, .inr (.inr (.inr (.inr f))))) := by rw [eM2, hb_up_ne (fun q9 => by rw [q9, ht] at har; cases har)]; exact har
  refine lv_aload_n hx hb d_Al_fastRemove_10 rfl (lv_at hl 0 rfl) ?_
  refine hb_get hx hb hts hown hC_Al hK hP f3 1 (by decide) rfl fl_Al_48 rfl d_Al_fastRemove_11 ?_
  refine lv_iconst (v := 1) hx hb d_Al_fastRemove_14 (by decide) ?_
  refine lv_isub hx hb d_Al_fastRemove_15 ?_
  refine W.eq (g2 := F0 m 16 ls [.int (nI k)]) (by rw [nI_pred]) ?_
  refine lv_dup hx hb d_Al_fastRemove_16 rfl ?_
  refine lv_istore_n (lv' := [(3, .int (nI k)), (0, .ref t), (1, .ref ar), (2, .int (nI j))]) hx hb d_Al_fastRemove_17 rfl hl (by decide) rfl (fun ls hl => ?_)
  refine lv_iload_n hx hb d_Al_fastRemove_18 rfl (lv_at hl 3 rfl) ?_
  refine lv_icmp_le (tgt := 34) hx hb d_Al_fastRemove_19 (by decide) (fun c5 => ?_) (fun c5 => ?_)
  · skip
    have c5n := hb_ngti c5
    have hkj : k ≤ j := (nI_leI (by omega) (by omega)).mp c5
    refine lv_aload_n hx hb d_Al_fastRemove_34 rfl (lv_at hl 2 rfl) ?_
    refine lv_aload_n hx hb d_Al_fastRemove_35 rfl (lv_at hl 1 rfl) ?_
    refine lv_iload_n hx hb d_Al_fastRemove_36 rfl (lv_at hl 0 rfl) ?_
    refine lv_dup_x1 hx hb d_Al_fastRemove_37 rfl rfl ?_
    refine hb_put (ty := .int) hx hb hts hown hC_Al hK hP hD hS f3 1 (by decide) rfl fl_Al_48 rfl rfl rfl rfl (Nat.le_of_ble_eq_true rfl) d_Al_fastRemove_38 (fun M6 H locs eM7 hP hD hS => ?_)
    have f8 : M6 t = some (.inr (3, [.ref ar, .int (nI k), .int (md + 1)])) := by rw [eM7]; exact hb_up_self
    have f9 : M6 ar = some (.inl (cO, cap, .inr (.inr (.inr (.inr f))))) := by rw [eM7, hb_up_ne (fun q9 => by rw [q9, f3] at f4; cases f4)]; exact f4
    refine lv_null hx hb d_Al_fastRemove_41 ?_
    refine hb_astqN hx hb hK hP hD hS f9 (vp_in_nI (by omega) (by omega)) d_Al_fastRemove_42 (fun M10 H locs eM11 hP hD hS => ?_)
    have f12 : M10 ar = some (.inl (cO, cap, .inr (.inr (.inr (.inr (va_up f (nI k).toNatClampNeg none)))))) := by rw [eM11]; exact hb_up_self
    have f13 : M10 t = some (.inr (3, [.ref ar, .int (nI k), .int (md + 1)])) := by rw [eM11, hb_up_ne (fun q9 => by rw [q9, f9] at f8; cases f8)]; exact f8
    exact hb_vret hAe hx hb hr hlocks hP hD hS (Nat.le_of_ble_eq_true rfl) (Nat.le_of_ble_eq_true rfl) (⟨rfl, f13, ⟨_, f12, fun i hi => by first | (rw [nI_clamp (show k < 2 ^ 31 by omega), va_up_ne _ _ (by omega), if_pos (by omega)]) | (rw [nI_clamp (show k < 2 ^ 31 by omega), va_up_ne _ _ (by omega), nI_clamp (show j + 1 < 2 ^ 31 by omega), nI_clamp (show j < 2 ^ 31 by omega), nI_clamp (show k - j < 2 ^ 31 by omega)]; by_cases hij : i < j; rw [if_pos hij, pk_cpy_out (Or.inl hij)]; rw [if_neg hij, pk_cpy_in (by omega) (by omega), show j + 1 + (i - j) = i + 1 by omega])⟩, (((hb_off.rf.up (by simp) eM2).up (by simp) eM7).up (by simp) eM11)⟩) d_Al_fastRemove_43
  · skip
    have c5n := hb_gti c5
    have hkj : j < k := Nat.lt_of_not_le (fun z => c5 (nI_le z (by omega)))
    refine lv_aload_n hx hb d_Al_fastRemove_22 rfl (lv_at hl 2 rfl) ?_
    refine lv_iload_n hx hb d_Al_fastRemove_23 rfl (lv_at hl 3 rfl) ?_
    refine lv_iconst (v := 1) hx hb d_Al_fastRemove_24 (by decide) ?_
    refine lv_iadd hx hb d_Al_fastRemove_25 ?_
    refine lv_aload_n hx hb d_Al_fastRemove_26 rfl (lv_at hl 2 rfl) ?_
    refine lv_iload_n hx hb d_Al_fastRemove_27 rfl (lv_at hl 3 rfl) ?_
    refine lv_iload_n hx hb d_Al_fastRemove_28 rfl (lv_at hl 0 rfl) ?_
    refine lv_iload_n hx hb d_Al_fastRemove_29 rfl (lv_at hl 3 rfl) ?_
    refine lv_isub hx hb d_Al_fastRemove_30 ?_
    refine W.eq (g2 := F0 m 31 ls [.int (nI (k - j)), .int (nI j), .ref ar, .int (nI (j + 1)), .ref ar]) (by rw [pk_sub (by omega), nI_1]) ?_
    have hels1 := hels.ne eM2 ht hb_ne3
    refine hb_copyq hx hb (by rw [hml]; exact hl.1.symm) hts hown ml_Al_112 nv_arraycopy st_arraycopy in_Sys hK hP hD hS f4 f4 (nI_pos (by omega)) (nI_pos (by omega)) (nI_pos (by omega)) (by rw [nI_clamp (by omega), nI_clamp (by omega)]; omega) (by rw [nI_clamp (by omega), nI_clamp (by omega)]; omega) (fun i hi y hy => hels1.any hE hG hP (i := j + 1 + i) (by rw [nI_clamp (by omega)] at hi; omega) (by rw [nI_clamp (by omega)] at hy; exact hy)) (Nat.le_of_ble_eq_true rfl) (Nat.le_of_ble_eq_true rfl) d_Al_fastRemove_31 (fun M14 H locs eM15 hP hD hS => ?_)
    have f16 : M14 ar = some (.inl (cO, cap, .inr (.inr (.inr (.inr (va_cpy f f (nI (j + 1)).toNatClampNeg (nI j).toNatClampNeg (nI (k - j)).toNatClampNeg)))))) := by rw [eM15]; exact hb_up_self
    have f17 : M14 t = some (.inr (3, [.ref ar, .int (nI (k + 1)), .int (md + 1)])) := by rw [eM15, hb_up_ne (fun q9 => by rw [q9, f4] at f3; cases f3)]; exact f3
    refine lv_aload_n hx hb d_Al_fastRemove_34 rfl (lv_at hl 2 rfl) ?_
    refine lv_aload_n hx hb d_Al_fastRemove_35 rfl (lv_at hl 1 rfl) ?_
    refine lv_iload_n hx hb d_Al_fastRemove_36 rfl (lv_at hl 0 rfl) ?_
    refine lv_dup_x1 hx hb d_Al_fastRemove_37 rfl rfl ?_
    refine hb_put (ty := .int) hx hb hts hown hC_Al hK hP hD hS f17 1 (by decide) rfl fl_Al_48 rfl rfl rfl rfl (Nat.le_of_ble_eq_true rfl) d_Al_fastRemove_38 (fun M18 H locs eM19 hP hD hS => ?_)
    have f20 : M18 t = some (.inr (3, [.ref ar, .int (nI k), .int (md + 1)])) := by rw [eM19]; exact hb_up_self
    have f21 : M18 ar = some (.inl (cO, cap, .inr (.inr (.inr (.inr (va_cpy f f (nI (j + 1)).toNatClampNeg (nI j).toNatClampNeg (nI (k - j)).toNatClampNeg)))))) := by rw [eM19, hb_up_ne (fun q9 => by rw [q9, f17] at f16; cases f16)]; exact f16
    refine lv_null hx hb d_Al_fastRemove_41 ?_
    refine hb_astqN hx hb hK hP hD hS f21 (vp_in_nI (by omega) (by omega)) d_Al_fastRemove_42 (fun M22 H locs eM23 hP hD hS => ?_)
    have f24 : M22 ar = some (.inl (cO, cap, .inr (.inr (.inr (.inr (va_up (va_cpy f f (nI (j + 1)).toNatClampNeg (nI j).toNatClampNeg (nI (k - j)).toNatClampNeg) (nI k).toNatClampNeg none)))))) := by rw [eM23]; exact hb_up_self
    have f25 : M22 t = some (.inr (3, [.ref ar, .int (nI k), .int (md + 1)])) := by rw [eM23, hb_up_ne (fun q9 => by rw [q9, f21] at f20; cases f20)]; exact f20
    exact hb_vret hAe hx hb hr hlocks hP hD hS (Nat.le_of_ble_eq_true rfl) (Nat.le_of_ble_eq_true rfl) (⟨rfl, f25, ⟨_, f24, fun i hi => by first | (rw [nI_clamp (show k < 2 ^ 31 by omega), va_up_ne _ _ (by omega), if_pos (by omega)]) | (rw [nI_clamp (show k < 2 ^ 31 by omega), va_up_ne _ _ (by omega), nI_clamp (show j + 1 < 2 ^ 31 by omega), nI_clamp (show j < 2 ^ 31 by omega), nI_clamp (show k - j < 2 ^ 31 by omega)]; by_cases hij : i < j; rw [if_pos hij, pk_cpy_out (Or.inl hij)]; rw [if_neg hij, pk_cpy_in (by omega) (by omega), show j + 1 + (i - j) = i + 1 by omega])⟩, ((((hb_off.rf.up (by simp) eM2).up (by simp) eM15).up (by simp) eM19).up (by simp) eM23)⟩) d_Al_fastRemove_43
set_option maxHeartbeats 4000000 in
set_option maxRecDepth 100000 in
/-- ArrayList.remove(j) -/
theorem c_Al_remove {l : Launch} {s0 : State} {D : va_G} {cI cJ cO : ClassId} {e0 mi : Nat} (hE : hb_E l s0 D cI cJ cO e0 mi) (M : hb_M) (t ar j k cap : Nat) (md : Int32) (f : Nat → Option Nat) (hj : j < k + 1) (hn : k + 1 ≤ cap) (hc : cap ≤ 100) (hels : hb_els M f (k + 1)) (ht : M t = some (.inr (3, [.ref ar, .int (nI (k + 1)), .int md]))) (har : M ar = some (hb_ar cO cap f)) (x : Nat) (hx0 : f j = some x) : hb_Met l D hb_cl s0 y_Al_remove b_Al_remove 4 (some (.object "java/lang/Object")) { frames := 2, cells := 0, slots := 0, locals := 83 } [.ref t, .int (nI j)] M (fun v M1 => v = some (.ref x) ∧ M1 t = some (.inr (3, [.ref ar, .int (nI k), .int (md + 1)])) ∧ (∃ g, M1 ar = some (hb_ar cO cap g) ∧ ∀ i, i < k → g i = f (if i < j then i else i + 1)) ∧ hb_off [t, ar] M M1) := by
  refine hb_Met.of (by decide) (Nat.le_of_ble_eq_true rfl) ?_
  intro p e s m below meth c A hAe hX hz hP hD hA hS ls hl
  obtain ⟨hx, hb, hr, hml, hown, hlocks, hnm, hG, hnh⟩ := id hX
  have hown : s.vm.findClass "java/util/ArrayList" = some m.cls := hown
  have hts := hE.ts hG ([.ref t, .int (nI j)] : List Value).toArray
  have hK := hE.kn hG
  have hl : lv_has ls 4 [(0, .ref t), (1, .int (nI j))] := hl
  refine lv_iload_n hx hb d_Al_remove_0 rfl (lv_at hl 1 rfl) ?_
  refine lv_aload_n hx hb d_Al_remove_1 rfl (lv_at hl 0 rfl) ?_
  refine hb_get hx hb hts hown hC_Al hK hP ht 1 (by decide) rfl fl_Al_48 rfl d_Al_remove_2 ?_
  refine hb_callS (rest := []) hX hts hb_gd Y_Obs_checkIndex (c_Obs_checkIndex hE M (nI j) (nI (k + 1)) (nI_pos (by omega)) (nI_lt hj (by omega))) ml_Al_118 st_Obs_checkIndex hz hP hD hS hA rfl hl.1 rfl (Nat.le_of_ble_eq_true rfl) ⟨Nat.le_of_ble_eq_true rfl, Nat.le_of_ble_eq_true rfl⟩ ⟨Nat.le_of_ble_eq_true rfl, Nat.le_of_ble_eq_true rfl⟩ d_Al_remove_5 (fun v3 M1 H locs hq2 hP hD hS _ hkp => ?_)
  obtain ⟨ev4, eM5⟩ := hq2
  subst ev4
  rw [eM5] at hP hD
  refine W.eq (g2 := F0 m 8 ls [.int (nI j)]) rfl ?_
  refine lv_pop hx hb d_Al_remove_8 rfl ?_
  refine lv_aload_n hx hb d_Al_remove_9 rfl (lv_at hl 0 rfl) ?_
  refine hb_get hx hb hts hown hC_Al hK hP ht 0 (by decide) rfl fl_Al_9 rfl d_Al_remove_10 ?_
  refine lv_astore_n (lv' := [(2, .ref ar), (0, .ref t), (1, .int (nI j))]) hx hb d_Al_remove_13 rfl hl (by decide) rfl (fun ls hl => ?_)
  refine lv_aload_n hx hb d_Al_remove_14 rfl (lv_at hl 0 rfl) ?_
  refine lv_iload_n hx hb d_Al_remove_15 rfl (lv_at hl 2 rfl) ?_
  refine va_aldq hx hb hK (hP.one har) 0 2 rfl rfl (vp_in_nI (by omega) (by omega)) d_Al_remove_16 ?_
  refine W.eq (g2 := F0 m 17 ls [.ref x]) (by rw [nI_clamp (show j < 2 ^ 31 by omega), hx0]; rfl) ?_
  refine lv_astore_n (lv' := [(3, .ref x), (2, .ref ar), (0, .ref t), (1, .int (nI j))]) hx hb d_Al_remove_17 rfl hl (by decide) rfl (fun ls hl => ?_)
  refine lv_aload_n hx hb d_Al_remove_18 rfl (lv_at hl 2 rfl) ?_
  refine lv_aload_n hx hb d_Al_remove_19 rfl (lv_at hl 1 rfl) ?_
  refine lv_iload_n hx hb d_Al_remove_20 rfl (lv_at hl 3 rfl) ?_
  refine hb_callV (rest := []) hX hts hb_gd Y_Al_fastRemove (c_Al_fastRemove hE M t ar j k cap md f hj hn hc hels ht har) ml_Al_144 im_Al_fastRemove se_Al_fastRemove hK ht hC_Al.1 hz hP hD hS hA rfl hl.1 rfl (Nat.le_of_ble_eq_true rfl) ⟨Nat.le_of_ble_eq_true rfl, Nat.le_of_ble_eq_true rfl⟩ ⟨Nat.le_of_ble_eq_true rfl, Nat.le_of_ble_eq_true rfl⟩ d_Al_remove_21 (fun v8 M6 H locs hq7 hP hD hS _ hkp => ?_)
  obtain ⟨ev9, hq9⟩ := hq7
  subst ev9
  refine W.eq (g2 := F0 m 24 ls []) rfl ?_
  refine lv_aload_n hx hb d_Al_remove_24 rfl (lv_at hl 0 rfl) ?_
  exact hb_aret hAe hx hb hr (Or.inl ⟨_, rfl⟩) (Or.inr ⟨_, rfl⟩) hlocks hP hD hS (Nat.le_of_ble_eq_true rfl) (Nat.le_of_ble_eq_true rfl) (⟨rfl, hq9⟩) d_Al_remove_25
set_option maxHeartbeats 4000000 in
set_option maxRecDepth 100000 in
/-- ArraysSupport.newLength -/
theorem c_Sup_newLength {l : Launch} {s0 : State} {D : va_G} {cI cJ cO : ClassId} {e0 mi : Nat} (hE : hb_E l s0 D cI cJ cO e0 mi) (M : hb_M) (o mn pf : Nat) (ho : o ≤ 100) (hm : 0 < mn) (hm2 : mn ≤ 100) (hp2 : pf ≤ 100) : hb_Met l D hb_cl s0 y_Sup_newLength b_Sup_newLength 4 (some .int) { frames := 1, cells := 0, slots := 0, locals := 20 } [.int (nI o), .int (nI mn), .int (nI pf)] M (fun v M1 => v = some (.int (nI (o + max mn pf))) ∧ M1 = M) := by
  refine hb_Met.of (by decide) (Nat.le_of_ble_eq_true rfl) ?_
  intro p e s m below meth c A hAe hX hz hP hD hA hS ls hl
  obtain ⟨hx, hb, hr, hml, hown, hlocks, hnm, hG, hnh⟩ := id hX
  have hown : s.vm.findClass "jdk/internal/util/ArraysSupport" = some m.cls := hown
  have hts := hE.ts hG ([.int (nI o), .int (nI mn), .int (nI pf)] : List Value).toArray
  have hK := hE.kn hG
  have hl : lv_has ls 4 [(0, .int (nI o)), (1, .int (nI mn)), (2, .int (nI pf))] := hl
  refine lv_iload_n hx hb d_Sup_newLength_0 rfl (lv_at hl 0 rfl) ?_
  refine lv_iload_n hx hb d_Sup_newLength_1 rfl (lv_at hl 1 rfl) ?_
  refine lv_iload_n hx hb d_Sup_newLength_2 rfl (lv_at hl 2 rfl) ?_
  refine va_mmax hx hb (by rw [hml]; exact hl.1.symm) hown (hts _ ml_Sup_194) (hts _ st_Mth_max) (hts _ in_Mth) (hts _ cd_Mth_max) (Nat.le_of_ble_eq_true rfl) (Nat.le_of_ble_eq_true rfl) (Nat.le_of_ble_eq_true rfl) (Nat.le_of_ble_eq_true rfl) d_Sup_newLength_3 ?_
  refine lv_iadd hx hb d_Sup_newLength_6 ?_
  refine W.eq (g2 := F0 m 7 ls [.int (nI (o + max mn pf))]) (by rw [hb_mx (by omega) (by omega), nI_add]) ?_
  refine lv_istore_n (lv' := [(3, .int (nI (o + max mn pf))), (0, .int (nI o)), (1, .int (nI mn)), (2, .int (nI pf))]) hx hb d_Sup_newLength_7 rfl hl (by decide) rfl (fun ls hl => ?_)
  refine lv_iconst (v := 0) hx hb d_Sup_newLength_8 (by decide) ?_
  refine lv_iload_n hx hb d_Sup_newLength_9 rfl (lv_at hl 0 rfl) ?_
  refine lv_icmp_ge (tgt := 21) hx hb d_Sup_newLength_10 (by decide) (fun c1 => ?_) (fun c1 => ?_)
  · skip
    have c1n := hb_ngti c1
    exact absurd c1 (nI_nle (by omega) (by omega))
  · skip
    have c1n := hb_gti c1
    refine lv_iload_n hx hb d_Sup_newLength_13 rfl (lv_at hl 0 rfl) ?_
    refine lv_ldc (v := 2147483639) hx hb hown (hts _ kc_Sup_200) d_Sup_newLength_14 ?_
    refine lv_icmp_gt (tgt := 21) hx hb d_Sup_newLength_16 (by decide) (fun c2 => ?_) (fun c2 => ?_)
    · skip
      exact absurd c2 (by rw [show (2147483639 : Int32) = nI 2147483639 from rfl]; exact nI_nlt (by omega) (by omega))
    · skip
      refine lv_iload_n hx hb d_Sup_newLength_19 rfl (lv_at hl 0 rfl) ?_
      exact hb_iret hAe hx hb hr hlocks hP hD hS (Nat.le_of_ble_eq_true rfl) (Nat.le_of_ble_eq_true rfl) (⟨rfl, rfl⟩) d_Sup_newLength_20
set_option maxHeartbeats 4000000 in
set_option maxRecDepth 100000 in
/-- Arrays.copyOf(es, N, Object[].class) -/
theorem c_Ars_copyOf2 {l : Launch} {s0 : State} {D : va_G} {cI cJ cO : ClassId} {e0 mi : Nat} (hE : hb_E l s0 D cI cJ cO e0 mi) (M : hb_M) (ar n0 N : Nat) (f : Nat → Option Nat) (hn : n0 ≤ N) (hN : N ≤ 100) (hels : hb_els M f n0) (har : M ar = some (hb_ar cO n0 f)) : hb_Met l D hb_cl s0 y_Ars_copyOf2 b_Ars_copyOf2 4 (some (.array (.object "java/lang/Object"))) { frames := 1, cells := 1, slots := 100, locals := 60 } [.ref ar, .int (nI N), .ref mi] M (fun v M1 => ∃ q g, v = some (.ref q) ∧ M q = none ∧ M1 = hb_up M q (hb_ar cO N g) ∧ ∀ i, i < n0 → g i = f i) := by
  refine hb_Met.of (by decide) (Nat.le_of_ble_eq_true rfl) ?_
  intro p e s m below meth c A hAe hX hz hP hD hA hS ls hl
  obtain ⟨hx, hb, hr, hml, hown, hlocks, hnm, hG, hnh⟩ := id hX
  have hown : s.vm.findClass "java/util/Arrays" = some m.cls := hown
  have hts := hE.ts hG ([.ref ar, .int (nI N), .ref mi] : List Value).toArray
  have hK := hE.kn hG
  have hl : lv_has ls 4 [(0, .ref ar), (1, .int (nI N)), (2, .ref mi)] := hl
  refine lv_aload_n hx hb d_Ars_copyOf2_0 rfl (lv_at hl 2 rfl) ?_
  refine va_ldcM hx hb hown (hts _ kl_Ars_110) (hE.mo hG) d_Ars_copyOf2_1 ?_
  refine lv_acmp_ne (rx := some mi) (ry := some mi) (tgt := 13) hx hb d_Ars_copyOf2_3 (by decide) (fun c1 => ?_) (fun c1 => ?_)
  · skip
    exact absurd rfl c1
  · skip
    refine lv_iload_n hx hb d_Ars_copyOf2_6 rfl (lv_at hl 1 rfl) ?_
    refine hb_newq (N' := N) hx hb hts hown kl_Ars_2 (hE.ao hG) hK hP hD hS hA (nI_pos (by omega)) (nI_clamp (by omega)) (by omega) (Nat.le_of_ble_eq_true rfl) (show 0 + N ≤ 100 by omega) d_Ars_copyOf2_7 (fun q2 M3 H hq5 ha6 eM4 hP hD hS => ?_)
    refine W.widen (k := 1) (n := 100) (Nat.le_of_ble_eq_true rfl) (by omega) ?_
    have f7 : M3 q2 = some (.inl (cO, N, .inr (.inr (.inr (.inr (fun _ => none)))))) := by rw [eM4]; exact hb_up_self
    have f8 : M3 ar = some (.inl (cO, n0, .inr (.inr (.inr (.inr f))))) := by rw [eM4, hb_up_ne (fun q9 => by rw [q9, hq5] at har; cases har)]; exact har
    refine lv_goto (tgt := 24) hx hb d_Ars_copyOf2_10 (by decide) ?_
    refine lv_astore_n (lv' := [(3, .ref q2), (0, .ref ar), (1, .int (nI N)), (2, .ref mi)]) hx hb d_Ars_copyOf2_24 rfl hl (by decide) rfl (fun ls hl => ?_)
    refine lv_aload_n hx hb d_Ars_copyOf2_25 rfl (lv_at hl 1 rfl) ?_
    refine lv_iconst (v := 0) hx hb d_Ars_copyOf2_26 (by decide) ?_
    refine lv_aload_n hx hb d_Ars_copyOf2_27 rfl (lv_at hl 0 rfl) ?_
    refine lv_iconst (v := 0) hx hb d_Ars_copyOf2_28 (by decide) ?_
    refine lv_aload_n hx hb d_Ars_copyOf2_29 rfl (lv_at hl 1 rfl) ?_
    refine va_alen (v := nI n0) hx hb hK (hP.one f8) 0 2 rfl rfl rfl d_Ars_copyOf2_30 ?_
    refine lv_iload_n hx hb d_Ars_copyOf2_31 rfl (lv_at hl 2 rfl) ?_
    refine va_mmin hx hb (by rw [hml]; exact hl.1.symm) hown (hts _ ml_Ars_304) (hts _ st_Mth_min1) (hts _ in_Mth) (hts _ cd_Mth_min1) (Nat.le_of_ble_eq_true rfl) (Nat.le_of_ble_eq_true rfl) (Nat.le_of_ble_eq_true rfl) (Nat.le_of_ble_eq_true rfl) d_Ars_copyOf2_32 ?_
    refine W.eq (g2 := F0 m 35 ls [.int (nI n0), .int 0, .ref q2, .int 0, .ref ar]) (by rw [if_neg (nI_nlt hn (by omega))]) ?_
    have hels1 := hels.new eM4 hq5
    refine hb_copyq hx hb (by rw [hml]; exact hl.1.symm) hts hown ml_Ars_150 nv_arraycopy st_arraycopy in_Sys hK hP hD hS f8 f7 (by decide) (by decide) (nI_pos (by omega)) (by rw [sb_cl0, nI_clamp (by omega)]; omega) (by rw [sb_cl0, nI_clamp (by omega)]; omega) (fun i hi y hy => hels1.any hE hG hP (i := i) (by rw [nI_clamp (by omega)] at hi; exact hi) (by rw [sb_cl0, Nat.zero_add] at hy; exact hy)) (Nat.le_of_ble_eq_true rfl) (Nat.le_of_ble_eq_true rfl) d_Ars_copyOf2_35 (fun M9 H locs eM10 hP hD hS => ?_)
    have f11 : M9 q2 = some (.inl (cO, N, .inr (.inr (.inr (.inr (va_cpy f (fun _ => none) (0 : Int32).toNatClampNeg (0 : Int32).toNatClampNeg (nI n0).toNatClampNeg)))))) := by rw [eM10]; exact hb_up_self
    have f12 : M9 ar = some (.inl (cO, n0, .inr (.inr (.inr (.inr f))))) := by rw [eM10, hb_up_ne (fun q9 => by rw [q9, hq5] at har; cases har)]; exact f8
    refine lv_aload_n hx hb d_Ars_copyOf2_38 rfl (lv_at hl 0 rfl) ?_
    exact hb_aret hAe hx hb hr (Or.inr ⟨_, rfl⟩) (Or.inr ⟨_, rfl⟩) hlocks hP hD hS (Nat.le_of_ble_eq_true rfl) (Nat.le_of_ble_eq_true rfl) (⟨q2, _, rfl, hq5, by rw [eM10, eM4, hb_up_idem], fun i hi => by rw [sb_cl0, nI_clamp (show n0 < 2 ^ 31 by omega), pk_cpy_in (by omega) (by omega), Nat.zero_add, Nat.sub_zero]⟩) d_Ars_copyOf2_39
set_option maxHeartbeats 4000000 in
set_option maxRecDepth 100000 in
/-- Arrays.copyOf(es, N) -/
theorem c_Ars_copyOf1 {l : Launch} {s0 : State} {D : va_G} {cI cJ cO : ClassId} {e0 mi : Nat} (hE : hb_E l s0 D cI cJ cO e0 mi) (M : hb_M) (ar n0 N : Nat) (f : Nat → Option Nat) (hn : n0 ≤ N) (hN : N ≤ 100) (hels : hb_els M f n0) (har : M ar = some (hb_ar cO n0 f)) : hb_Met l D hb_cl s0 y_Ars_copyOf1 b_Ars_copyOf1 2 (some (.array (.object "java/lang/Object"))) { frames := 2, cells := 1, slots := 100, locals := 83 } [.ref ar, .int (nI N)] M (fun v M1 => ∃ q g, v = some (.ref q) ∧ M q = none ∧ M1 = hb_up M q (hb_ar cO N g) ∧ ∀ i, i < n0 → g i = f i) := by
  refine hb_Met.of (by decide) (Nat.le_of_ble_eq_true rfl) ?_
  intro p e s m below meth c A hAe hX hz hP hD hA hS ls hl
  obtain ⟨hx, hb, hr, hml, hown, hlocks, hnm, hG, hnh⟩ := id hX
  have hown : s.vm.findClass "java/util/Arrays" = some m.cls := hown
  have hts := hE.ts hG ([.ref ar, .int (nI N)] : List Value).toArray
  have hK := hE.kn hG
  have hl : lv_has ls 2 [(0, .ref ar), (1, .int (nI N))] := hl
  refine lv_aload_n hx hb d_Ars_copyOf1_0 rfl (lv_at hl 0 rfl) ?_
  refine lv_iload_n hx hb d_Ars_copyOf1_1 rfl (lv_at hl 1 rfl) ?_
  refine lv_aload_n hx hb d_Ars_copyOf1_2 rfl (lv_at hl 0 rfl) ?_
  refine va_getC (C := "[Ljava/lang/Object;") hx hb (by rw [hml]; exact hl.1.symm) hown (hts _ ml_Ars_86) (hE.dc hG).use (hts _ se_getClass_719) (hts _ im_getClass) (hts _ nv_getClass) (hE.mo hG) (hb_acell hK hP har) (Nat.le_of_ble_eq_true rfl) (Nat.le_of_ble_eq_true rfl) d_Ars_copyOf1_3 ?_
  refine hb_callS (rest := []) hX hts hb_gd Y_Ars_copyOf2 (c_Ars_copyOf2 hE M ar n0 N f hn hN hels har) ml_Ars_300 st_Ars_copyOf2 hz hP hD hS hA rfl hl.1 rfl (Nat.le_of_ble_eq_true rfl) ⟨Nat.le_of_ble_eq_true rfl, Nat.le_of_ble_eq_true rfl⟩ ⟨Nat.le_of_ble_eq_true rfl, Nat.le_of_ble_eq_true rfl⟩ d_Ars_copyOf1_6 (fun v3 M1 H locs hq2 hP hD hS _ hkp => ?_)
  obtain ⟨q4, hg9, ev9, hq9⟩ := hq2
  subst ev9
  refine W.eq (g2 := F0 m 9 ls [.ref q4]) rfl ?_
  exact hb_aret hAe hx hb hr (Or.inr ⟨_, rfl⟩) (Or.inr ⟨_, rfl⟩) hlocks hP hD hS (Nat.le_of_ble_eq_true rfl) (Nat.le_of_ble_eq_true rfl) (⟨q4, hg9, rfl, hq9⟩) d_Ars_copyOf1_9
