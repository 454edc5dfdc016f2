/-! ARRAYLIST: add(x), add(j, x) -/
theorem hb_ins_end {f : Nat → Option Nat} {n x i : Nat} (hi : i < n + 1) : va_up f n (some x) i = hb_ins f n x i := by
  unfold hb_ins va_up
  by_cases h : i = n
  · rw [if_pos h, if_neg (by omega), if_pos h]
  · rw [if_neg h, if_pos (by omega)]
theorem hb_ins_mid {f : Nat → Option Nat} {n j x i : Nat} (hj : j ≤ n) (hi : i < n + 1) : va_up (va_cpy f f j (j + 1) (n - j)) j (some x) i = hb_ins f j x i := by
  unfold hb_ins
  by_cases h : i < j
  · rw [if_pos h, va_up_ne _ _ (by omega), pk_cpy_out (Or.inl (by omega))]
  · rw [if_neg h]
    by_cases h2 : i = j
    · rw [if_pos h2, h2, va_up_self]
    · rw [if_neg h2, va_up_ne _ _ h2, pk_cpy_in (by omega) (by omega), show j + (i - (j + 1)) = i - 1 by omega]
theorem hb_ins_congr {f g : Nat → Option Nat} {n j x i : Nat} (h : ∀ i, i < n → g i = f i) (hj : j ≤ n) (hi : i < n + 1) : hb_ins g j x i = hb_ins f j x i := by
  unfold hb_ins
  by_cases h1 : i < j
  · rw [if_pos h1, if_pos h1, h i (by omega)]
  · rw [if_neg h1, if_neg h1]
    by_cases h2 : i = j
    · rw [if_pos h2, if_pos h2]
    · rw [if_neg h2, if_neg h2, h (i - 1) (by omega)]
theorem hb_els.off {M M1 : hb_M} {f : Nat → Option Nat} {n q t : Nat} {fs : List Value} (h : hb_els M f n) (ho : hb_off [q, t] M M1) (hq : M q = none) (ht : M t = some (.inr (3, fs))) : hb_els M1 f n := by
  intro i hi
  obtain ⟨y, ci, fs2, a1, a2, a3⟩ := h i hi
  refine ⟨y, ci, fs2, a1, ?_, a3⟩
  rw [ho y (hb_n2 (fun z => by rw [z, hq] at a2; cases a2) (fun z => by rw [z, ht] at a2; cases a2; rcases a3 with a3 | a3 <;> cases a3))]
  exact a2
theorem hb_els.congr {M : hb_M} {f g : Nat → Option Nat} {n : Nat} (h : hb_els M f n) (hg : ∀ i, i < n → g i = f i) : hb_els M g n := by
  intro i hi
  rw [hg i hi]
  exact h i hi
theorem hb_kpq {M M1 : hb_M} {q t ar : Nat} (h : hb_off [q, t] M M1) (hq : M q = none) : hb_kp [t, ar] M M1 := hb_kp.of_off h (fun z hz => by
  simp only [List.mem_cons, List.not_mem_nil, or_false] at hz
  rcases hz with rfl | rfl
  · exact Or.inr hq
  · exact Or.inl (by simp))
set_option maxHeartbeats 4000000 in
set_option maxRecDepth 100000 in
/-- ArrayList.add(x, es, s), case a -/
theorem c_Al_add2_a {l : Launch} {s0 : State} {D : va_G} {cI cJ cO : ClassId} {e0 mi : Nat} (hE : hb_E l s0 D cI cJ cO e0 mi) (M : hb_M) (t ar cap n : Nat) (md : Int32) (f : Nat → Option Nat) (hn : n < cap) (hc : cap ≤ 100) (x ci : Nat) (xs : List Value) (hx1 : M x = some (.inr (ci, xs))) (hci : ci = 0 ∨ ci = 1) (ht : M t = some (.inr (3, [.ref ar, .int (nI n), .int md]))) (har : M ar = some (hb_ar cO cap f)) : hb_Met l D hb_cl s0 y_Al_add2 b_Al_add2 4 none { frames := 5, cells := 1, slots := 100, locals := 147 } [.ref t, .ref x, .ref ar, .int (nI n)] M (fun v M1 => v = none ∧ hb_added cO M M1 t ar n md f n x) := by
  refine hb_Met.of (by decide) (Nat.le_of_ble_eq_true rfl) ?_
  intro p e s m below meth c A hAe hX hz hP hD hA hS ls hl
  obtain ⟨hx, hb, hr, hml, hown, hlocks, hnm, hG, hnh⟩ := id hX
  have hown : s.vm.findClass "java/util/ArrayList" = some m.cls := hown
  have hts := hE.ts hG ([.ref t, .ref x, .ref ar, .int (nI n)] : List Value).toArray
  have hK := hE.kn hG
  have hl : lv_has ls 4 [(0, .ref t), (1, .ref x), (2, .ref ar), (3, .int (nI n))] := hl
  refine lv_iload_n hx hb d_Al_add2_0 rfl (lv_at hl 3 rfl) ?_
  refine lv_aload_n hx hb d_Al_add2_1 rfl (lv_at hl 2 rfl) ?_
  refine va_alen (v := nI cap) hx hb hK (hP.one har) 0 2 rfl rfl rfl d_Al_add2_2 ?_
  refine lv_icmp_ne (tgt := 11) hx hb d_Al_add2_3 (by decide) (fun c1 => ?_) (fun c1 => ?_)
  · skip
    refine lv_aload_n hx hb d_Al_add2_11 rfl (lv_at hl 2 rfl) ?_
    refine lv_iload_n hx hb d_Al_add2_12 rfl (lv_at hl 3 rfl) ?_
    refine lv_aload_n hx hb d_Al_add2_13 rfl (lv_at hl 1 rfl) ?_
    refine hb_astq hx hb hK hP hD hS har (hb_any hE hG hP hx1 hci) (vp_in_nI (by omega) (by omega)) d_Al_add2_14 (fun M2 H locs eM3 hP hD hS => ?_)
    have f4 : M2 ar = some (.inl (cO, cap, .inr (.inr (.inr (.inr (va_up f (nI n).toNatClampNeg (some x))))))) := by rw [eM3]; exact hb_up_self
    have f5 : M2 t = some (.inr (3, [.ref ar, .int (nI n), .int md])) := by rw [eM3, hb_up_ne (fun q9 => by rw [q9, har] at ht; cases ht)]; exact ht
    have f6 : M2 x = some (.inr (ci, xs)) := by rw [eM3, hb_up_ne (fun q9 => by rw [q9, har] at hx1; cases hx1)]; exact hx1
    refine lv_aload_n hx hb d_Al_add2_15 rfl (lv_at hl 0 rfl) ?_
    refine lv_iload_n hx hb d_Al_add2_16 rfl (lv_at hl 3 rfl) ?_
    refine lv_iconst (v := 1) hx hb d_Al_add2_17 (by decide) ?_
    refine lv_iadd hx hb d_Al_add2_18 ?_
    refine W.eq (g2 := F0 m 19 ls [.int (nI (n + 1)), .ref t]) (by rw [nI_1]) ?_
    refine hb_put (ty := .int) hx hb hts hown hC_Al hK hP hD hS f5 1 (by decide) rfl fl_Al_48 rfl rfl rfl rfl (Nat.le_of_ble_eq_true rfl) d_Al_add2_19 (fun M7 H locs eM8 hP hD hS => ?_)
    have f9 : M7 t = some (.inr (3, [.ref ar, .int (nI (n + 1)), .int md])) := by rw [eM8]; exact hb_up_self
    have f10 : M7 ar = some (.inl (cO, cap, .inr (.inr (.inr (.inr (va_up f (nI n).toNatClampNeg (some x))))))) := by rw [eM8, hb_up_ne (fun q9 => by rw [q9, f5] at f4; cases f4)]; exact f4
    have f11 : M7 x = some (.inr (ci, xs)) := by rw [eM8, hb_up_ne (fun q9 => by rw [q9, ht] at hx1; cases hx1; rcases hci with hci | hci <;> cases hci)]; exact f6
    exact hb_vret hAe hx hb hr hlocks hP hD hS (Nat.le_of_ble_eq_true rfl) (Nat.le_of_ble_eq_true rfl) (⟨rfl, ar, cap, _, f9, f10, by omega, hc, Or.inl rfl, fun i hi => by rw [nI_clamp (show n < 2 ^ 31 by omega)]; exact hb_ins_end hi, hb_off.kp ((hb_off.rf.up (by simp) eM3).up (by simp) eM8)⟩) d_Al_add2_22
  · skip
    exact absurd ((nI_eq (by omega) (by omega)).mp c1) (by omega)
set_option maxHeartbeats 4000000 in
set_option maxRecDepth 100000 in
/-- ArrayList.add(x, es, s), case f -/
theorem c_Al_add2_f {l : Launch} {s0 : State} {D : va_G} {cI cJ cO : ClassId} {e0 mi : Nat} (hE : hb_E l s0 D cI cJ cO e0 mi) (M : hb_M) (t ar n : Nat) (md : Int32) (f : Nat → Option Nat) (h0 : 0 < n) (hc : n ≤ 66) (hels : hb_els M f n) (x ci : Nat) (xs : List Value) (hx1 : M x = some (.inr (ci, xs))) (hci : ci = 0 ∨ ci = 1) (ht : M t = some (.inr (3, [.ref ar, .int (nI n), .int md]))) (har : M ar = some (hb_ar cO n f)) : hb_Met l D hb_cl s0 y_Al_add2 b_Al_add2 4 none { frames := 5, cells := 1, slots := 100, locals := 147 } [.ref t, .ref x, .ref ar, .int (nI n)] M (fun v M1 => v = none ∧ hb_added cO M M1 t ar n md f n x) := by
  refine hb_Met.of (by decide) (Nat.le_of_ble_eq_true rfl) ?_
  intro p e s m below meth c A hAe hX hz hP hD hA hS ls hl
  obtain ⟨hx, hb, hr, hml, hown, hlocks, hnm, hG, hnh⟩ := id hX
  have hown : s.vm.findClass "java/util/ArrayList" = some m.cls := hown
  have hts := hE.ts hG ([.ref t, .ref x, .ref ar, .int (nI n)] : List Value).toArray
  have hK := hE.kn hG
  have hl : lv_has ls 4 [(0, .ref t), (1, .ref x), (2, .ref ar), (3, .int (nI n))] := hl
  refine lv_iload_n hx hb d_Al_add2_0 rfl (lv_at hl 3 rfl) ?_
  refine lv_aload_n hx hb d_Al_add2_1 rfl (lv_at hl 2 rfl) ?_
  refine va_alen (v := nI n) hx hb hK (hP.one har) 0 2 rfl rfl rfl d_Al_add2_2 ?_
  refine lv_icmp_ne (tgt := 11) hx hb d_Al_add2_3 (by decide) (fun c1 => ?_) (fun c1 => ?_)
  · skip
    exact absurd rfl c1
  · skip
    refine lv_aload_n hx hb d_Al_add2_6 rfl (lv_at hl 0 rfl) ?_
    refine hb_callV (rest := []) hX hts hb_gd Y_Al_grow1 (c_Al_grow1_a hE M t ar n md f h0 hc hels ht har) ml_Al_129 im_Al_grow1 se_Al_grow1 hK ht hC_Al.1 hz hP hD hS hA rfl hl.1 rfl (Nat.le_of_ble_eq_true rfl) ⟨Nat.le_of_ble_eq_true rfl, Nat.le_of_ble_eq_true rfl⟩ ⟨Nat.le_of_ble_eq_true rfl, Nat.le_of_ble_eq_true rfl⟩ d_Al_add2_7 (fun v4 M2 H locs hq3 hP hD hS _ hkp => ?_)
    obtain ⟨q5, g9, ev9, hqn, fq9, ft9, ho9, hg9⟩ := hq3
    subst ev9
    have fx9 : M2 x = some (.inr (ci, xs)) := ho9.at (hb_n2 (fun q9 => by rw [q9, hqn] at hx1; cases hx1) (fun q9 => by rw [q9, ht] at hx1; cases hx1; rcases hci with hci | hci <;> cases hci)) hx1
    refine W.eq (g2 := F0 m 10 ls [.ref q5]) rfl ?_
    refine lv_astore_n (lv' := [(2, .ref q5), (0, .ref t), (1, .ref x), (3, .int (nI n))]) hx hb d_Al_add2_10 rfl hl (by decide) rfl (fun ls hl => ?_)
    refine lv_aload_n hx hb d_Al_add2_11 rfl (lv_at hl 0 rfl) ?_
    refine lv_iload_n hx hb d_Al_add2_12 rfl (lv_at hl 3 rfl) ?_
    refine lv_aload_n hx hb d_Al_add2_13 rfl (lv_at hl 2 rfl) ?_
    refine hb_astq hx hb hK hP hD hS fq9 (hb_any hE hG hP fx9 hci) (vp_in_nI (by omega) (by omega)) d_Al_add2_14 (fun M6 H locs eM7 hP hD hS => ?_)
    have f8 : M6 q5 = some (.inl (cO, (n + max 1 (n / 2)), .inr (.inr (.inr (.inr (va_up g9 (nI n).toNatClampNeg (some x))))))) := by rw [eM7]; exact hb_up_self
    have f9 : M6 t = some (.inr (3, [.ref q5, .int (nI n), .int md])) := by rw [eM7, hb_up_ne (fun q9 => by rw [q9, fq9] at ft9; cases ft9)]; exact ft9
    have f10 : M6 x = some (.inr (ci, xs)) := by rw [eM7, hb_up_ne (fun q9 => by rw [q9, fq9] at fx9; cases fx9)]; exact fx9
    refine lv_aload_n hx hb d_Al_add2_15 rfl (lv_at hl 1 rfl) ?_
    refine lv_iload_n hx hb d_Al_add2_16 rfl (lv_at hl 3 rfl) ?_
    refine lv_iconst (v := 1) hx hb d_Al_add2_17 (by decide) ?_
    refine lv_iadd hx hb d_Al_add2_18 ?_
    refine W.eq (g2 := F0 m 19 ls [.int (nI (n + 1)), .ref t]) (by rw [nI_1]) ?_
    refine hb_put (ty := .int) hx hb hts hown hC_Al hK hP hD hS f9 1 (by decide) rfl fl_Al_48 rfl rfl rfl rfl (Nat.le_of_ble_eq_true rfl) d_Al_add2_19 (fun M11 H locs eM12 hP hD hS => ?_)
    have f13 : M11 t = some (.inr (3, [.ref q5, .int (nI (n + 1)), .int md])) := by rw [eM12]; exact hb_up_self
    have f14 : M11 q5 = some (.inl (cO, (n + max 1 (n / 2)), .inr (.inr (.inr (.inr (va_up g9 (nI n).toNatClampNeg (some x))))))) := by rw [eM12, hb_up_ne (fun q9 => by rw [q9, f9] at f8; cases f8)]; exact f8
    have f15 : M11 x = some (.inr (ci, xs)) := by rw [eM12, hb_up_ne (fun q9 => by rw [q9, ft9] at fx9; cases fx9; rcases hci with hci | hci <;> cases hci)]; exact f10
    exact hb_vret hAe hx hb hr hlocks hP hD hS (Nat.le_of_ble_eq_true rfl) (Nat.le_of_ble_eq_true rfl) (⟨rfl, q5, _, _, f13, f14, by omega, by omega, Or.inr hqn, fun i hi => by rw [nI_clamp (show n < 2 ^ 31 by omega), hb_ins_end hi]; exact hb_ins_congr hg9 (Nat.le_refl _) hi, hb_kpq (((hb_off.rf.tr ho9 (by simp)).up (by simp) eM7).up (by simp) eM12) hqn⟩) d_Al_add2_22
set_option maxHeartbeats 4000000 in
set_option maxRecDepth 100000 in
/-- ArrayList.add(x, es, s), case e -/
theorem c_Al_add2_e {l : Launch} {s0 : State} {D : va_G} {cI cJ cO : ClassId} {e0 mi : Nat} (hE : hb_E l s0 D cI cJ cO e0 mi) (M : hb_M) (t : Nat) (md : Int32) (f : Nat → Option Nat) (x ci : Nat) (xs : List Value) (hx1 : M x = some (.inr (ci, xs))) (hci : ci = 0 ∨ ci = 1) (ht : M t = some (.inr (3, [.ref e0, .int (nI 0), .int md]))) : hb_Met l D hb_cl s0 y_Al_add2 b_Al_add2 4 none { frames := 5, cells := 1, slots := 100, locals := 147 } [.ref t, .ref x, .ref e0, .int (nI 0)] M (fun v M1 => v = none ∧ hb_added cO M M1 t e0 0 md f 0 x) := by
  refine hb_Met.of (by decide) (Nat.le_of_ble_eq_true rfl) ?_
  intro p e s m below meth c A hAe hX hz hP hD hA hS ls hl
  obtain ⟨hx, hb, hr, hml, hown, hlocks, hnm, hG, hnh⟩ := id hX
  have hown : s.vm.findClass "java/util/ArrayList" = some m.cls := hown
  have hts := hE.ts hG ([.ref t, .ref x, .ref e0, .int (nI 0)] : List Value).toArray
  have hK := hE.kn hG
  have hl : lv_has ls 4 [(0, .ref t), (1, .ref x), (2, .ref e0), (3, .int (nI 0))] := hl
  refine lv_iload_n hx hb d_Al_add2_0 rfl (lv_at hl 3 rfl) ?_
  refine lv_aload_n hx hb d_Al_add2_1 rfl (lv_at hl 2 rfl) ?_
  refine va_tlen (v := 0) hx hb (hE.et hG hz) hS rfl d_Al_add2_2 ?_
  refine lv_icmp_ne (tgt := 11) hx hb d_Al_add2_3 (by decide) (fun c1 => ?_) (fun c1 => ?_)
  · skip
    exact absurd rfl c1
  · skip
    refine lv_aload_n hx hb d_Al_add2_6 rfl (lv_at hl 0 rfl) ?_
    refine hb_callV (rest := []) hX hts hb_gd Y_Al_grow1 (c_Al_grow1_e hE M t md ht) ml_Al_129 im_Al_grow1 se_Al_grow1 hK ht hC_Al.1 hz hP hD hS hA rfl hl.1 rfl (Nat.le_of_ble_eq_true rfl) ⟨Nat.le_of_ble_eq_true rfl, Nat.le_of_ble_eq_true rfl⟩ ⟨Nat.le_of_ble_eq_true rfl, Nat.le_of_ble_eq_true rfl⟩ d_Al_add2_7 (fun v4 M2 H locs hq3 hP hD hS _ hkp => ?_)
    obtain ⟨q5, g9, ev9, hqn, fq9, ft9, ho9⟩ := hq3
    subst ev9
    have fx9 : M2 x = some (.inr (ci, xs)) := ho9.at (hb_n2 (fun q9 => by rw [q9, hqn] at hx1; cases hx1) (fun q9 => by rw [q9, ht] at hx1; cases hx1; rcases hci with hci | hci <;> cases hci)) hx1
    refine W.eq (g2 := F0 m 10 ls [.ref q5]) rfl ?_
    refine lv_astore_n (lv' := [(2, .ref q5), (0, .ref t), (1, .ref x), (3, .int (nI 0))]) hx hb d_Al_add2_10 rfl hl (by decide) rfl (fun ls hl => ?_)
    refine lv_aload_n hx hb d_Al_add2_11 rfl (lv_at hl 0 rfl) ?_
    refine lv_iload_n hx hb d_Al_add2_12 rfl (lv_at hl 3 rfl) ?_
    refine lv_aload_n hx hb d_Al_add2_13 rfl (lv_at hl 2 rfl) ?_
    refine hb_astq hx hb hK hP hD hS fq9 (hb_any hE hG hP fx9 hci) (vp_in_nI (by omega) (by omega)) d_Al_add2_14 (fun M6 H locs eM7 hP hD hS => ?_)
    have f8 : M6 q5 = some (.inl (cO, 10, .inr (.inr (.inr (.inr (va_up g9 (nI 0).toNatClampNeg (some x))))))) := by rw [eM7]; exact hb_up_self
    have f9 : M6 t = some (.inr (3, [.ref q5, .int (nI 0), .int md])) := by rw [eM7, hb_up_ne (fun q9 => by rw [q9, fq9] at ft9; cases ft9)]; exact ft9
    have f10 : M6 x = some (.inr (ci, xs)) := by rw [eM7, hb_up_ne (fun q9 => by rw [q9, fq9] at fx9; cases fx9)]; exact fx9
    refine lv_aload_n hx hb d_Al_add2_15 rfl (lv_at hl 1 rfl) ?_
    refine lv_iload_n hx hb d_Al_add2_16 rfl (lv_at hl 3 rfl) ?_
    refine lv_iconst (v := 1) hx hb d_Al_add2_17 (by decide) ?_
    refine lv_iadd hx hb d_Al_add2_18 ?_
    refine W.eq (g2 := F0 m 19 ls [.int (nI (0 + 1)), .ref t]) (by rw [nI_1]) ?_
    refine hb_put (ty := .int) hx hb hts hown hC_Al hK hP hD hS f9 1 (by decide) rfl fl_Al_48 rfl rfl rfl rfl (Nat.le_of_ble_eq_true rfl) d_Al_add2_19 (fun M11 H locs eM12 hP hD hS => ?_)
    have f13 : M11 t = some (.inr (3, [.ref q5, .int (nI (0 + 1)), .int md])) := by rw [eM12]; exact hb_up_self
    have f14 : M11 q5 = some (.inl (cO, 10, .inr (.inr (.inr (.inr (va_up g9 (nI 0).toNatClampNeg (some x))))))) := by rw [eM12, hb_up_ne (fun q9 => by rw [q9, f9] at f8; cases f8)]; exact f8
    have f15 : M11 x = some (.inr (ci, xs)) := by rw [eM12, hb_up_ne (fun q9 => by rw [q9, ft9] at fx9; cases fx9; rcases hci with hci | hci <;> cases hci)]; exact f10
    exact hb_vret hAe hx hb hr hlocks hP hD hS (Nat.le_of_ble_eq_true rfl) (Nat.le_of_ble_eq_true rfl) (⟨rfl, q5, _, _, f13, f14, by omega, by omega, Or.inr hqn, fun i hi => by rw [nI_clamp (show 0 < 2 ^ 31 by omega), hb_ins_end hi]; exact hb_ins_congr (fun i hi => absurd hi (by omega)) (Nat.le_refl _) hi, hb_kpq (((hb_off.rf.tr ho9 (by simp)).up (by simp) eM7).up (by simp) eM12) hqn⟩) d_Al_add2_22
set_option maxHeartbeats 4000000 in
set_option maxRecDepth 100000 in
/-- ArrayList.add(x), case a -/
theorem c_Al_add1_a {l : Launch} {s0 : State} {D : va_G} {cI cJ cO : ClassId} {e0 mi : Nat} (hE : hb_E l s0 D cI cJ cO e0 mi) (M : hb_M) (t ar cap n : Nat) (md : Int32) (f : Nat → Option Nat) (hn : n < cap) (hc : cap ≤ 100) (x ci : Nat) (xs : List Value) (hx1 : M x = some (.inr (ci, xs))) (hci : ci = 0 ∨ ci = 1) (ht : M t = some (.inr (3, [.ref ar, .int (nI n), .int md]))) (har : M ar = some (hb_ar cO cap f)) : hb_Met l D hb_cl s0 y_Al_add1 b_Al_add1 2 (some .boolean) { frames := 6, cells := 1, slots := 100, locals := 170 } [.ref t, .ref x] M (fun v M1 => v = some (.int 1) ∧ hb_added cO M M1 t ar n (md + 1) f n x) := by
  refine hb_Met.of (by decide) (Nat.le_of_ble_eq_true rfl) ?_
  intro p e s m below meth c A hAe hX hz hP hD hA hS ls hl
  obtain ⟨hx, hb, hr, hml, hown, hlocks, hnm, hG, hnh⟩ := id hX
  have hown : s.vm.findClass "java/util/ArrayList" = some m.cls := hown
  have hts := hE.ts hG ([.ref t, .ref x] : List Value).toArray
  have hK := hE.kn hG
  have hl : lv_has ls 2 [(0, .ref t), (1, .ref x)] := hl
  refine lv_aload_n hx hb d_Al_add1_0 rfl (lv_at hl 0 rfl) ?_
  refine lv_dup hx hb d_Al_add1_1 rfl ?_
  refine hb_getm hx hb hts hown hC_Al hK hP ht 2 (by decide) fl_Al_63 sf_modCount rfl d_Al_add1_2 ?_
  refine lv_iconst (v := 1) hx hb d_Al_add1_5 (by decide) ?_
  refine lv_iadd hx hb d_Al_add1_6 ?_
  refine hb_putm (ty := .int) hx hb hts hown hC_Al hK hP hD hS ht 2 (by decide) fl_Al_63 sf_modCount rfl rfl rfl rfl (Nat.le_of_ble_eq_true rfl) d_Al_add1_7 (fun M1 H locs eM2 hP hD hS => ?_)
  have f3 : M1 t = some (.inr (3, [.ref ar, .int (nI n), .int (md + 1)])) := by rw [eM2]; exact hb_up_self
  have f4 : M1 x = some (.inr (ci, xs)) := by rw [eM2, hb_up_ne (fun q9 => by rw [q9, ht] at hx1; cases hx1; rcases hci with hci | hci <;> cases hci)]; exact hx1
  have f5 : M1 ar = some (.inl (cO, cap, .inr (.inr (.inr (.inr f))))) := by rw [eM2, hb_up_ne (fun q9 => by rw [q9, ht] at har; cases har)]; exact har
  refine lv_aload_n hx hb d_Al_add1_10 rfl (lv_at hl 0 rfl) ?_
  refine lv_aload_n hx hb d_Al_add1_11 rfl (lv_at hl 1 rfl) ?_
  refine lv_aload_n hx hb d_Al_add1_12 rfl (lv_at hl 0 rfl) ?_
  refine hb_get hx hb hts hown hC_Al hK hP f3 0 (by decide) rfl fl_Al_9 rfl d_Al_add1_13 ?_
  refine lv_aload_n hx hb d_Al_add1_16 rfl (lv_at hl 0 rfl) ?_
  refine hb_get hx hb hts hown hC_Al hK hP f3 1 (by decide) rfl fl_Al_48 rfl d_Al_add1_17 ?_
  refine hb_callV (rest := []) hX hts hb_gd Y_Al_add2 (c_Al_add2_a hE M1 t ar cap n (md + 1) f hn hc x ci xs f4 hci f3 f5) ml_Al_131 im_Al_add2 se_Al_add2 hK f3 hC_Al.1 hz hP hD hS hA rfl hl.1 rfl (Nat.le_of_ble_eq_true rfl) ⟨Nat.le_of_ble_eq_true rfl, Nat.le_of_ble_eq_true rfl⟩ ⟨Nat.le_of_ble_eq_true rfl, Nat.le_of_ble_eq_true rfl⟩ d_Al_add1_20 (fun v8 M6 H locs hq7 hP hD hS _ hkp => ?_)
  obtain ⟨ev9, ar9, cap9, g9, a1, a2, a3, a4, a5, a6, a7⟩ := hq7
  subst ev9
  refine W.eq (g2 := F0 m 23 ls []) rfl ?_
  refine lv_iconst (v := 1) hx hb d_Al_add1_23 (by decide) ?_
  exact hb_zret hAe hx hb hr (by decide) hlocks hP hD hS (Nat.le_of_ble_eq_true rfl) (Nat.le_of_ble_eq_true rfl) (⟨rfl, ar9, cap9, g9, a1, a2, a3, a4, a5.imp id (fun h => by rw [eM2] at h; by_cases z : ar9 = t; rw [z, hb_up_self] at h; cases h; rw [hb_up_ne z] at h; exact h), a6, (hb_off.kp (hb_off.rf.up (by simp) eM2)).tr a7⟩) d_Al_add1_24
set_option maxHeartbeats 4000000 in
set_option maxRecDepth 100000 in
/-- ArrayList.add(x), case f -/
theorem c_Al_add1_f {l : Launch} {s0 : State} {D : va_G} {cI cJ cO : ClassId} {e0 mi : Nat} (hE : hb_E l s0 D cI cJ cO e0 mi) (M : hb_M) (t ar n : Nat) (md : Int32) (f : Nat → Option Nat) (h0 : 0 < n) (hc : n ≤ 66) (hels : hb_els M f n) (x ci : Nat) (xs : List Value) (hx1 : M x = some (.inr (ci, xs))) (hci : ci = 0 ∨ ci = 1) (ht : M t = some (.inr (3, [.ref ar, .int (nI n), .int md]))) (har : M ar = some (hb_ar cO n f)) : hb_Met l D hb_cl s0 y_Al_add1 b_Al_add1 2 (some .boolean) { frames := 6, cells := 1, slots := 100, locals := 170 } [.ref t, .ref x] M (fun v M1 => v = some (.int 1) ∧ hb_added cO M M1 t ar n (md + 1) f n x) := by
  refine hb_Met.of (by decide) (Nat.le_of_ble_eq_true rfl) ?_
  intro p e s m below meth c A hAe hX hz hP hD hA hS ls hl
  obtain ⟨hx, hb, hr, hml, hown, hlocks, hnm, hG, hnh⟩ := id hX
  have hown : s.vm.findClass "java/util/ArrayList" = some m.cls := hown
  have hts := hE.ts hG ([.ref t, .ref x] : List Value).toArray
  have hK := hE.kn hG
  have hl : lv_has ls 2 [(0, .ref t), (1, .ref x)] := hl
  refine lv_aload_n hx hb d_Al_add1_0 rfl (lv_at hl 0 rfl) ?_
  refine lv_dup hx hb d_Al_add1_1 rfl ?_
  refine hb_getm hx hb hts hown hC_Al hK hP ht 2 (by decide) fl_Al_63 sf_modCount rfl d_Al_add1_2 ?_
  refine lv_iconst (v := 1) hx hb d_Al_add1_5 (by decide) ?_
  refine lv_iadd hx hb d_Al_add1_6 ?_
  refine hb_putm (ty := .int) hx hb hts hown hC_Al hK hP hD hS ht 2 (by decide) fl_Al_63 sf_modCount rfl rfl rfl rfl (Nat.le_of_ble_eq_true rfl) d_Al_add1_7 (fun M1 H locs eM2 hP hD hS => ?_)
  have f3 : M1 t = some (.inr (3, [.ref ar, .int (nI n), .int (md + 1)])) := by rw [eM2]; exact hb_up_self
  have f4 : M1 x = some (.inr (ci, xs)) := by rw [eM2, hb_up_ne (fun q9 => by rw [q9, ht] at hx1; cases hx1; rcases hci with hci | hci <;> cases hci)]; exact hx1
  have f5 : M1 ar = some (.inl (cO, n, .inr (.inr (.inr (.inr f))))) := by rw [eM2, hb_up_ne (fun q9 => by rw [q9, ht] at har; cases har)]; exact har
  refine lv_aload_n hx hb d_Al_add1_10 rfl (lv_at hl 0 rfl) ?_
  refine lv_aload_n hx hb d_Al_add1_11 rfl (lv_at hl 1 rfl) ?_
  refine lv_aload_n hx hb d_Al_add1_12 rfl (lv_at hl 0 rfl) ?_
  refine hb_get hx hb hts hown hC_Al hK hP f3 0 (by decide) rfl fl_Al_9 rfl d_Al_add1_13 ?_
  refine lv_aload_n hx hb d_Al_add1_16 rfl (lv_at hl 0 rfl) ?_
  refine hb_get hx hb hts hown hC_Al hK hP f3 1 (by decide) rfl fl_Al_48 rfl d_Al_add1_17 ?_
  refine hb_callV (rest := []) hX hts hb_gd Y_Al_add2 (c_Al_add2_f hE M1 t ar n (md + 1) f h0 hc (hels.ne eM2 ht hb_ne3) x ci xs f4 hci f3 f5) ml_Al_131 im_Al_add2 se_Al_add2 hK f3 hC_Al.1 hz hP hD hS hA rfl hl.1 rfl (Nat.le_of_ble_eq_true rfl) ⟨Nat.le_of_ble_eq_true rfl, Nat.le_of_ble_eq_true rfl⟩ ⟨Nat.le_of_ble_eq_true rfl, Nat.le_of_ble_eq_true rfl⟩ d_Al_add1_20 (fun v8 M6 H locs hq7 hP hD hS _ hkp => ?_)
  obtain ⟨ev9, ar9, cap9, g9, a1, a2, a3, a4, a5, a6, a7⟩ := hq7
  subst ev9
  refine W.eq (g2 := F0 m 23 ls []) rfl ?_
  refine lv_iconst (v := 1) hx hb d_Al_add1_23 (by decide) ?_
  exact hb_zret hAe hx hb hr (by decide) hlocks hP hD hS (Nat.le_of_ble_eq_true rfl) (Nat.le_of_ble_eq_true rfl) (⟨rfl, ar9, cap9, g9, a1, a2, a3, a4, a5.imp id (fun h => by rw [eM2] at h; by_cases z : ar9 = t; rw [z, hb_up_self] at h; cases h; rw [hb_up_ne z] at h; exact h), a6, (hb_off.kp (hb_off.rf.up (by simp) eM2)).tr a7⟩) d_Al_add1_24
set_option maxHeartbeats 4000000 in
set_option maxRecDepth 100000 in
/-- ArrayList.add(x), case e -/
theorem c_Al_add1_e {l : Launch} {s0 : State} {D : va_G} {cI cJ cO : ClassId} {e0 mi : Nat} (hE : hb_E l s0 D cI cJ cO e0 mi) (M : hb_M) (t : Nat) (md : Int32) (f : Nat → Option Nat) (x ci : Nat) (xs : List Value) (hx1 : M x = some (.inr (ci, xs))) (hci : ci = 0 ∨ ci = 1) (ht : M t = some (.inr (3, [.ref e0, .int (nI 0), .int md]))) : hb_Met l D hb_cl s0 y_Al_add1 b_Al_add1 2 (some .boolean) { frames := 6, cells := 1, slots := 100, locals := 170 } [.ref t, .ref x] M (fun v M1 => v = some (.int 1) ∧ hb_added cO M M1 t e0 0 (md + 1) f 0 x) := by
  refine hb_Met.of (by decide) (Nat.le_of_ble_eq_true rfl) ?_
  intro p e s m below meth c A hAe hX hz hP hD hA hS ls hl
  obtain ⟨hx, hb, hr, hml, hown, hlocks, hnm, hG, hnh⟩ := id hX
  have hown : s.vm.findClass "java/util/ArrayList" = some m.cls := hown
  have hts := hE.ts hG ([.ref t, .ref x] : List Value).toArray
  have hK := hE.kn hG
  have hl : lv_has ls 2 [(0, .ref t), (1, .ref x)] := hl
  refine lv_aload_n hx hb d_Al_add1_0 rfl (lv_at hl 0 rfl) ?_
  refine lv_dup hx hb d_Al_add1_1 rfl ?_
  refine hb_getm hx hb hts hown hC_Al hK hP ht 2 (by decide) fl_Al_63 sf_modCount rfl d_Al_add1_2 ?_
  refine lv_iconst (v := 1) hx hb d_Al_add1_5 (by decide) ?_
  refine lv_iadd hx hb d_Al_add1_6 ?_
  refine hb_putm (ty := .int) hx hb hts hown hC_Al hK hP hD hS ht 2 (by decide) fl_Al_63 sf_modCount rfl rfl rfl rfl (Nat.le_of_ble_eq_true rfl) d_Al_add1_7 (fun M1 H locs eM2 hP hD hS => ?_)
  have f3 : M1 t = some (.inr (3, [.ref e0, .int (nI 0), .int (md + 1)])) := by rw [eM2]; exact hb_up_self
  have f4 : M1 x = some (.inr (ci, xs)) := by rw [eM2, hb_up_ne (fun q9 => by rw [q9, ht] at hx1; cases hx1; rcases hci with hci | hci <;> cases hci)]; exact hx1
  refine lv_aload_n hx hb d_Al_add1_10 rfl (lv_at hl 0 rfl) ?_
  refine lv_aload_n hx hb d_Al_add1_11 rfl (lv_at hl 1 rfl) ?_
  refine lv_aload_n hx hb d_Al_add1_12 rfl (lv_at hl 0 rfl) ?_
  refine hb_get hx hb hts hown hC_Al hK hP f3 0 (by decide) rfl fl_Al_9 rfl d_Al_add1_13 ?_
  refine lv_aload_n hx hb d_Al_add1_16 rfl (lv_at hl 0 rfl) ?_
  refine hb_get hx hb hts hown hC_Al hK hP f3 1 (by decide) rfl fl_Al_48 rfl d_Al_add1_17 ?_
  refine hb_callV (rest := []) hX hts hb_gd Y_Al_add2 (c_Al_add2_e hE M1 t (md + 1) f x ci xs f4 hci f3) ml_Al_131 im_Al_add2 se_Al_add2 hK f3 hC_Al.1 hz hP hD hS hA rfl hl.1 rfl (Nat.le_of_ble_eq_true rfl) ⟨Nat.le_of_ble_eq_true rfl, Nat.le_of_ble_eq_true rfl⟩ ⟨Nat.le_of_ble_eq_true rfl, Nat.le_of_ble_eq_true rfl⟩ d_Al_add1_20 (fun v7 M5 H locs hq6 hP hD hS _ hkp => ?_)
  obtain ⟨ev9, ar9, cap9, g9, a1, a2, a3, a4, a5, a6, a7⟩ := hq6
  subst ev9
  refine W.eq (g2 := F0 m 23 ls []) rfl ?_
  refine lv_iconst (v := 1) hx hb d_Al_add1_23 (by decide) ?_
  exact hb_zret hAe hx hb hr (by decide) hlocks hP hD hS (Nat.le_of_ble_eq_true rfl) (Nat.le_of_ble_eq_true rfl) (⟨rfl, ar9, cap9, g9, a1, a2, a3, a4, a5.imp id (fun h => by rw [eM2] at h; by_cases z : ar9 = t; rw [z, hb_up_self] at h; cases h; rw [hb_up_ne z] at h; exact h), a6, (hb_off.kp (hb_off.rf.up (by simp) eM2)).tr a7⟩) d_Al_add1_24
set_option maxHeartbeats 4000000 in
set_option maxRecDepth 100000 in
/-- ArrayList.rangeCheckForAdd(j), in range -/
theorem c_Al_rangeCheckForAdd {l : Launch} {s0 : State} {D : va_G} {cI cJ cO : ClassId} {e0 mi : Nat} (hE : hb_E l s0 D cI cJ cO e0 mi) (M : hb_M) (t : Nat) (r : Value) (j n : Nat) (md : Int32) (hj : j ≤ n) (hn : n ≤ 100) (ht : M t = some (.inr (3, [r, .int (nI n), .int md]))) : hb_Met l D hb_cl s0 y_Al_rangeCheckForAdd b_Al_rangeCheckForAdd 2 none { frames := 0, cells := 0, slots := 0, locals := 0 } [.ref t, .int (nI j)] M (fun v M1 => v = none ∧ M1 = M) := by
  refine hb_Met.of (by decide) (Nat.le_of_ble_eq_true rfl) ?_
  intro p e s m below meth c A hAe hX hz hP hD hA hS ls hl
  obtain ⟨hx, hb, hr, hml, hown, hlocks, hnm, hG, hnh⟩ := id hX
  have hown : s.vm.findClass "java/util/ArrayList" = some m.cls := hown
  have hts := hE.ts hG ([.ref t, .int (nI j)] : List Value).toArray
  have hK := hE.kn hG
  have hl : lv_has ls 2 [(0, .ref t), (1, .int (nI j))] := hl
  refine lv_iload_n hx hb d_Al_rangeCheckForAdd_0 rfl (lv_at hl 1 rfl) ?_
  refine lv_aload_n hx hb d_Al_rangeCheckForAdd_1 rfl (lv_at hl 0 rfl) ?_
  refine hb_get hx hb hts hown hC_Al hK hP ht 1 (by decide) rfl fl_Al_48 rfl d_Al_rangeCheckForAdd_2 ?_
  refine lv_icmp_gt (tgt := 12) hx hb d_Al_rangeCheckForAdd_5 (by decide) (fun c1 => ?_) (fun c1 => ?_)
  · skip
    exact absurd c1 (nI_nlt hj (by omega))
  · skip
    refine lv_iload_n hx hb d_Al_rangeCheckForAdd_8 rfl (lv_at hl 1 rfl) ?_
    refine lv_if_ge (tgt := 25) hx hb d_Al_rangeCheckForAdd_9 (by decide) (fun c2 => ?_) (fun c2 => ?_)
    · skip
      have c2n := hb_ngti c2
      exact hb_vret hAe hx hb hr hlocks hP hD hS (Nat.le_of_ble_eq_true rfl) (Nat.le_of_ble_eq_true rfl) (⟨rfl, rfl⟩) d_Al_rangeCheckForAdd_25
    · skip
      have c2n := hb_gti c2
      exact absurd (nI_pos' (by omega)) c2
set_option maxHeartbeats 4000000 in
set_option maxRecDepth 100000 in
/-- ArrayList.add(j, x), case a -/
theorem c_Al_add3_a {l : Launch} {s0 : State} {D : va_G} {cI cJ cO : ClassId} {e0 mi : Nat} (hE : hb_E l s0 D cI cJ cO e0 mi) (M : hb_M) (t ar cap n : Nat) (md : Int32) (f : Nat → Option Nat) (hn : n < cap) (hc : cap ≤ 100) (x ci : Nat) (xs : List Value) (hx1 : M x = some (.inr (ci, xs))) (hci : ci = 0 ∨ ci = 1) (ht : M t = some (.inr (3, [.ref ar, .int (nI n), .int md]))) (har : M ar = some (hb_ar cO cap f)) (hels : hb_els M f n) (j : Nat) (hj : j ≤ n) : hb_Met l D hb_cl s0 y_Al_add3 b_Al_add3 5 none { frames := 5, cells := 1, slots := 100, locals := 207 } [.ref t, .int (nI j), .ref x] M (fun v M1 => v = none ∧ hb_added cO M M1 t ar n (md + 1) f j x) := by
  refine hb_Met.of (by decide) (Nat.le_of_ble_eq_true rfl) ?_
  intro p e s m below meth c A hAe hX hz hP hD hA hS ls hl
  obtain ⟨hx, hb, hr, hml, hown, hlocks, hnm, hG, hnh⟩ := id hX
  have hown : s.vm.findClass "java/util/ArrayList" = some m.cls := hown
  have hts := hE.ts hG ([.ref t, .int (nI j), .ref x] : List Value).toArray
  have hK := hE.kn hG
  have hl : lv_has ls 5 [(0, .ref t), (1, .int (nI j)), (2, .ref x)] := hl
  refine lv_aload_n hx hb d_Al_add3_0 rfl (lv_at hl 0 rfl) ?_
  refine lv_iload_n hx hb d_Al_add3_1 rfl (lv_at hl 1 rfl) ?_
  refine hb_callV (rest := []) hX hts hb_gd Y_Al_rangeCheckForAdd (c_Al_rangeCheckForAdd hE M t (.ref ar) j n md hj (by omega) ht) ml_Al_135 im_Al_rangeCheckForAdd se_Al_rangeCheckForAdd hK ht hC_Al.1 hz hP hD hS hA rfl hl.1 rfl (Nat.le_of_ble_eq_true rfl) ⟨Nat.le_of_ble_eq_true rfl, Nat.le_of_ble_eq_true rfl⟩ ⟨Nat.le_of_ble_eq_true rfl, Nat.le_of_ble_eq_true rfl⟩ d_Al_add3_2 (fun v3 M1 H locs hq2 hP hD hS _ hkp => ?_)
  obtain ⟨ev4, eM5⟩ := hq2
  subst ev4
  rw [eM5] at hP hD
  refine W.eq (g2 := F0 m 5 ls []) rfl ?_
  refine lv_aload_n hx hb d_Al_add3_5 rfl (lv_at hl 0 rfl) ?_
  refine lv_dup hx hb d_Al_add3_6 rfl ?_
  refine hb_getm hx hb hts hown hC_Al hK hP ht 2 (by decide) fl_Al_63 sf_modCount rfl d_Al_add3_7 ?_
  refine lv_iconst (v := 1) hx hb d_Al_add3_10 (by decide) ?_
  refine lv_iadd hx hb d_Al_add3_11 ?_
  refine hb_putm (ty := .int) hx hb hts hown hC_Al hK hP hD hS ht 2 (by decide) fl_Al_63 sf_modCount rfl rfl rfl rfl (Nat.le_of_ble_eq_true rfl) d_Al_add3_12 (fun M6 H locs eM7 hP hD hS => ?_)
  have f8 : M6 t = some (.inr (3, [.ref ar, .int (nI n), .int (md + 1)])) := by rw [eM7]; exact hb_up_self
  have f9 : M6 x = some (.inr (ci, xs)) := by rw [eM7, hb_up_ne (fun q9 => by rw [q9, ht] at hx1; cases hx1; rcases hci with hci | hci <;> cases hci)]; exact hx1
  have f10 : M6 ar = some (.inl (cO, cap, .inr (.inr (.inr (.inr f))))) := by rw [eM7, hb_up_ne (fun q9 => by rw [q9, ht] at har; cases har)]; exact har
  refine lv_aload_n hx hb d_Al_add3_15 rfl (lv_at hl 0 rfl) ?_
  refine hb_get hx hb hts hown hC_Al hK hP f8 1 (by decide) rfl fl_Al_48 rfl d_Al_add3_16 ?_
  refine lv_dup hx hb d_Al_add3_19 rfl ?_
  refine lv_istore_n (lv' := [(3, .int (nI n)), (0, .ref t), (1, .int (nI j)), (2, .ref x)]) hx hb d_Al_add3_20 rfl hl (by decide) rfl (fun ls hl => ?_)
  refine lv_aload_n hx hb d_Al_add3_21 rfl (lv_at hl 1 rfl) ?_
  refine hb_get hx hb hts hown hC_Al hK hP f8 0 (by decide) rfl fl_Al_9 rfl d_Al_add3_22 ?_
  refine lv_dup hx hb d_Al_add3_25 rfl ?_
  refine lv_astore (lv' := [(4, .ref ar), (3, .int (nI n)), (0, .ref t), (1, .int (nI j)), (2, .ref x)]) hx hb d_Al_add3_26 hl (by decide) rfl (fun ls hl => ?_)
  refine va_alen (v := nI cap) hx hb hK (hP.one f10) 0 2 rfl rfl rfl d_Al_add3_28 ?_
  refine lv_icmp_ne (tgt := 38) hx hb d_Al_add3_29 (by decide) (fun c11 => ?_) (fun c11 => ?_)
  · skip
    refine lv_aload hx hb d_Al_add3_38 (lv_at hl 0 rfl) ?_
    refine lv_iload_n hx hb d_Al_add3_40 rfl (lv_at hl 3 rfl) ?_
    refine lv_aload hx hb d_Al_add3_41 (lv_at hl 0 rfl) ?_
    refine lv_iload_n hx hb d_Al_add3_43 rfl (lv_at hl 3 rfl) ?_
    refine lv_iconst (v := 1) hx hb d_Al_add3_44 (by decide) ?_
    refine lv_iadd hx hb d_Al_add3_45 ?_
    refine lv_iload_n hx hb d_Al_add3_46 rfl (lv_at hl 1 rfl) ?_
    refine lv_iload_n hx hb d_Al_add3_47 rfl (lv_at hl 3 rfl) ?_
    refine lv_isub hx hb d_Al_add3_48 ?_
    refine W.eq (g2 := F0 m 49 ls [.int (nI (n - j)), .int (nI (j + 1)), .ref ar, .int (nI j), .ref ar]) (by rw [pk_sub (by omega), nI_1]) ?_
    have hels1 := hels.ne eM7 ht hb_ne3
    refine hb_copyq hx hb (by rw [hml]; exact hl.1.symm) hts hown ml_Al_112 nv_arraycopy st_arraycopy in_Sys hK hP hD hS f10 f10 (nI_pos (by omega)) (nI_pos (by omega)) (nI_pos (by omega)) (by first | (rw [nI_clamp (by omega), nI_clamp (by omega)]; omega) | (rw [nI_clamp (by omega)]; omega)) (by first | (rw [nI_clamp (by omega), nI_clamp (by omega)]; omega) | (rw [nI_clamp (by omega)]; omega)) (fun i hi y hy => hels1.any hE hG hP (i := j + i) (by rw [nI_clamp (by omega)] at hi; omega) (by rw [nI_clamp (by omega)] at hy; exact hy)) (Nat.le_of_ble_eq_true rfl) (Nat.le_of_ble_eq_true rfl) d_Al_add3_49 (fun M12 H locs eM13 hP hD hS => ?_)
    have f14 : M12 ar = some (.inl (cO, cap, .inr (.inr (.inr (.inr (va_cpy f f (nI j).toNatClampNeg (nI (j + 1)).toNatClampNeg (nI (n - j)).toNatClampNeg)))))) := by rw [eM13]; exact hb_up_self
    have f15 : M12 t = some (.inr (3, [.ref ar, .int (nI n), .int (md + 1)])) := by rw [eM13, hb_up_ne (fun q9 => by rw [q9, f10] at f8; cases f8)]; exact f8
    have f16 : M12 x = some (.inr (ci, xs)) := by rw [eM13, hb_up_ne (fun q9 => by rw [q9, har] at hx1; cases hx1)]; exact f9
    refine lv_aload hx hb d_Al_add3_52 (lv_at hl 0 rfl) ?_
    refine lv_iload_n hx hb d_Al_add3_54 rfl (lv_at hl 3 rfl) ?_
    refine lv_aload_n hx hb d_Al_add3_55 rfl (lv_at hl 4 rfl) ?_
    refine hb_astq hx hb hK hP hD hS f14 (hb_any hE hG hP f16 hci) (vp_in_nI (by omega) (by omega)) d_Al_add3_56 (fun M17 H locs eM18 hP hD hS => ?_)
    have f19 : M17 ar = some (.inl (cO, cap, .inr (.inr (.inr (.inr (va_up (va_cpy f f (nI j).toNatClampNeg (nI (j + 1)).toNatClampNeg (nI (n - j)).toNatClampNeg) (nI j).toNatClampNeg (some x))))))) := by rw [eM18]; exact hb_up_self
    have f20 : M17 t = some (.inr (3, [.ref ar, .int (nI n), .int (md + 1)])) := by rw [eM18, hb_up_ne (fun q9 => by rw [q9, f14] at f15; cases f15)]; exact f15
    have f21 : M17 x = some (.inr (ci, xs)) := by rw [eM18, hb_up_ne (fun q9 => by rw [q9, har] at hx1; cases hx1)]; exact f16
    refine lv_aload_n hx hb d_Al_add3_57 rfl (lv_at hl 2 rfl) ?_
    refine lv_iload_n hx hb d_Al_add3_58 rfl (lv_at hl 1 rfl) ?_
    refine lv_iconst (v := 1) hx hb d_Al_add3_59 (by decide) ?_
    refine lv_iadd hx hb d_Al_add3_60 ?_
    refine W.eq (g2 := F0 m 61 ls [.int (nI (n + 1)), .ref t]) (by rw [nI_1]) ?_
    refine hb_put (ty := .int) hx hb hts hown hC_Al hK hP hD hS f20 1 (by decide) rfl fl_Al_48 rfl rfl rfl rfl (Nat.le_of_ble_eq_true rfl) d_Al_add3_61 (fun M22 H locs eM23 hP hD hS => ?_)
    have f24 : M22 t = some (.inr (3, [.ref ar, .int (nI (n + 1)), .int (md + 1)])) := by rw [eM23]; exact hb_up_self
    have f25 : M22 ar = some (.inl (cO, cap, .inr (.inr (.inr (.inr (va_up (va_cpy f f (nI j).toNatClampNeg (nI (j + 1)).toNatClampNeg (nI (n - j)).toNatClampNeg) (nI j).toNatClampNeg (some x))))))) := by rw [eM23, hb_up_ne (fun q9 => by rw [q9, f20] at f19; cases f19)]; exact f19
    have f26 : M22 x = some (.inr (ci, xs)) := by rw [eM23, hb_up_ne (fun q9 => by rw [q9, ht] at hx1; cases hx1; rcases hci with hci | hci <;> cases hci)]; exact f21
    exact hb_vret hAe hx hb hr hlocks hP hD hS (Nat.le_of_ble_eq_true rfl) (Nat.le_of_ble_eq_true rfl) (⟨rfl, ar, cap, _, f24, f25, by omega, hc, Or.inl rfl, fun i hi => by rw [nI_clamp (show j < 2 ^ 31 by omega), nI_clamp (show j + 1 < 2 ^ 31 by omega), nI_clamp (show n - j < 2 ^ 31 by omega)]; exact hb_ins_mid hj hi, hb_off.kp ((((hb_off.rf.up (by simp) eM7).up (by simp) eM13).up (by simp) eM18).up (by simp) eM23)⟩) d_Al_add3_64
  · skip
    exact absurd ((nI_eq (by omega) (by omega)).mp c11) (by omega)
set_option maxHeartbeats 4000000 in
set_option maxRecDepth 100000 in
/-- ArrayList.add(j, x), case f -/
theorem c_Al_add3_f {l : Launch} {s0 : State} {D : va_G} {cI cJ cO : ClassId} {e0 mi : Nat} (hE : hb_E l s0 D cI cJ cO e0 mi) (M : hb_M) (t ar n : Nat) (md : Int32) (f : Nat → Option Nat) (h0 : 0 < n) (hc : n ≤ 66) (hels : hb_els M f n) (x ci : Nat) (xs : List Value) (hx1 : M x = some (.inr (ci, xs))) (hci : ci = 0 ∨ ci = 1) (ht : M t = some (.inr (3, [.ref ar, .int (nI n), .int md]))) (har : M ar = some (hb_ar cO n f)) (j : Nat) (hj : j ≤ n) : hb_Met l D hb_cl s0 y_Al_add3 b_Al_add3 5 none { frames := 5, cells := 1, slots := 100, locals := 207 } [.ref t, .int (nI j), .ref x] M (fun v M1 => v = none ∧ hb_added cO M M1 t ar n (md + 1) f j x) := by
  refine hb_Met.of (by decide) (Nat.le_of_ble_eq_true rfl) ?_
  intro p e s m below meth c A hAe hX hz hP hD hA hS ls hl
  obtain ⟨hx, hb, hr, hml, hown, hlocks, hnm, hG, hnh⟩ := id hX
  have hown : s.vm.findClass "java/util/ArrayList" = some m.cls := hown
  have hts := hE.ts hG ([.ref t, .int (nI j), .ref x] : List Value).toArray
  have hK := hE.kn hG
  have hl : lv_has ls 5 [(0, .ref t), (1, .int (nI j)), (2, .ref x)] := hl
  refine lv_aload_n hx hb d_Al_add3_0 rfl (lv_at hl 0 rfl) ?_
  refine lv_iload_n hx hb d_Al_add3_1 rfl (lv_at hl 1 rfl) ?_
  refine hb_callV (rest := []) hX hts hb_gd Y_Al_rangeCheckForAdd (c_Al_rangeCheckForAdd hE M t (.ref ar) j n md hj (by omega) ht) ml_Al_135 im_Al_rangeCheckForAdd se_Al_rangeCheckForAdd hK ht hC_Al.1 hz hP hD hS hA rfl hl.1 rfl (Nat.le_of_ble_eq_true rfl) ⟨Nat.le_of_ble_eq_true rfl, Nat.le_of_ble_eq_true rfl⟩ ⟨Nat.le_of_ble_eq_true rfl, Nat.le_of_ble_eq_true rfl⟩ d_Al_add3_2 (fun v3 M1 H locs hq2 hP hD hS _ hkp => ?_)
  obtain ⟨ev4, eM5⟩ := hq2
  subst ev4
  rw [eM5] at hP hD
  refine W.eq (g2 := F0 m 5 ls []) rfl ?_
  refine lv_aload_n hx hb d_Al_add3_5 rfl (lv_at hl 0 rfl) ?_
  refine lv_dup hx hb d_Al_add3_6 rfl ?_
  refine hb_getm hx hb hts hown hC_Al hK hP ht 2 (by decide) fl_Al_63 sf_modCount rfl d_Al_add3_7 ?_
  refine lv_iconst (v := 1) hx hb d_Al_add3_10 (by decide) ?_
  refine lv_iadd hx hb d_Al_add3_11 ?_
  refine hb_putm (ty := .int) hx hb hts hown hC_Al hK hP hD hS ht 2 (by decide) fl_Al_63 sf_modCount rfl rfl rfl rfl (Nat.le_of_ble_eq_true rfl) d_Al_add3_12 (fun M6 H locs eM7 hP hD hS => ?_)
  have f8 : M6 t = some (.inr (3, [.ref ar, .int (nI n), .int (md + 1)])) := by rw [eM7]; exact hb_up_self
  have f9 : M6 x = some (.inr (ci, xs)) := by rw [eM7, hb_up_ne (fun q9 => by rw [q9, ht] at hx1; cases hx1; rcases hci with hci | hci <;> cases hci)]; exact hx1
  have f10 : M6 ar = some (.inl (cO, n, .inr (.inr (.inr (.inr f))))) := by rw [eM7, hb_up_ne (fun q9 => by rw [q9, ht] at har; cases har)]; exact har
  refine lv_aload_n hx hb d_Al_add3_15 rfl (lv_at hl 0 rfl) ?_
  refine hb_get hx hb hts hown hC_Al hK hP f8 1 (by decide) rfl fl_Al_48 rfl d_Al_add3_16 ?_
  refine lv_dup hx hb d_Al_add3_19 rfl ?_
  refine lv_istore_n (lv' := [(3, .int (nI n)), (0, .ref t), (1, .int (nI j)), (2, .ref x)]) hx hb d_Al_add3_20 rfl hl (by decide) rfl (fun ls hl => ?_)
  refine lv_aload_n hx hb d_Al_add3_21 rfl (lv_at hl 1 rfl) ?_
  refine hb_get hx hb hts hown hC_Al hK hP f8 0 (by decide) rfl fl_Al_9 rfl d_Al_add3_22 ?_
  refine lv_dup hx hb d_Al_add3_25 rfl ?_
  refine lv_astore (lv' := [(4, .ref ar), (3, .int (nI n)), (0, .ref t), (1, .int (nI j)), (2, .ref x)]) hx hb d_Al_add3_26 hl (by decide) rfl (fun ls hl => ?_)
  refine va_alen (v := nI n) hx hb hK (hP.one f10) 0 2 rfl rfl rfl d_Al_add3_28 ?_
  refine lv_icmp_ne (tgt := 38) hx hb d_Al_add3_29 (by decide) (fun c11 => ?_) (fun c11 => ?_)
  · skip
    exact absurd rfl c11
  · skip
    refine lv_aload_n hx hb d_Al_add3_32 rfl (lv_at hl 2 rfl) ?_
    refine hb_callV (rest := []) hX hts hb_gd Y_Al_grow1 (c_Al_grow1_a hE M6 t ar n (md + 1) f h0 hc (hels.ne eM7 ht hb_ne3) f8 f10) ml_Al_129 im_Al_grow1 se_Al_grow1 hK f8 hC_Al.1 hz hP hD hS hA rfl hl.1 rfl (Nat.le_of_ble_eq_true rfl) ⟨Nat.le_of_ble_eq_true rfl, Nat.le_of_ble_eq_true rfl⟩ ⟨Nat.le_of_ble_eq_true rfl, Nat.le_of_ble_eq_true rfl⟩ d_Al_add3_33 (fun v14 M12 H locs hq13 hP hD hS _ hkp => ?_)
    obtain ⟨q15, g9, ev9, hqn, fq9, ft9, ho9, hg9⟩ := hq13
    subst ev9
    have fx9 : M12 x = some (.inr (ci, xs)) := ho9.at (hb_n2 (fun q9 => by rw [q9, hqn] at f9; cases f9) (fun q9 => by rw [q9, ht] at hx1; cases hx1; rcases hci with hci | hci <;> cases hci)) f9
    refine W.eq (g2 := F0 m 36 ls [.ref q15]) rfl ?_
    refine lv_astore (lv' := [(4, .ref q15), (3, .int (nI n)), (0, .ref t), (1, .int (nI j)), (2, .ref x)]) hx hb d_Al_add3_36 hl (by decide) rfl (fun ls hl => ?_)
    refine lv_aload hx hb d_Al_add3_38 (lv_at hl 0 rfl) ?_
    refine lv_iload_n hx hb d_Al_add3_40 rfl (lv_at hl 3 rfl) ?_
    refine lv_aload hx hb d_Al_add3_41 (lv_at hl 0 rfl) ?_
    refine lv_iload_n hx hb d_Al_add3_43 rfl (lv_at hl 3 rfl) ?_
    refine lv_iconst (v := 1) hx hb d_Al_add3_44 (by decide) ?_
    refine lv_iadd hx hb d_Al_add3_45 ?_
    refine lv_iload_n hx hb d_Al_add3_46 rfl (lv_at hl 1 rfl) ?_
    refine lv_iload_n hx hb d_Al_add3_47 rfl (lv_at hl 3 rfl) ?_
    refine lv_isub hx hb d_Al_add3_48 ?_
    refine W.eq (g2 := F0 m 49 ls [.int (nI (n - j)), .int (nI (j + 1)), .ref q15, .int (nI j), .ref q15]) (by rw [pk_sub (by omega), nI_1]) ?_
    have hels1 := ((hels.ne eM7 ht hb_ne3).off ho9 hqn f8).congr hg9
    refine hb_copyq hx hb (by rw [hml]; exact hl.1.symm) hts hown ml_Al_112 nv_arraycopy st_arraycopy in_Sys hK hP hD hS fq9 fq9 (nI_pos (by omega)) (nI_pos (by omega)) (nI_pos (by omega)) (by first | (rw [nI_clamp (by omega), nI_clamp (by omega)]; omega) | (rw [nI_clamp (by omega)]; omega)) (by first | (rw [nI_clamp (by omega), nI_clamp (by omega)]; omega) | (rw [nI_clamp (by omega)]; omega)) (fun i hi y hy => hels1.any hE hG hP (i := j + i) (by rw [nI_clamp (by omega)] at hi; omega) (by rw [nI_clamp (by omega)] at hy; exact hy)) (Nat.le_of_ble_eq_true rfl) (Nat.le_of_ble_eq_true rfl) d_Al_add3_49 (fun M16 H locs eM17 hP hD hS => ?_)
    have f18 : M16 q15 = some (.inl (cO, (n + max 1 (n / 2)), .inr (.inr (.inr (.inr (va_cpy g9 g9 (nI j).toNatClampNeg (nI (j + 1)).toNatClampNeg (nI (n - j)).toNatClampNeg)))))) := by rw [eM17]; exact hb_up_self
    have f19 : M16 t = some (.inr (3, [.ref q15, .int (nI n), .int (md + 1)])) := by rw [eM17, hb_up_ne (fun q9 => by rw [q9, fq9] at ft9; cases ft9)]; exact ft9
    have f20 : M16 x = some (.inr (ci, xs)) := by rw [eM17, hb_up_ne (fun q9 => by rw [q9, fq9] at fx9; cases fx9)]; exact fx9
    refine lv_aload hx hb d_Al_add3_52 (lv_at hl 0 rfl) ?_
    refine lv_iload_n hx hb d_Al_add3_54 rfl (lv_at hl 3 rfl) ?_
    refine lv_aload_n hx hb d_Al_add3_55 rfl (lv_at hl 4 rfl) ?_
    refine hb_astq hx hb hK hP hD hS f18 (hb_any hE hG hP f20 hci) (vp_in_nI (by omega) (by omega)) d_Al_add3_56 (fun M21 H locs eM22 hP hD hS => ?_)
    have f23 : M21 q15 = some (.inl (cO, (n + max 1 (n / 2)), .inr (.inr (.inr (.inr (va_up (va_cpy g9 g9 (nI j).toNatClampNeg (nI (j + 1)).toNatClampNeg (nI (n - j)).toNatClampNeg) (nI j).toNatClampNeg (some x))))))) := by rw [eM22]; exact hb_up_self
    have f24 : M21 t = some (.inr (3, [.ref q15, .int (nI n), .int (md + 1)])) := by rw [eM22, hb_up_ne (fun q9 => by rw [q9, f18] at f19; cases f19)]; exact f19
    have f25 : M21 x = some (.inr (ci, xs)) := by rw [eM22, hb_up_ne (fun q9 => by rw [q9, fq9] at fx9; cases fx9)]; exact f20
    refine lv_aload_n hx hb d_Al_add3_57 rfl (lv_at hl 2 rfl) ?_
    refine lv_iload_n hx hb d_Al_add3_58 rfl (lv_at hl 1 rfl) ?_
    refine lv_iconst (v := 1) hx hb d_Al_add3_59 (by decide) ?_
    refine lv_iadd hx hb d_Al_add3_60 ?_
    refine W.eq (g2 := F0 m 61 ls [.int (nI (n + 1)), .ref t]) (by rw [nI_1]) ?_
    refine hb_put (ty := .int) hx hb hts hown hC_Al hK hP hD hS f24 1 (by decide) rfl fl_Al_48 rfl rfl rfl rfl (Nat.le_of_ble_eq_true rfl) d_Al_add3_61 (fun M26 H locs eM27 hP hD hS => ?_)
    have f28 : M26 t = some (.inr (3, [.ref q15, .int (nI (n + 1)), .int (md + 1)])) := by rw [eM27]; exact hb_up_self
    have f29 : M26 q15 = some (.inl (cO, (n + max 1 (n / 2)), .inr (.inr (.inr (.inr (va_up (va_cpy g9 g9 (nI j).toNatClampNeg (nI (j + 1)).toNatClampNeg (nI (n - j)).toNatClampNeg) (nI j).toNatClampNeg (some x))))))) := by rw [eM27, hb_up_ne (fun q9 => by rw [q9, f24] at f23; cases f23)]; exact f23
    have f30 : M26 x = some (.inr (ci, xs)) := by rw [eM27, hb_up_ne (fun q9 => by rw [q9, ft9] at fx9; cases fx9; rcases hci with hci | hci <;> cases hci)]; exact f25
    exact hb_vret hAe hx hb hr hlocks hP hD hS (Nat.le_of_ble_eq_true rfl) (Nat.le_of_ble_eq_true rfl) (⟨rfl, q15, _, _, f28, f29, by omega, by omega, Or.inr (by have h := hqn; rw [eM7] at h; by_cases z : q15 = t; rw [z, hb_up_self] at h; cases h; rw [hb_up_ne z] at h; exact h), fun i hi => by rw [nI_clamp (show j < 2 ^ 31 by omega), nI_clamp (show j + 1 < 2 ^ 31 by omega), nI_clamp (show n - j < 2 ^ 31 by omega), hb_ins_mid hj hi]; exact hb_ins_congr hg9 hj hi, hb_kpq (q := q15) (t := t) (((((hb_off.rf.up (by simp) eM7).tr ho9 (by simp)).up (by simp) eM17).up (by simp) eM22).up (by simp) eM27) (by have h := hqn; rw [eM7] at h; by_cases z : q15 = t; rw [z, hb_up_self] at h; cases h; rw [hb_up_ne z] at h; exact h)⟩) d_Al_add3_64
set_option maxHeartbeats 4000000 in
set_option maxRecDepth 100000 in
/-- ArrayList.add(j, x), case e -/
theorem c_Al_add3_e {l : Launch} {s0 : State} {D : va_G} {cI cJ cO : ClassId} {e0 mi : Nat} (hE : hb_E l s0 D cI cJ cO e0 mi) (M : hb_M) (t : Nat) (md : Int32) (f : Nat → Option Nat) (x ci : Nat) (xs : List Value) (hx1 : M x = some (.inr (ci, xs))) (hci : ci = 0 ∨ ci = 1) (ht : M t = some (.inr (3, [.ref e0, .int (nI 0), .int md]))) : hb_Met l D hb_cl s0 y_Al_add3 b_Al_add3 5 none { frames := 5, cells := 1, slots := 100, locals := 207 } [.ref t, .int (nI 0), .ref x] M (fun v M1 => v = none ∧ hb_added cO M M1 t e0 0 (md + 1) f 0 x) := by
  refine hb_Met.of (by decide) (Nat.le_of_ble_eq_true rfl) ?_
  intro p e s m below meth c A hAe hX hz hP hD hA hS ls hl
  obtain ⟨hx, hb, hr, hml, hown, hlocks, hnm, hG, hnh⟩ := id hX
  have hown : s.vm.findClass "java/util/ArrayList" = some m.cls := hown
  have hts := hE.ts hG ([.ref t, .int (nI 0), .ref x] : List Value).toArray
  have hK := hE.kn hG
  have hl : lv_has ls 5 [(0, .ref t), (1, .int (nI 0)), (2, .ref x)] := hl
  refine lv_aload_n hx hb d_Al_add3_0 rfl (lv_at hl 0 rfl) ?_
  refine lv_iload_n hx hb d_Al_add3_1 rfl (lv_at hl 1 rfl) ?_
  refine hb_callV (rest := []) hX hts hb_gd Y_Al_rangeCheckForAdd (c_Al_rangeCheckForAdd hE M t (.ref e0) 0 0 md (by omega) (by omega) ht) ml_Al_135 im_Al_rangeCheckForAdd se_Al_rangeCheckForAdd hK ht hC_Al.1 hz hP hD hS hA rfl hl.1 rfl (Nat.le_of_ble_eq_true rfl) ⟨Nat.le_of_ble_eq_true rfl, Nat.le_of_ble_eq_true rfl⟩ ⟨Nat.le_of_ble_eq_true rfl, Nat.le_of_ble_eq_true rfl⟩ d_Al_add3_2 (fun v3 M1 H locs hq2 hP hD hS _ hkp => ?_)
  obtain ⟨ev4, eM5⟩ := hq2
  subst ev4
  rw [eM5] at hP hD
  refine W.eq (g2 := F0 m 5 ls []) rfl ?_
  refine lv_aload_n hx hb d_Al_add3_5 rfl (lv_at hl 0 rfl) ?_
  refine lv_dup hx hb d_Al_add3_6 rfl ?_
  refine hb_getm hx hb hts hown hC_Al hK hP ht 2 (by decide) fl_Al_63 sf_modCount rfl d_Al_add3_7 ?_
  refine lv_iconst (v := 1) hx hb d_Al_add3_10 (by decide) ?_
  refine lv_iadd hx hb d_Al_add3_11 ?_
  refine hb_putm (ty := .int) hx hb hts hown hC_Al hK hP hD hS ht 2 (by decide) fl_Al_63 sf_modCount rfl rfl rfl rfl (Nat.le_of_ble_eq_true rfl) d_Al_add3_12 (fun M6 H locs eM7 hP hD hS => ?_)
  have f8 : M6 t = some (.inr (3, [.ref e0, .int (nI 0), .int (md + 1)])) := by rw [eM7]; exact hb_up_self
  have f9 : M6 x = some (.inr (ci, xs)) := by rw [eM7, hb_up_ne (fun q9 => by rw [q9, ht] at hx1; cases hx1; rcases hci with hci | hci <;> cases hci)]; exact hx1
  refine lv_aload_n hx hb d_Al_add3_15 rfl (lv_at hl 0 rfl) ?_
  refine hb_get hx hb hts hown hC_Al hK hP f8 1 (by decide) rfl fl_Al_48 rfl d_Al_add3_16 ?_
  refine lv_dup hx hb d_Al_add3_19 rfl ?_
  refine lv_istore_n (lv' := [(3, .int (nI 0)), (0, .ref t), (1, .int (nI 0)), (2, .ref x)]) hx hb d_Al_add3_20 rfl hl (by decide) rfl (fun ls hl => ?_)
  refine lv_aload_n hx hb d_Al_add3_21 rfl (lv_at hl 1 rfl) ?_
  refine hb_get hx hb hts hown hC_Al hK hP f8 0 (by decide) rfl fl_Al_9 rfl d_Al_add3_22 ?_
  refine lv_dup hx hb d_Al_add3_25 rfl ?_
  refine lv_astore (lv' := [(4, .ref e0), (3, .int (nI 0)), (0, .ref t), (1, .int (nI 0)), (2, .ref x)]) hx hb d_Al_add3_26 hl (by decide) rfl (fun ls hl => ?_)
  refine va_tlen (v := 0) hx hb (hE.et hG hz) hS rfl d_Al_add3_28 ?_
  refine lv_icmp_ne (tgt := 38) hx hb d_Al_add3_29 (by decide) (fun c10 => ?_) (fun c10 => ?_)
  · skip
    exact absurd rfl c10
  · skip
    refine lv_aload_n hx hb d_Al_add3_32 rfl (lv_at hl 2 rfl) ?_
    refine hb_callV (rest := []) hX hts hb_gd Y_Al_grow1 (c_Al_grow1_e hE M6 t (md + 1) f8) ml_Al_129 im_Al_grow1 se_Al_grow1 hK f8 hC_Al.1 hz hP hD hS hA rfl hl.1 rfl (Nat.le_of_ble_eq_true rfl) ⟨Nat.le_of_ble_eq_true rfl, Nat.le_of_ble_eq_true rfl⟩ ⟨Nat.le_of_ble_eq_true rfl, Nat.le_of_ble_eq_true rfl⟩ d_Al_add3_33 (fun v13 M11 H locs hq12 hP hD hS _ hkp => ?_)
    obtain ⟨q14, g9, ev9, hqn, fq9, ft9, ho9⟩ := hq12
    subst ev9
    have fx9 : M11 x = some (.inr (ci, xs)) := ho9.at (hb_n2 (fun q9 => by rw [q9, hqn] at f9; cases f9) (fun q9 => by rw [q9, ht] at hx1; cases hx1; rcases hci with hci | hci <;> cases hci)) f9
    refine W.eq (g2 := F0 m 36 ls [.ref q14]) rfl ?_
    refine lv_astore (lv' := [(4, .ref q14), (3, .int (nI 0)), (0, .ref t), (1, .int (nI 0)), (2, .ref x)]) hx hb d_Al_add3_36 hl (by decide) rfl (fun ls hl => ?_)
    refine lv_aload hx hb d_Al_add3_38 (lv_at hl 0 rfl) ?_
    refine lv_iload_n hx hb d_Al_add3_40 rfl (lv_at hl 3 rfl) ?_
    refine lv_aload hx hb d_Al_add3_41 (lv_at hl 0 rfl) ?_
    refine lv_iload_n hx hb d_Al_add3_43 rfl (lv_at hl 3 rfl) ?_
    refine lv_iconst (v := 1) hx hb d_Al_add3_44 (by decide) ?_
    refine lv_iadd hx hb d_Al_add3_45 ?_
    refine lv_iload_n hx hb d_Al_add3_46 rfl (lv_at hl 1 rfl) ?_
    refine lv_iload_n hx hb d_Al_add3_47 rfl (lv_at hl 3 rfl) ?_
    refine lv_isub hx hb d_Al_add3_48 ?_
    refine W.eq (g2 := F0 m 49 ls [.int (nI (0 - 0)), .int (nI (0 + 1)), .ref q14, .int (nI 0), .ref q14]) (by rw [pk_sub (by omega), nI_1]) ?_
    refine hb_copyq hx hb (by rw [hml]; exact hl.1.symm) hts hown ml_Al_112 nv_arraycopy st_arraycopy in_Sys hK hP hD hS fq9 fq9 (nI_pos (by omega)) (nI_pos (by omega)) (nI_pos (by omega)) (by first | (rw [nI_clamp (by omega), nI_clamp (by omega)]; omega) | (rw [nI_clamp (by omega)]; omega)) (by first | (rw [nI_clamp (by omega), nI_clamp (by omega)]; omega) | (rw [nI_clamp (by omega)]; omega)) (fun i hi y hy => absurd hi (by rw [nI_clamp (by omega)]; omega)) (Nat.le_of_ble_eq_true rfl) (Nat.le_of_ble_eq_true rfl) d_Al_add3_49 (fun M15 H locs eM16 hP hD hS => ?_)
    have f17 : M15 q14 = some (.inl (cO, 10, .inr (.inr (.inr (.inr (va_cpy g9 g9 (nI 0).toNatClampNeg (nI (0 + 1)).toNatClampNeg (nI (0 - 0)).toNatClampNeg)))))) := by rw [eM16]; exact hb_up_self
    have f18 : M15 t = some (.inr (3, [.ref q14, .int (nI 0), .int (md + 1)])) := by rw [eM16, hb_up_ne (fun q9 => by rw [q9, fq9] at ft9; cases ft9)]; exact ft9
    have f19 : M15 x = some (.inr (ci, xs)) := by rw [eM16, hb_up_ne (fun q9 => by rw [q9, fq9] at fx9; cases fx9)]; exact fx9
    refine lv_aload hx hb d_Al_add3_52 (lv_at hl 0 rfl) ?_
    refine lv_iload_n hx hb d_Al_add3_54 rfl (lv_at hl 3 rfl) ?_
    refine lv_aload_n hx hb d_Al_add3_55 rfl (lv_at hl 4 rfl) ?_
    refine hb_astq hx hb hK hP hD hS f17 (hb_any hE hG hP f19 hci) (vp_in_nI (by omega) (by omega)) d_Al_add3_56 (fun M20 H locs eM21 hP hD hS => ?_)
    have f22 : M20 q14 = some (.inl (cO, 10, .inr (.inr (.inr (.inr (va_up (va_cpy g9 g9 (nI 0).toNatClampNeg (nI (0 + 1)).toNatClampNeg (nI (0 - 0)).toNatClampNeg) (nI 0).toNatClampNeg (some x))))))) := by rw [eM21]; exact hb_up_self
    have f23 : M20 t = some (.inr (3, [.ref q14, .int (nI 0), .int (md + 1)])) := by rw [eM21, hb_up_ne (fun q9 => by rw [q9, f17] at f18; cases f18)]; exact f18
    have f24 : M20 x = some (.inr (ci, xs)) := by rw [eM21, hb_up_ne (fun q9 => by rw [q9, fq9] at fx9; cases fx9)]; exact f19
    refine lv_aload_n hx hb d_Al_add3_57 rfl (lv_at hl 2 rfl) ?_
    refine lv_iload_n hx hb d_Al_add3_58 rfl (lv_at hl 1 rfl) ?_
    refine lv_iconst (v := 1) hx hb d_Al_add3_59 (by decide) ?_
    refine lv_iadd hx hb d_Al_add3_60 ?_
    refine W.eq (g2 := F0 m 61 ls [.int (nI (0 + 1)), .ref t]) (by rw [nI_1]) ?_
    refine hb_put (ty := .int) hx hb hts hown hC_Al hK hP hD hS f23 1 (by decide) rfl fl_Al_48 rfl rfl rfl rfl (Nat.le_of_ble_eq_true rfl) d_Al_add3_61 (fun M25 H locs eM26 hP hD hS => ?_)
    have f27 : M25 t = some (.inr (3, [.ref q14, .int (nI (0 + 1)), .int (md + 1)])) := by rw [eM26]; exact hb_up_self
    have f28 : M25 q14 = some (.inl (cO, 10, .inr (.inr (.inr (.inr (va_up (va_cpy g9 g9 (nI 0).toNatClampNeg (nI (0 + 1)).toNatClampNeg (nI (0 - 0)).toNatClampNeg) (nI 0).toNatClampNeg (some x))))))) := by rw [eM26, hb_up_ne (fun q9 => by rw [q9, f23] at f22; cases f22)]; exact f22
    have f29 : M25 x = some (.inr (ci, xs)) := by rw [eM26, hb_up_ne (fun q9 => by rw [q9, ft9] at fx9; cases fx9; rcases hci with hci | hci <;> cases hci)]; exact f24
    exact hb_vret hAe hx hb hr hlocks hP hD hS (Nat.le_of_ble_eq_true rfl) (Nat.le_of_ble_eq_true rfl) (⟨rfl, q14, _, _, f27, f28, by omega, by omega, Or.inr (by have h := hqn; rw [eM7] at h; by_cases z : q14 = t; rw [z, hb_up_self] at h; cases h; rw [hb_up_ne z] at h; exact h), fun i hi => by rw [nI_clamp (show 0 < 2 ^ 31 by omega), nI_clamp (show 0 + 1 < 2 ^ 31 by omega), show va_cpy g9 g9 0 (0 + 1) 0 = va_cpy g9 g9 0 (0 + 1) (0 - 0) from rfl, hb_ins_mid (Nat.le_refl _) hi]; exact hb_ins_congr (fun i hi => absurd hi (by omega)) (Nat.le_refl _) hi, hb_kpq (q := q14) (t := t) (((((hb_off.rf.up (by simp) eM7).tr ho9 (by simp)).up (by simp) eM16).up (by simp) eM21).up (by simp) eM26) (by have h := hqn; rw [eM7] at h; by_cases z : q14 = t; rw [z, hb_up_self] at h; cases h; rw [hb_up_ne z] at h; exact h)⟩) d_Al_add3_64
