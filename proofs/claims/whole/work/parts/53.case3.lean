/-! THE LAW'S CASES -/
set_option maxHeartbeats 4000000 in
set_option maxRecDepth 100000 in
theorem k_ticks {p : Program} {l : Launch} {e : Env} {s : State} {m : MethodId} {below : List Frame} {meth : Method} {c : Code} {H : Heap} {locs : List Loc} {Q : State → Prop} {ls : Array Slot} {D : va_G} {cI cJ cO : ClassId} {e0 mi0 b L i x y o n cells slots : Nat} {xs : Nat → Int32} {M : hb_M} (C : lb_C p l s m c D cI cJ cO e0 mi0 b L xs) (hi : i + 6 ≤ L) (hn : n < 520) (hcs : cells + 2 ≤ 601024 ∧ slots + 120 ≤ 7293000) (hT : lb_S cI cJ cO e0 x y o n M) (hP : hb_P D hb_cl M H) (hD : hb_D (fun q => s.heap.size ≤ q) M) (hS : va_S (fun q => s.heap.size ≤ q) s.heap H locs) (hl : lv_has ls 8 (lb_L b x y o i))
    (kk : ∀ (ls : Array Slot) (M : hb_M) (H : Heap) (locs : List Loc), lv_has ls 8 (lb_L b x y o i) → lb_S cI cJ cO e0 x y o (n + 1) M → hb_P D hb_cl M H → hb_D (fun q => s.heap.size ≤ q) M → va_S (fun q => s.heap.size ≤ q) s.heap H locs → W p l e room_1 s m #[Value.ref b] below meth c H locs (cells + 2) (slots + 120) Q (F0 m 1182 ls [])) : W p l e room_1 s m #[Value.ref b] below meth c H locs cells slots Q (F0 m 657 ls []) := by
  obtain ⟨hX2, hE, hXs, hbl, hL⟩ := C
  obtain ⟨hx, hb, hml, hown, hG⟩ := id hX2
  have hts := hE.ts hG #[Value.ref b]
  have hK := hE.kn hG
  have hz : hb_Z s (fun q => s.heap.size ≤ q) := fun q h => h
  have hA : ∀ q, s.heap.size ≤ q → (fun q => s.heap.size ≤ q) q := fun q h => h
  have hbA : ¬ (fun q => s.heap.size ≤ q) b := fun h => absurd hbl (Nat.not_lt.mpr h)
  obtain ⟨Mx, My, g, ho, pa, tm, cd, A, P, na, np, bal, mi, f, eM, hoM, hdj, hX, hV, hI⟩ := hT
  subst eM
  obtain ⟨hc1, hc2⟩ := hcs
  have hl : lv_has ls 8 [(4, .int (nI i)), (3, .ref o), (2, .ref y), (1, .ref x), (0, .ref b)] := hl
  obtain ⟨a1, e1⟩ : ∃ a, xs (nI i + 1).toNatClampNeg = a := ⟨_, rfl⟩
  refine lv_aload_n hx hb d_Law_law_657 rfl (lv_at hl 3 rfl) ?_
  refine lv_aload_n hx hb d_Law_law_658 rfl (lv_at hl 4 rfl) ?_
  refine lv_iload hx hb d_Law_law_659 (lv_at hl 0 rfl) ?_
  refine lv_iconst (v := 1) hx hb d_Law_law_661 (by decide) ?_
  refine lv_iadd hx hb d_Law_law_662 ?_
  refine lb_sld hx hb hXs hbl hbA hS (lb_v1 hi hL) e1 d_Law_law_663 ?_
  refine lv_aload_n hx hb d_Law_law_664 rfl (lv_at hl 1 rfl) ?_
  obtain ⟨k, z, w, tm1, A1, P1, na1, np1, bal1, mi1, f1, hI1, hkz, hXm, hYm⟩ := s_ticks hE g hX hV hI hn hoM a1
  refine hb_lcSW (rest := []) hX2 hts hb_gd YW_ticks (hXm.frame hdj) ml_Law_86 st_Law_ticks hz hP hD hS hA rfl hl.1 rfl (Nat.le_of_ble_eq_true rfl) ⟨Nat.le_of_ble_eq_true rfl, Nat.le_of_ble_eq_true rfl⟩ ⟨hc1, hc2⟩ d_Law_law_665 (fun v M1 H locs hq hP hD hS _ _ => ?_)
  refine W.widen (k := cells + 2) (n := slots + 120) (Nat.le_refl _) (Nat.le_refl _) ?_
  obtain ⟨M2, ⟨ev, Mx1, g1, e8, hoM1, hX1, hg1⟩, e9, hdj1⟩ := hq
  subst ev
  subst e8
  subst e9
  refine W.eq (g2 := F0 m 668 ls [.int k]) rfl ?_
  refine lv_istore (lv' := [(5, .int k), (4, .int (nI i)), (3, .ref o), (2, .ref y), (1, .ref x), (0, .ref b)]) hx hb d_Law_law_668 hl (by decide) rfl (fun ls hl => ?_)
  refine lv_aload_n hx hb d_Law_law_670 rfl (lv_at hl 3 rfl) ?_
  refine lv_aload_n hx hb d_Law_law_671 rfl (lv_at hl 5 rfl) ?_
  refine lv_iload hx hb d_Law_law_672 (lv_at hl 1 rfl) ?_
  refine lv_iconst (v := 1) hx hb d_Law_law_674 (by decide) ?_
  refine lv_iadd hx hb d_Law_law_675 ?_
  refine lb_sld hx hb hXs hbl hbA hS (lb_v1 hi hL) e1 d_Law_law_676 ?_
  rw [hb_jn_comm hdj1] at hP hD
  obtain ⟨fs, hy⟩ := hV.y
  refine hb_lcV (rest := []) hX2 hts hb_gd Y_Md_ticks (hYm.frame hdj1.symm) ml_Law_89 im_Md_ticks se_Md_ticks hK (hb_jn_l hy) hC_Md.1 hz hP hD hS hA rfl hl.1 rfl (Nat.le_of_ble_eq_true rfl) ⟨Nat.le_of_ble_eq_true rfl, Nat.le_of_ble_eq_true rfl⟩ ⟨hc1, hc2⟩ d_Law_law_677 (fun v M1 H locs hq hP hD hS _ _ => ?_)
  refine W.widen (k := cells + 2) (n := slots + 120) (Nat.le_refl _) (Nat.le_refl _) ?_
  obtain ⟨My1, ⟨ev, hV1⟩, e9, hdj2⟩ := hq
  subst ev
  subst e9
  refine W.eq (g2 := F0 m 680 ls [.int w]) rfl ?_
  refine lv_istore (lv' := [(6, .int w), (5, .int k), (4, .int (nI i)), (3, .ref o), (2, .ref y), (1, .ref x), (0, .ref b)]) hx hb d_Law_law_680 hl (by decide) rfl (fun ls hl => ?_)
  refine lv_aload_n hx hb d_Law_law_682 rfl (lv_at hl 4 rfl) ?_
  have hth := s_thrown hE hV1 hI1
  obtain ⟨fs1, hy1⟩ := hV1.y
  refine hb_lcV (rest := []) hX2 hts hb_gd Y_Md_thrown (hth.frame hdj2) ml_Law_71 im_Md_thrown se_Md_thrown hK (hb_jn_l hy1) hC_Md.1 hz hP hD hS hA rfl hl.1 rfl (Nat.le_of_ble_eq_true rfl) ⟨Nat.le_of_ble_eq_true rfl, Nat.le_of_ble_eq_true rfl⟩ ⟨hc1, hc2⟩ d_Law_law_683 (fun v M1 H locs hq hP hD hS _ _ => ?_)
  refine W.widen (k := cells + 2) (n := slots + 120) (Nat.le_refl _) (Nat.le_refl _) ?_
  obtain ⟨My2, ⟨ev, e8⟩, e9, hdj3⟩ := hq
  subst ev
  rw [e8] at e9
  subst e9
  refine W.eq (g2 := F0 m 686 ls [.int k]) rfl ?_
  refine lv_iload hx hb d_Law_law_686 (lv_at hl 1 rfl) ?_
  refine lv_icmp_eq (tgt := 693) hx hb d_Law_law_688 (by decide) (fun c1 => ?_) (fun c1 => ?_)
  · skip
    refine lv_iload hx hb d_Law_law_693 (lv_at hl 1 rfl) ?_
    refine lv_if_ne (tgt := 710) hx hb d_Law_law_695 (by decide) (fun c2 => ?_) (fun c2 => ?_)
    · skip
      refine lv_goto (tgt := 1182) hx hb d_Law_law_710 (by decide) ?_
      exact kk ls _ _ _ (lv_sub hl [2, 3, 4, 5, 6] rfl) ⟨Mx1, My1, g1, ho, pa, tm1, k, A1, P1, na1, np1, bal1, mi1, f1, hb_jn_comm hdj2, hoM1, hdj2.symm, hX1, hV1, hI1⟩ hP hD hS
    · skip
      refine lv_aload_n hx hb d_Law_law_698 rfl (lv_at hl 3 rfl) ?_
      refine lv_iconst (v := 0) hx hb d_Law_law_699 (by decide) ?_
      have hoM3 : (hb_jn My1 (hb_jn Mx1 (hb_one o (jE cJ g1)))) o = some (jE cJ g1) := by rw [hb_jn_comm hdj2, hb_jn_l (by rw [hb_jn_r hoM1]; exact hb_one_at)]
      refine va_lald hx hb hK (hP.one hoM3) 0 1 rfl rfl (show vp_in (nI 0) 1 from vp_in_nI (by omega) (by omega)) d_Law_law_700 ?_
      refine W.eq (g2 := F0 m 701 ls [.long (g1 0)]) rfl ?_
      refine lv_iload hx hb d_Law_law_701 (lv_at hl 0 rfl) ?_
      refine lv_i2l (v := w.toInt64) hx hb d_Law_law_703 rfl ?_
      refine hb_lc_eq (tgt := 710) hx hb d_Law_law_704 d_Law_law_705 (by decide) (fun c3 => ?_) (fun c3 => ?_)
      · skip
        refine lv_goto (tgt := 1182) hx hb d_Law_law_710 (by decide) ?_
        exact kk ls _ _ _ (lv_sub hl [2, 3, 4, 5, 6] rfl) ⟨Mx1, My1, g1, ho, pa, tm1, k, A1, P1, na1, np1, bal1, mi1, f1, hb_jn_comm hdj2, hoM1, hdj2.symm, hX1, hV1, hI1⟩ hP hD hS
      · skip
        exact absurd ((hg1 c2).trans (hkz c2)) c3
  · skip
    exact absurd rfl c1
set_option maxHeartbeats 4000000 in
set_option maxRecDepth 100000 in
theorem k_charge {p : Program} {l : Launch} {e : Env} {s : State} {m : MethodId} {below : List Frame} {meth : Method} {c : Code} {H : Heap} {locs : List Loc} {Q : State → Prop} {ls : Array Slot} {D : va_G} {cI cJ cO : ClassId} {e0 mi0 b L i x y o n cells slots : Nat} {xs : Nat → Int32} {M : hb_M} (C : lb_C p l s m c D cI cJ cO e0 mi0 b L xs) (hi : i + 6 ≤ L) (hn : n < 520) (hcs : cells + 2 ≤ 601024 ∧ slots + 120 ≤ 7293000) (hT : lb_S cI cJ cO e0 x y o n M) (hP : hb_P D hb_cl M H) (hD : hb_D (fun q => s.heap.size ≤ q) M) (hS : va_S (fun q => s.heap.size ≤ q) s.heap H locs) (hl : lv_has ls 8 (lb_L b x y o i))
    (kk : ∀ (ls : Array Slot) (M : hb_M) (H : Heap) (locs : List Loc), lv_has ls 8 (lb_L b x y o i) → lb_S cI cJ cO e0 x y o (n + 1) M → hb_P D hb_cl M H → hb_D (fun q => s.heap.size ≤ q) M → va_S (fun q => s.heap.size ≤ q) s.heap H locs → W p l e room_1 s m #[Value.ref b] below meth c H locs (cells + 2) (slots + 120) Q (F0 m 1182 ls [])) : W p l e room_1 s m #[Value.ref b] below meth c H locs cells slots Q (F0 m 713 ls []) := by
  obtain ⟨hX2, hE, hXs, hbl, hL⟩ := C
  obtain ⟨hx, hb, hml, hown, hG⟩ := id hX2
  have hts := hE.ts hG #[Value.ref b]
  have hK := hE.kn hG
  have hz : hb_Z s (fun q => s.heap.size ≤ q) := fun q h => h
  have hA : ∀ q, s.heap.size ≤ q → (fun q => s.heap.size ≤ q) q := fun q h => h
  have hbA : ¬ (fun q => s.heap.size ≤ q) b := fun h => absurd hbl (Nat.not_lt.mpr h)
  obtain ⟨Mx, My, g, ho, pa, tm, cd, A, P, na, np, bal, mi, f, eM, hoM, hdj, hX, hV, hI⟩ := hT
  subst eM
  obtain ⟨hc1, hc2⟩ := hcs
  have hl : lv_has ls 8 [(4, .int (nI i)), (3, .ref o), (2, .ref y), (1, .ref x), (0, .ref b)] := hl
  obtain ⟨a1, e1⟩ : ∃ a, xs (nI i + 1).toNatClampNeg = a := ⟨_, rfl⟩
  obtain ⟨a2, e2⟩ : ∃ a, xs (nI i + 2).toNatClampNeg = a := ⟨_, rfl⟩
  obtain ⟨a3, e3⟩ : ∃ a, xs (nI i + 3).toNatClampNeg = a := ⟨_, rfl⟩
  refine lv_aload_n hx hb d_Law_law_713 rfl (lv_at hl 3 rfl) ?_
  refine lv_aload_n hx hb d_Law_law_714 rfl (lv_at hl 4 rfl) ?_
  refine lv_iload hx hb d_Law_law_715 (lv_at hl 0 rfl) ?_
  refine lv_iconst (v := 1) hx hb d_Law_law_717 (by decide) ?_
  refine lv_iadd hx hb d_Law_law_718 ?_
  refine lb_sld hx hb hXs hbl hbA hS (lb_v1 hi hL) e1 d_Law_law_719 ?_
  refine lv_aload_n hx hb d_Law_law_720 rfl (lv_at hl 4 rfl) ?_
  refine lv_iload hx hb d_Law_law_721 (lv_at hl 0 rfl) ?_
  refine lv_iconst (v := 2) hx hb d_Law_law_723 (by decide) ?_
  refine lv_iadd hx hb d_Law_law_724 ?_
  refine lb_sld hx hb hXs hbl hbA hS (lb_v2 hi hL) e2 d_Law_law_725 ?_
  refine lv_i2l (v := a2.toInt64) hx hb d_Law_law_726 rfl ?_
  refine lv_bipush (v := 32) hx hb d_Law_law_727 (by decide) ?_
  refine lv_lshl (v := a2.toInt64 <<< ((32 : Int32).toInt64 &&& 63)) hx hb d_Law_law_729 rfl ?_
  refine lv_aload_n hx hb d_Law_law_730 rfl (lv_at hl 4 rfl) ?_
  refine lv_iload hx hb d_Law_law_731 (lv_at hl 0 rfl) ?_
  refine lv_iconst (v := 3) hx hb d_Law_law_733 (by decide) ?_
  refine lv_iadd hx hb d_Law_law_734 ?_
  refine lb_sld hx hb hXs hbl hbA hS (lb_v3 hi hL) e3 d_Law_law_735 ?_
  refine lv_i2l (v := a3.toInt64) hx hb d_Law_law_736 rfl ?_
  refine lv_ldc2 (v := 4294967295) hx hb hown (hts _ kc_Law_65) d_Law_law_737 ?_
  refine lv_land hx hb d_Law_law_740 ?_
  refine lv_lor hx hb d_Law_law_741 ?_
  refine lv_aload_n hx hb d_Law_law_742 rfl (lv_at hl 1 rfl) ?_
  obtain ⟨k, z, w, tm1, A1, P1, na1, np1, bal1, mi1, f1, hI1, hkz, hXm, hYm⟩ := s_charge hE g hX hV hI hn hoM a1 ((a2.toInt64 <<< ((32 : Int32).toInt64 &&& 63)) ||| (a3.toInt64 &&& 4294967295))
  refine hb_lcSW (rest := []) hX2 hts hb_gd YW_charge (hXm.frame hdj) ml_Law_90 st_Law_charge hz hP hD hS hA rfl hl.1 rfl (Nat.le_of_ble_eq_true rfl) ⟨Nat.le_of_ble_eq_true rfl, Nat.le_of_ble_eq_true rfl⟩ ⟨hc1, hc2⟩ d_Law_law_743 (fun v M1 H locs hq hP hD hS _ _ => ?_)
  refine W.widen (k := cells + 2) (n := slots + 120) (Nat.le_refl _) (Nat.le_refl _) ?_
  obtain ⟨M2, ⟨ev, Mx1, g1, e8, hoM1, hX1, hg1⟩, e9, hdj1⟩ := hq
  subst ev
  subst e8
  subst e9
  refine W.eq (g2 := F0 m 746 ls [.int k]) rfl ?_
  refine lv_istore (lv' := [(5, .int k), (4, .int (nI i)), (3, .ref o), (2, .ref y), (1, .ref x), (0, .ref b)]) hx hb d_Law_law_746 hl (by decide) rfl (fun ls hl => ?_)
  refine lv_aload_n hx hb d_Law_law_748 rfl (lv_at hl 3 rfl) ?_
  refine lv_aload_n hx hb d_Law_law_749 rfl (lv_at hl 5 rfl) ?_
  refine lv_iload hx hb d_Law_law_750 (lv_at hl 1 rfl) ?_
  refine lv_iconst (v := 1) hx hb d_Law_law_752 (by decide) ?_
  refine lv_iadd hx hb d_Law_law_753 ?_
  refine lb_sld hx hb hXs hbl hbA hS (lb_v1 hi hL) e1 d_Law_law_754 ?_
  refine lv_aload_n hx hb d_Law_law_755 rfl (lv_at hl 5 rfl) ?_
  refine lv_iload hx hb d_Law_law_756 (lv_at hl 1 rfl) ?_
  refine lv_iconst (v := 2) hx hb d_Law_law_758 (by decide) ?_
  refine lv_iadd hx hb d_Law_law_759 ?_
  refine lb_sld hx hb hXs hbl hbA hS (lb_v2 hi hL) e2 d_Law_law_760 ?_
  refine lv_i2l (v := a2.toInt64) hx hb d_Law_law_761 rfl ?_
  refine lv_bipush (v := 32) hx hb d_Law_law_762 (by decide) ?_
  refine lv_lshl (v := a2.toInt64 <<< ((32 : Int32).toInt64 &&& 63)) hx hb d_Law_law_764 rfl ?_
  refine lv_aload_n hx hb d_Law_law_765 rfl (lv_at hl 5 rfl) ?_
  refine lv_iload hx hb d_Law_law_766 (lv_at hl 1 rfl) ?_
  refine lv_iconst (v := 3) hx hb d_Law_law_768 (by decide) ?_
  refine lv_iadd hx hb d_Law_law_769 ?_
  refine lb_sld hx hb hXs hbl hbA hS (lb_v3 hi hL) e3 d_Law_law_770 ?_
  refine lv_i2l (v := a3.toInt64) hx hb d_Law_law_771 rfl ?_
  refine lv_ldc2 (v := 4294967295) hx hb hown (hts _ kc_Law_65) d_Law_law_772 ?_
  refine lv_land hx hb d_Law_law_775 ?_
  refine lv_lor hx hb d_Law_law_776 ?_
  rw [hb_jn_comm hdj1] at hP hD
  obtain ⟨fs, hy⟩ := hV.y
  refine hb_lcV (rest := []) hX2 hts hb_gd Y_Md_charge (hYm.frame hdj1.symm) ml_Law_93 im_Md_charge se_Md_charge hK (hb_jn_l hy) hC_Md.1 hz hP hD hS hA rfl hl.1 rfl (Nat.le_of_ble_eq_true rfl) ⟨Nat.le_of_ble_eq_true rfl, Nat.le_of_ble_eq_true rfl⟩ ⟨hc1, hc2⟩ d_Law_law_777 (fun v M1 H locs hq hP hD hS _ _ => ?_)
  refine W.widen (k := cells + 2) (n := slots + 120) (Nat.le_refl _) (Nat.le_refl _) ?_
  obtain ⟨My1, ⟨ev, hV1⟩, e9, hdj2⟩ := hq
  subst ev
  subst e9
  refine W.eq (g2 := F0 m 780 ls [.int w]) rfl ?_
  refine lv_istore (lv' := [(6, .int w), (5, .int k), (4, .int (nI i)), (3, .ref o), (2, .ref y), (1, .ref x), (0, .ref b)]) hx hb d_Law_law_780 hl (by decide) rfl (fun ls hl => ?_)
  refine lv_aload_n hx hb d_Law_law_782 rfl (lv_at hl 4 rfl) ?_
  have hth := s_thrown hE hV1 hI1
  obtain ⟨fs1, hy1⟩ := hV1.y
  refine hb_lcV (rest := []) hX2 hts hb_gd Y_Md_thrown (hth.frame hdj2) ml_Law_71 im_Md_thrown se_Md_thrown hK (hb_jn_l hy1) hC_Md.1 hz hP hD hS hA rfl hl.1 rfl (Nat.le_of_ble_eq_true rfl) ⟨Nat.le_of_ble_eq_true rfl, Nat.le_of_ble_eq_true rfl⟩ ⟨hc1, hc2⟩ d_Law_law_783 (fun v M1 H locs hq hP hD hS _ _ => ?_)
  refine W.widen (k := cells + 2) (n := slots + 120) (Nat.le_refl _) (Nat.le_refl _) ?_
  obtain ⟨My2, ⟨ev, e8⟩, e9, hdj3⟩ := hq
  subst ev
  rw [e8] at e9
  subst e9
  refine W.eq (g2 := F0 m 786 ls [.int k]) rfl ?_
  refine lv_iload hx hb d_Law_law_786 (lv_at hl 1 rfl) ?_
  refine lv_icmp_eq (tgt := 793) hx hb d_Law_law_788 (by decide) (fun c1 => ?_) (fun c1 => ?_)
  · skip
    refine lv_iload hx hb d_Law_law_793 (lv_at hl 1 rfl) ?_
    refine lv_if_ne (tgt := 810) hx hb d_Law_law_795 (by decide) (fun c2 => ?_) (fun c2 => ?_)
    · skip
      refine lv_goto (tgt := 1182) hx hb d_Law_law_810 (by decide) ?_
      exact kk ls _ _ _ (lv_sub hl [2, 3, 4, 5, 6] rfl) ⟨Mx1, My1, g1, ho, pa, tm1, k, A1, P1, na1, np1, bal1, mi1, f1, hb_jn_comm hdj2, hoM1, hdj2.symm, hX1, hV1, hI1⟩ hP hD hS
    · skip
      refine lv_aload_n hx hb d_Law_law_798 rfl (lv_at hl 3 rfl) ?_
      refine lv_iconst (v := 0) hx hb d_Law_law_799 (by decide) ?_
      have hoM3 : (hb_jn My1 (hb_jn Mx1 (hb_one o (jE cJ g1)))) o = some (jE cJ g1) := by rw [hb_jn_comm hdj2, hb_jn_l (by rw [hb_jn_r hoM1]; exact hb_one_at)]
      refine va_lald hx hb hK (hP.one hoM3) 0 1 rfl rfl (show vp_in (nI 0) 1 from vp_in_nI (by omega) (by omega)) d_Law_law_800 ?_
      refine W.eq (g2 := F0 m 801 ls [.long (g1 0)]) rfl ?_
      refine lv_iload hx hb d_Law_law_801 (lv_at hl 0 rfl) ?_
      refine lv_i2l (v := w.toInt64) hx hb d_Law_law_803 rfl ?_
      refine hb_lc_eq (tgt := 810) hx hb d_Law_law_804 d_Law_law_805 (by decide) (fun c3 => ?_) (fun c3 => ?_)
      · skip
        refine lv_goto (tgt := 1182) hx hb d_Law_law_810 (by decide) ?_
        exact kk ls _ _ _ (lv_sub hl [2, 3, 4, 5, 6] rfl) ⟨Mx1, My1, g1, ho, pa, tm1, k, A1, P1, na1, np1, bal1, mi1, f1, hb_jn_comm hdj2, hoM1, hdj2.symm, hX1, hV1, hI1⟩ hP hD hS
      · skip
        exact absurd ((hg1 c2).trans (hkz c2)) c3
  · skip
    exact absurd rfl c1
set_option maxHeartbeats 4000000 in
set_option maxRecDepth 100000 in
theorem k_represent {p : Program} {l : Launch} {e : Env} {s : State} {m : MethodId} {below : List Frame} {meth : Method} {c : Code} {H : Heap} {locs : List Loc} {Q : State → Prop} {ls : Array Slot} {D : va_G} {cI cJ cO : ClassId} {e0 mi0 b L i x y o n cells slots : Nat} {xs : Nat → Int32} {M : hb_M} (C : lb_C p l s m c D cI cJ cO e0 mi0 b L xs) (hi : i + 6 ≤ L) (hn : n < 520) (hcs : cells + 2 ≤ 601024 ∧ slots + 120 ≤ 7293000) (hT : lb_S cI cJ cO e0 x y o n M) (hP : hb_P D hb_cl M H) (hD : hb_D (fun q => s.heap.size ≤ q) M) (hS : va_S (fun q => s.heap.size ≤ q) s.heap H locs) (hl : lv_has ls 8 (lb_L b x y o i))
    (kk : ∀ (ls : Array Slot) (M : hb_M) (H : Heap) (locs : List Loc), lv_has ls 8 (lb_L b x y o i) → lb_S cI cJ cO e0 x y o (n + 1) M → hb_P D hb_cl M H → hb_D (fun q => s.heap.size ≤ q) M → va_S (fun q => s.heap.size ≤ q) s.heap H locs → W p l e room_1 s m #[Value.ref b] below meth c H locs (cells + 2) (slots + 120) Q (F0 m 1182 ls [])) : W p l e room_1 s m #[Value.ref b] below meth c H locs cells slots Q (F0 m 813 ls []) := by
  obtain ⟨hX2, hE, hXs, hbl, hL⟩ := C
  obtain ⟨hx, hb, hml, hown, hG⟩ := id hX2
  have hts := hE.ts hG #[Value.ref b]
  have hK := hE.kn hG
  have hz : hb_Z s (fun q => s.heap.size ≤ q) := fun q h => h
  have hA : ∀ q, s.heap.size ≤ q → (fun q => s.heap.size ≤ q) q := fun q h => h
  have hbA : ¬ (fun q => s.heap.size ≤ q) b := fun h => absurd hbl (Nat.not_lt.mpr h)
  obtain ⟨Mx, My, g, ho, pa, tm, cd, A, P, na, np, bal, mi, f, eM, hoM, hdj, hX, hV, hI⟩ := hT
  subst eM
  obtain ⟨hc1, hc2⟩ := hcs
  have hl : lv_has ls 8 [(4, .int (nI i)), (3, .ref o), (2, .ref y), (1, .ref x), (0, .ref b)] := hl
  obtain ⟨a1, e1⟩ : ∃ a, xs (nI i + 1).toNatClampNeg = a := ⟨_, rfl⟩
  refine lv_aload_n hx hb d_Law_law_813 rfl (lv_at hl 3 rfl) ?_
  refine lv_aload_n hx hb d_Law_law_814 rfl (lv_at hl 4 rfl) ?_
  refine lv_iload hx hb d_Law_law_815 (lv_at hl 0 rfl) ?_
  refine lv_iconst (v := 1) hx hb d_Law_law_817 (by decide) ?_
  refine lv_iadd hx hb d_Law_law_818 ?_
  refine lb_sld hx hb hXs hbl hbA hS (lb_v1 hi hL) e1 d_Law_law_819 ?_
  refine lv_aload_n hx hb d_Law_law_820 rfl (lv_at hl 1 rfl) ?_
  obtain ⟨k, z, w, tm1, A1, P1, na1, np1, bal1, mi1, f1, hI1, hkz, hXm, hYm⟩ := s_represent hE g hX hV hI hn hoM a1
  refine hb_lcSW (rest := []) hX2 hts hb_gd YW_represent (hXm.frame hdj) ml_Law_94 st_Law_represent hz hP hD hS hA rfl hl.1 rfl (Nat.le_of_ble_eq_true rfl) ⟨Nat.le_of_ble_eq_true rfl, Nat.le_of_ble_eq_true rfl⟩ ⟨hc1, hc2⟩ d_Law_law_821 (fun v M1 H locs hq hP hD hS _ _ => ?_)
  refine W.widen (k := cells + 2) (n := slots + 120) (Nat.le_refl _) (Nat.le_refl _) ?_
  obtain ⟨M2, ⟨ev, Mx1, g1, e8, hoM1, hX1, hg1⟩, e9, hdj1⟩ := hq
  subst ev
  subst e8
  subst e9
  refine W.eq (g2 := F0 m 824 ls [.int k]) rfl ?_
  refine lv_istore (lv' := [(5, .int k), (4, .int (nI i)), (3, .ref o), (2, .ref y), (1, .ref x), (0, .ref b)]) hx hb d_Law_law_824 hl (by decide) rfl (fun ls hl => ?_)
  refine lv_aload_n hx hb d_Law_law_826 rfl (lv_at hl 3 rfl) ?_
  refine lv_aload_n hx hb d_Law_law_827 rfl (lv_at hl 5 rfl) ?_
  refine lv_iload hx hb d_Law_law_828 (lv_at hl 1 rfl) ?_
  refine lv_iconst (v := 1) hx hb d_Law_law_830 (by decide) ?_
  refine lv_iadd hx hb d_Law_law_831 ?_
  refine lb_sld hx hb hXs hbl hbA hS (lb_v1 hi hL) e1 d_Law_law_832 ?_
  rw [hb_jn_comm hdj1] at hP hD
  obtain ⟨fs, hy⟩ := hV.y
  refine hb_lcV (rest := []) hX2 hts hb_gd Y_Md_represent (hYm.frame hdj1.symm) ml_Law_96 im_Md_represent se_Md_represent hK (hb_jn_l hy) hC_Md.1 hz hP hD hS hA rfl hl.1 rfl (Nat.le_of_ble_eq_true rfl) ⟨Nat.le_of_ble_eq_true rfl, Nat.le_of_ble_eq_true rfl⟩ ⟨hc1, hc2⟩ d_Law_law_833 (fun v M1 H locs hq hP hD hS _ _ => ?_)
  refine W.widen (k := cells + 2) (n := slots + 120) (Nat.le_refl _) (Nat.le_refl _) ?_
  obtain ⟨My1, ⟨ev, hV1⟩, e9, hdj2⟩ := hq
  subst ev
  subst e9
  refine W.eq (g2 := F0 m 836 ls [.int w]) rfl ?_
  refine lv_istore (lv' := [(6, .int w), (5, .int k), (4, .int (nI i)), (3, .ref o), (2, .ref y), (1, .ref x), (0, .ref b)]) hx hb d_Law_law_836 hl (by decide) rfl (fun ls hl => ?_)
  refine lv_aload_n hx hb d_Law_law_838 rfl (lv_at hl 4 rfl) ?_
  have hth := s_thrown hE hV1 hI1
  obtain ⟨fs1, hy1⟩ := hV1.y
  refine hb_lcV (rest := []) hX2 hts hb_gd Y_Md_thrown (hth.frame hdj2) ml_Law_71 im_Md_thrown se_Md_thrown hK (hb_jn_l hy1) hC_Md.1 hz hP hD hS hA rfl hl.1 rfl (Nat.le_of_ble_eq_true rfl) ⟨Nat.le_of_ble_eq_true rfl, Nat.le_of_ble_eq_true rfl⟩ ⟨hc1, hc2⟩ d_Law_law_839 (fun v M1 H locs hq hP hD hS _ _ => ?_)
  refine W.widen (k := cells + 2) (n := slots + 120) (Nat.le_refl _) (Nat.le_refl _) ?_
  obtain ⟨My2, ⟨ev, e8⟩, e9, hdj3⟩ := hq
  subst ev
  rw [e8] at e9
  subst e9
  refine W.eq (g2 := F0 m 842 ls [.int k]) rfl ?_
  refine lv_iload hx hb d_Law_law_842 (lv_at hl 1 rfl) ?_
  refine lv_icmp_eq (tgt := 849) hx hb d_Law_law_844 (by decide) (fun c1 => ?_) (fun c1 => ?_)
  · skip
    refine lv_iload hx hb d_Law_law_849 (lv_at hl 1 rfl) ?_
    refine lv_if_ne (tgt := 866) hx hb d_Law_law_851 (by decide) (fun c2 => ?_) (fun c2 => ?_)
    · skip
      refine lv_goto (tgt := 1182) hx hb d_Law_law_866 (by decide) ?_
      exact kk ls _ _ _ (lv_sub hl [2, 3, 4, 5, 6] rfl) ⟨Mx1, My1, g1, ho, pa, tm1, k, A1, P1, na1, np1, bal1, mi1, f1, hb_jn_comm hdj2, hoM1, hdj2.symm, hX1, hV1, hI1⟩ hP hD hS
    · skip
      refine lv_aload_n hx hb d_Law_law_854 rfl (lv_at hl 3 rfl) ?_
      refine lv_iconst (v := 0) hx hb d_Law_law_855 (by decide) ?_
      have hoM3 : (hb_jn My1 (hb_jn Mx1 (hb_one o (jE cJ g1)))) o = some (jE cJ g1) := by rw [hb_jn_comm hdj2, hb_jn_l (by rw [hb_jn_r hoM1]; exact hb_one_at)]
      refine va_lald hx hb hK (hP.one hoM3) 0 1 rfl rfl (show vp_in (nI 0) 1 from vp_in_nI (by omega) (by omega)) d_Law_law_856 ?_
      refine W.eq (g2 := F0 m 857 ls [.long (g1 0)]) rfl ?_
      refine lv_iload hx hb d_Law_law_857 (lv_at hl 0 rfl) ?_
      refine lv_i2l (v := w.toInt64) hx hb d_Law_law_859 rfl ?_
      refine hb_lc_eq (tgt := 866) hx hb d_Law_law_860 d_Law_law_861 (by decide) (fun c3 => ?_) (fun c3 => ?_)
      · skip
        refine lv_goto (tgt := 1182) hx hb d_Law_law_866 (by decide) ?_
        exact kk ls _ _ _ (lv_sub hl [2, 3, 4, 5, 6] rfl) ⟨Mx1, My1, g1, ho, pa, tm1, k, A1, P1, na1, np1, bal1, mi1, f1, hb_jn_comm hdj2, hoM1, hdj2.symm, hX1, hV1, hI1⟩ hP hD hS
      · skip
        exact absurd ((hg1 c2).trans (hkz c2)) c3
  · skip
    exact absurd rfl c1
set_option maxHeartbeats 4000000 in
set_option maxRecDepth 100000 in
theorem k_decide {p : Program} {l : Launch} {e : Env} {s : State} {m : MethodId} {below : List Frame} {meth : Method} {c : Code} {H : Heap} {locs : List Loc} {Q : State → Prop} {ls : Array Slot} {D : va_G} {cI cJ cO : ClassId} {e0 mi0 b L i x y o n cells slots : Nat} {xs : Nat → Int32} {M : hb_M} (C : lb_C p l s m c D cI cJ cO e0 mi0 b L xs) (hi : i + 6 ≤ L) (hn : n < 520) (hcs : cells + 2 ≤ 601024 ∧ slots + 120 ≤ 7293000) (hT : lb_S cI cJ cO e0 x y o n M) (hP : hb_P D hb_cl M H) (hD : hb_D (fun q => s.heap.size ≤ q) M) (hS : va_S (fun q => s.heap.size ≤ q) s.heap H locs) (hl : lv_has ls 8 (lb_L b x y o i))
    (kk : ∀ (ls : Array Slot) (M : hb_M) (H : Heap) (locs : List Loc), lv_has ls 8 (lb_L b x y o i) → lb_S cI cJ cO e0 x y o (n + 1) M → hb_P D hb_cl M H → hb_D (fun q => s.heap.size ≤ q) M → va_S (fun q => s.heap.size ≤ q) s.heap H locs → W p l e room_1 s m #[Value.ref b] below meth c H locs (cells + 2) (slots + 120) Q (F0 m 1182 ls [])) : W p l e room_1 s m #[Value.ref b] below meth c H locs cells slots Q (F0 m 869 ls []) := by
  obtain ⟨hX2, hE, hXs, hbl, hL⟩ := C
  obtain ⟨hx, hb, hml, hown, hG⟩ := id hX2
  have hts := hE.ts hG #[Value.ref b]
  have hK := hE.kn hG
  have hz : hb_Z s (fun q => s.heap.size ≤ q) := fun q h => h
  have hA : ∀ q, s.heap.size ≤ q → (fun q => s.heap.size ≤ q) q := fun q h => h
  have hbA : ¬ (fun q => s.heap.size ≤ q) b := fun h => absurd hbl (Nat.not_lt.mpr h)
  obtain ⟨Mx, My, g, ho, pa, tm, cd, A, P, na, np, bal, mi, f, eM, hoM, hdj, hX, hV, hI⟩ := hT
  subst eM
  obtain ⟨hc1, hc2⟩ := hcs
  have hl : lv_has ls 8 [(4, .int (nI i)), (3, .ref o), (2, .ref y), (1, .ref x), (0, .ref b)] := hl
  obtain ⟨a1, e1⟩ : ∃ a, xs (nI i + 1).toNatClampNeg = a := ⟨_, rfl⟩
  obtain ⟨a2, e2⟩ : ∃ a, xs (nI i + 2).toNatClampNeg = a := ⟨_, rfl⟩
  refine lv_aload_n hx hb d_Law_law_869 rfl (lv_at hl 3 rfl) ?_
  refine lv_aload_n hx hb d_Law_law_870 rfl (lv_at hl 4 rfl) ?_
  refine lv_iload hx hb d_Law_law_871 (lv_at hl 0 rfl) ?_
  refine lv_iconst (v := 1) hx hb d_Law_law_873 (by decide) ?_
  refine lv_iadd hx hb d_Law_law_874 ?_
  refine lb_sld hx hb hXs hbl hbA hS (lb_v1 hi hL) e1 d_Law_law_875 ?_
  refine lv_aload_n hx hb d_Law_law_876 rfl (lv_at hl 4 rfl) ?_
  refine lv_iload hx hb d_Law_law_877 (lv_at hl 0 rfl) ?_
  refine lv_iconst (v := 2) hx hb d_Law_law_879 (by decide) ?_
  refine lv_iadd hx hb d_Law_law_880 ?_
  refine lb_sld hx hb hXs hbl hbA hS (lb_v2 hi hL) e2 d_Law_law_881 ?_
  refine lv_if_eq (tgt := 889) hx hb d_Law_law_882 (by decide) (fun c1 => ?_) (fun c1 => ?_)
  · skip
    refine lv_iconst (v := 0) hx hb d_Law_law_889 (by decide) ?_
    refine lv_aload_n hx hb d_Law_law_890 rfl (lv_at hl 1 rfl) ?_
    obtain ⟨k, z, w, tm1, A1, P1, na1, np1, bal1, mi1, f1, hI1, hkz, hXm, hYm⟩ := s_decide hE g hX hV hI hn hoM a1 0
    refine hb_lcSW (rest := []) hX2 hts hb_gd YW_decide (hXm.frame hdj) ml_Law_97 st_Law_decide hz hP hD hS hA rfl hl.1 rfl (Nat.le_of_ble_eq_true rfl) ⟨Nat.le_of_ble_eq_true rfl, Nat.le_of_ble_eq_true rfl⟩ ⟨hc1, hc2⟩ d_Law_law_891 (fun v M1 H locs hq hP hD hS _ _ => ?_)
    refine W.widen (k := cells + 2) (n := slots + 120) (Nat.le_refl _) (Nat.le_refl _) ?_
    obtain ⟨M2, ⟨ev, Mx1, g1, e8, hoM1, hX1, hg1⟩, e9, hdj1⟩ := hq
    subst ev
    subst e8
    subst e9
    refine W.eq (g2 := F0 m 894 ls [.int k]) rfl ?_
    refine lv_istore (lv' := [(5, .int k), (4, .int (nI i)), (3, .ref o), (2, .ref y), (1, .ref x), (0, .ref b)]) hx hb d_Law_law_894 hl (by decide) rfl (fun ls hl => ?_)
    refine lv_aload_n hx hb d_Law_law_896 rfl (lv_at hl 3 rfl) ?_
    refine lv_aload_n hx hb d_Law_law_897 rfl (lv_at hl 5 rfl) ?_
    refine lv_iload hx hb d_Law_law_898 (lv_at hl 1 rfl) ?_
    refine lv_iconst (v := 1) hx hb d_Law_law_900 (by decide) ?_
    refine lv_iadd hx hb d_Law_law_901 ?_
    refine lb_sld hx hb hXs hbl hbA hS (lb_v1 hi hL) e1 d_Law_law_902 ?_
    refine lv_aload_n hx hb d_Law_law_903 rfl (lv_at hl 5 rfl) ?_
    refine lv_iload hx hb d_Law_law_904 (lv_at hl 1 rfl) ?_
    refine lv_iconst (v := 2) hx hb d_Law_law_906 (by decide) ?_
    refine lv_iadd hx hb d_Law_law_907 ?_
    refine lb_sld hx hb hXs hbl hbA hS (lb_v2 hi hL) e2 d_Law_law_908 ?_
    refine lv_if_eq (tgt := 916) hx hb d_Law_law_909 (by decide) (fun c2 => ?_) (fun c2 => ?_)
    · skip
      refine lv_iconst (v := 0) hx hb d_Law_law_916 (by decide) ?_
      rw [hb_jn_comm hdj1] at hP hD
      obtain ⟨fs, hy⟩ := hV.y
      refine hb_lcV (rest := []) hX2 hts hb_gd Y_Md_decide (hYm.frame hdj1.symm) ml_Law_100 im_Md_decide se_Md_decide hK (hb_jn_l hy) hC_Md.1 hz hP hD hS hA rfl hl.1 rfl (Nat.le_of_ble_eq_true rfl) ⟨Nat.le_of_ble_eq_true rfl, Nat.le_of_ble_eq_true rfl⟩ ⟨hc1, hc2⟩ d_Law_law_917 (fun v M1 H locs hq hP hD hS _ _ => ?_)
      refine W.widen (k := cells + 2) (n := slots + 120) (Nat.le_refl _) (Nat.le_refl _) ?_
      obtain ⟨My1, ⟨ev, hV1⟩, e9, hdj2⟩ := hq
      subst ev
      subst e9
      refine W.eq (g2 := F0 m 920 ls [.int w]) rfl ?_
      refine lv_istore (lv' := [(6, .int w), (5, .int k), (4, .int (nI i)), (3, .ref o), (2, .ref y), (1, .ref x), (0, .ref b)]) hx hb d_Law_law_920 hl (by decide) rfl (fun ls hl => ?_)
      refine lv_aload_n hx hb d_Law_law_922 rfl (lv_at hl 4 rfl) ?_
      have hth := s_thrown hE hV1 hI1
      obtain ⟨fs1, hy1⟩ := hV1.y
      refine hb_lcV (rest := []) hX2 hts hb_gd Y_Md_thrown (hth.frame hdj2) ml_Law_71 im_Md_thrown se_Md_thrown hK (hb_jn_l hy1) hC_Md.1 hz hP hD hS hA rfl hl.1 rfl (Nat.le_of_ble_eq_true rfl) ⟨Nat.le_of_ble_eq_true rfl, Nat.le_of_ble_eq_true rfl⟩ ⟨hc1, hc2⟩ d_Law_law_923 (fun v M1 H locs hq hP hD hS _ _ => ?_)
      refine W.widen (k := cells + 2) (n := slots + 120) (Nat.le_refl _) (Nat.le_refl _) ?_
      obtain ⟨My2, ⟨ev, e8⟩, e9, hdj3⟩ := hq
      subst ev
      rw [e8] at e9
      subst e9
      refine W.eq (g2 := F0 m 926 ls [.int k]) rfl ?_
      refine lv_iload hx hb d_Law_law_926 (lv_at hl 1 rfl) ?_
      refine lv_icmp_eq (tgt := 933) hx hb d_Law_law_928 (by decide) (fun c3 => ?_) (fun c3 => ?_)
      · skip
        refine lv_iload hx hb d_Law_law_933 (lv_at hl 1 rfl) ?_
        refine lv_if_ne (tgt := 950) hx hb d_Law_law_935 (by decide) (fun c4 => ?_) (fun c4 => ?_)
        · skip
          refine lv_goto (tgt := 1182) hx hb d_Law_law_950 (by decide) ?_
          exact kk ls _ _ _ (lv_sub hl [2, 3, 4, 5, 6] rfl) ⟨Mx1, My1, g1, ho, pa, tm1, k, A1, P1, na1, np1, bal1, mi1, f1, hb_jn_comm hdj2, hoM1, hdj2.symm, hX1, hV1, hI1⟩ hP hD hS
        · skip
          refine lv_aload_n hx hb d_Law_law_938 rfl (lv_at hl 3 rfl) ?_
          refine lv_iconst (v := 0) hx hb d_Law_law_939 (by decide) ?_
          have hoM3 : (hb_jn My1 (hb_jn Mx1 (hb_one o (jE cJ g1)))) o = some (jE cJ g1) := by rw [hb_jn_comm hdj2, hb_jn_l (by rw [hb_jn_r hoM1]; exact hb_one_at)]
          refine va_lald hx hb hK (hP.one hoM3) 0 1 rfl rfl (show vp_in (nI 0) 1 from vp_in_nI (by omega) (by omega)) d_Law_law_940 ?_
          refine W.eq (g2 := F0 m 941 ls [.long (g1 0)]) rfl ?_
          refine lv_iload hx hb d_Law_law_941 (lv_at hl 0 rfl) ?_
          refine lv_i2l (v := w.toInt64) hx hb d_Law_law_943 rfl ?_
          refine hb_lc_eq (tgt := 950) hx hb d_Law_law_944 d_Law_law_945 (by decide) (fun c5 => ?_) (fun c5 => ?_)
          · skip
            refine lv_goto (tgt := 1182) hx hb d_Law_law_950 (by decide) ?_
            exact kk ls _ _ _ (lv_sub hl [2, 3, 4, 5, 6] rfl) ⟨Mx1, My1, g1, ho, pa, tm1, k, A1, P1, na1, np1, bal1, mi1, f1, hb_jn_comm hdj2, hoM1, hdj2.symm, hX1, hV1, hI1⟩ hP hD hS
          · skip
            exact absurd ((hg1 c4).trans (hkz c4)) c5
      · skip
        exact absurd rfl c3
    · skip
      exact absurd c1 c2
  · skip
    refine lv_iconst (v := 1) hx hb d_Law_law_885 (by decide) ?_
    refine lv_goto (tgt := 890) hx hb d_Law_law_886 (by decide) ?_
    refine lv_aload_n hx hb d_Law_law_890 rfl (lv_at hl 1 rfl) ?_
    obtain ⟨k, z, w, tm1, A1, P1, na1, np1, bal1, mi1, f1, hI1, hkz, hXm, hYm⟩ := s_decide hE g hX hV hI hn hoM a1 1
    refine hb_lcSW (rest := []) hX2 hts hb_gd YW_decide (hXm.frame hdj) ml_Law_97 st_Law_decide hz hP hD hS hA rfl hl.1 rfl (Nat.le_of_ble_eq_true rfl) ⟨Nat.le_of_ble_eq_true rfl, Nat.le_of_ble_eq_true rfl⟩ ⟨hc1, hc2⟩ d_Law_law_891 (fun v M1 H locs hq hP hD hS _ _ => ?_)
    refine W.widen (k := cells + 2) (n := slots + 120) (Nat.le_refl _) (Nat.le_refl _) ?_
    obtain ⟨M2, ⟨ev, Mx1, g1, e8, hoM1, hX1, hg1⟩, e9, hdj1⟩ := hq
    subst ev
    subst e8
    subst e9
    refine W.eq (g2 := F0 m 894 ls [.int k]) rfl ?_
    refine lv_istore (lv' := [(5, .int k), (4, .int (nI i)), (3, .ref o), (2, .ref y), (1, .ref x), (0, .ref b)]) hx hb d_Law_law_894 hl (by decide) rfl (fun ls hl => ?_)
    refine lv_aload_n hx hb d_Law_law_896 rfl (lv_at hl 3 rfl) ?_
    refine lv_aload_n hx hb d_Law_law_897 rfl (lv_at hl 5 rfl) ?_
    refine lv_iload hx hb d_Law_law_898 (lv_at hl 1 rfl) ?_
    refine lv_iconst (v := 1) hx hb d_Law_law_900 (by decide) ?_
    refine lv_iadd hx hb d_Law_law_901 ?_
    refine lb_sld hx hb hXs hbl hbA hS (lb_v1 hi hL) e1 d_Law_law_902 ?_
    refine lv_aload_n hx hb d_Law_law_903 rfl (lv_at hl 5 rfl) ?_
    refine lv_iload hx hb d_Law_law_904 (lv_at hl 1 rfl) ?_
    refine lv_iconst (v := 2) hx hb d_Law_law_906 (by decide) ?_
    refine lv_iadd hx hb d_Law_law_907 ?_
    refine lb_sld hx hb hXs hbl hbA hS (lb_v2 hi hL) e2 d_Law_law_908 ?_
    refine lv_if_eq (tgt := 916) hx hb d_Law_law_909 (by decide) (fun c6 => ?_) (fun c6 => ?_)
    · skip
      exact absurd c6 c1
    · skip
      refine lv_iconst (v := 1) hx hb d_Law_law_912 (by decide) ?_
      refine lv_goto (tgt := 917) hx hb d_Law_law_913 (by decide) ?_
      rw [hb_jn_comm hdj1] at hP hD
      obtain ⟨fs, hy⟩ := hV.y
      refine hb_lcV (rest := []) hX2 hts hb_gd Y_Md_decide (hYm.frame hdj1.symm) ml_Law_100 im_Md_decide se_Md_decide hK (hb_jn_l hy) hC_Md.1 hz hP hD hS hA rfl hl.1 rfl (Nat.le_of_ble_eq_true rfl) ⟨Nat.le_of_ble_eq_true rfl, Nat.le_of_ble_eq_true rfl⟩ ⟨hc1, hc2⟩ d_Law_law_917 (fun v M1 H locs hq hP hD hS _ _ => ?_)
      refine W.widen (k := cells + 2) (n := slots + 120) (Nat.le_refl _) (Nat.le_refl _) ?_
      obtain ⟨My1, ⟨ev, hV1⟩, e9, hdj2⟩ := hq
      subst ev
      subst e9
      refine W.eq (g2 := F0 m 920 ls [.int w]) rfl ?_
      refine lv_istore (lv' := [(6, .int w), (5, .int k), (4, .int (nI i)), (3, .ref o), (2, .ref y), (1, .ref x), (0, .ref b)]) hx hb d_Law_law_920 hl (by decide) rfl (fun ls hl => ?_)
      refine lv_aload_n hx hb d_Law_law_922 rfl (lv_at hl 4 rfl) ?_
      have hth := s_thrown hE hV1 hI1
      obtain ⟨fs1, hy1⟩ := hV1.y
      refine hb_lcV (rest := []) hX2 hts hb_gd Y_Md_thrown (hth.frame hdj2) ml_Law_71 im_Md_thrown se_Md_thrown hK (hb_jn_l hy1) hC_Md.1 hz hP hD hS hA rfl hl.1 rfl (Nat.le_of_ble_eq_true rfl) ⟨Nat.le_of_ble_eq_true rfl, Nat.le_of_ble_eq_true rfl⟩ ⟨hc1, hc2⟩ d_Law_law_923 (fun v M1 H locs hq hP hD hS _ _ => ?_)
      refine W.widen (k := cells + 2) (n := slots + 120) (Nat.le_refl _) (Nat.le_refl _) ?_
      obtain ⟨My2, ⟨ev, e8⟩, e9, hdj3⟩ := hq
      subst ev
      rw [e8] at e9
      subst e9
      refine W.eq (g2 := F0 m 926 ls [.int k]) rfl ?_
      refine lv_iload hx hb d_Law_law_926 (lv_at hl 1 rfl) ?_
      refine lv_icmp_eq (tgt := 933) hx hb d_Law_law_928 (by decide) (fun c7 => ?_) (fun c7 => ?_)
      · skip
        refine lv_iload hx hb d_Law_law_933 (lv_at hl 1 rfl) ?_
        refine lv_if_ne (tgt := 950) hx hb d_Law_law_935 (by decide) (fun c8 => ?_) (fun c8 => ?_)
        · skip
          refine lv_goto (tgt := 1182) hx hb d_Law_law_950 (by decide) ?_
          exact kk ls _ _ _ (lv_sub hl [2, 3, 4, 5, 6] rfl) ⟨Mx1, My1, g1, ho, pa, tm1, k, A1, P1, na1, np1, bal1, mi1, f1, hb_jn_comm hdj2, hoM1, hdj2.symm, hX1, hV1, hI1⟩ hP hD hS
        · skip
          refine lv_aload_n hx hb d_Law_law_938 rfl (lv_at hl 3 rfl) ?_
          refine lv_iconst (v := 0) hx hb d_Law_law_939 (by decide) ?_
          have hoM3 : (hb_jn My1 (hb_jn Mx1 (hb_one o (jE cJ g1)))) o = some (jE cJ g1) := by rw [hb_jn_comm hdj2, hb_jn_l (by rw [hb_jn_r hoM1]; exact hb_one_at)]
          refine va_lald hx hb hK (hP.one hoM3) 0 1 rfl rfl (show vp_in (nI 0) 1 from vp_in_nI (by omega) (by omega)) d_Law_law_940 ?_
          refine W.eq (g2 := F0 m 941 ls [.long (g1 0)]) rfl ?_
          refine lv_iload hx hb d_Law_law_941 (lv_at hl 0 rfl) ?_
          refine lv_i2l (v := w.toInt64) hx hb d_Law_law_943 rfl ?_
          refine hb_lc_eq (tgt := 950) hx hb d_Law_law_944 d_Law_law_945 (by decide) (fun c9 => ?_) (fun c9 => ?_)
          · skip
            refine lv_goto (tgt := 1182) hx hb d_Law_law_950 (by decide) ?_
            exact kk ls _ _ _ (lv_sub hl [2, 3, 4, 5, 6] rfl) ⟨Mx1, My1, g1, ho, pa, tm1, k, A1, P1, na1, np1, bal1, mi1, f1, hb_jn_comm hdj2, hoM1, hdj2.symm, hX1, hV1, hI1⟩ hP hD hS
          · skip
            exact absurd ((hg1 c8).trans (hkz c8)) c9
      · skip
        exact absurd rfl c7
