/-! THE LAW'S CASES -/
set_option maxHeartbeats 4000000 in
set_option maxRecDepth 100000 in
theorem k_clear {p : Program} {l : Launch} {e : Env} {s : State} {m : MethodId} {below : List Frame} {meth : Method} {c : Code} {H : Heap} {locs : List Loc} {Q : State → Prop} {ls : Array Slot} {D : va_G} {cI cJ cO : ClassId} {e0 mi0 b L i x y o n cells slots : Nat} {xs : Nat → Int32} {M : hb_M} (C : lb_C p l s m c D cI cJ cO e0 mi0 b L xs) (hi : i + 6 ≤ L) (hn : n < 520) (hcs : cells + 2 ≤ 601024 ∧ slots + 120 ≤ 7293000) (hT : lb_S cI cJ cO e0 x y o n M) (hP : hb_P D hb_cl M H) (hD : hb_D (fun q => s.heap.size ≤ q) M) (hS : va_S (fun q => s.heap.size ≤ q) s.heap H locs) (hl : lv_has ls 8 (lb_L b x y o i))
    (kk : ∀ (ls : Array Slot) (M : hb_M) (H : Heap) (locs : List Loc), lv_has ls 8 (lb_L b x y o i) → lb_S cI cJ cO e0 x y o (n + 1) M → hb_P D hb_cl M H → hb_D (fun q => s.heap.size ≤ q) M → va_S (fun q => s.heap.size ≤ q) s.heap H locs → W p l e room_1 s m #[Value.ref b] below meth c H locs (cells + 2) (slots + 120) Q (F0 m 1182 ls [])) : W p l e room_1 s m #[Value.ref b] below meth c H locs cells slots Q (F0 m 403 ls []) := by
  obtain ⟨hX2, hE, hXs, hbl, hL⟩ := C
  obtain ⟨hx, hb, hml, hown, hG⟩ := id hX2
  have hts := hE.ts hG #[Value.ref b]
  have hK := hE.kn hG
  have hz : hb_Z s (fun q => s.heap.size ≤ q) := fun q h => h
  have hA : ∀ q, s.heap.size ≤ q → (fun q => s.heap.size ≤ q) q := fun q h => h
  have hbA : ¬ (fun q => s.heap.size ≤ q) b := fun h => absurd hbl (Nat.not_lt.mpr h)
  obtain ⟨Mx, My, g, ho, pa, tm, cd, A, P, na, np, bal, mi, f, eM, hoM, hdj, hX, hV, hI⟩ := hT
  subst eM
  obtain ⟨hc1, hc2⟩ := hcs
  have hl : lv_has ls 8 [(4, .int (nI i)), (3, .ref o), (2, .ref y), (1, .ref x), (0, .ref b)] := hl
  obtain ⟨a1, e1⟩ : ∃ a, xs (nI i + 1).toNatClampNeg = a := ⟨_, rfl⟩
  obtain ⟨a2, e2⟩ : ∃ a, xs (nI i + 2).toNatClampNeg = a := ⟨_, rfl⟩
  obtain ⟨a3, e3⟩ : ∃ a, xs (nI i + 3).toNatClampNeg = a := ⟨_, rfl⟩
  obtain ⟨a4, e4⟩ : ∃ a, xs (nI i + 4).toNatClampNeg = a := ⟨_, rfl⟩
  refine lv_aload_n hx hb d_Law_law_403 rfl (lv_at hl 3 rfl) ?_
  refine lv_aload_n hx hb d_Law_law_404 rfl (lv_at hl 4 rfl) ?_
  refine lv_iload hx hb d_Law_law_405 (lv_at hl 0 rfl) ?_
  refine lv_iconst (v := 1) hx hb d_Law_law_407 (by decide) ?_
  refine lv_iadd hx hb d_Law_law_408 ?_
  refine lb_sld hx hb hXs hbl hbA hS (lb_v1 hi hL) e1 d_Law_law_409 ?_
  refine lv_aload_n hx hb d_Law_law_410 rfl (lv_at hl 4 rfl) ?_
  refine lv_iload hx hb d_Law_law_411 (lv_at hl 0 rfl) ?_
  refine lv_iconst (v := 2) hx hb d_Law_law_413 (by decide) ?_
  refine lv_iadd hx hb d_Law_law_414 ?_
  refine lb_sld hx hb hXs hbl hbA hS (lb_v2 hi hL) e2 d_Law_law_415 ?_
  refine lv_i2l (v := a2.toInt64) hx hb d_Law_law_416 rfl ?_
  refine lv_bipush (v := 32) hx hb d_Law_law_417 (by decide) ?_
  refine lv_lshl (v := a2.toInt64 <<< ((32 : Int32).toInt64 &&& 63)) hx hb d_Law_law_419 rfl ?_
  refine lv_aload_n hx hb d_Law_law_420 rfl (lv_at hl 4 rfl) ?_
  refine lv_iload hx hb d_Law_law_421 (lv_at hl 0 rfl) ?_
  refine lv_iconst (v := 3) hx hb d_Law_law_423 (by decide) ?_
  refine lv_iadd hx hb d_Law_law_424 ?_
  refine lb_sld hx hb hXs hbl hbA hS (lb_v3 hi hL) e3 d_Law_law_425 ?_
  refine lv_i2l (v := a3.toInt64) hx hb d_Law_law_426 rfl ?_
  refine lv_ldc2 (v := 4294967295) hx hb hown (hts _ kc_Law_65) d_Law_law_427 ?_
  refine lv_land hx hb d_Law_law_430 ?_
  refine lv_lor hx hb d_Law_law_431 ?_
  refine lv_aload_n hx hb d_Law_law_432 rfl (lv_at hl 4 rfl) ?_
  refine lv_iload hx hb d_Law_law_433 (lv_at hl 0 rfl) ?_
  refine lv_iconst (v := 4) hx hb d_Law_law_435 (by decide) ?_
  refine lv_iadd hx hb d_Law_law_436 ?_
  refine lb_sld hx hb hXs hbl hbA hS (lb_v4 hi hL) e4 d_Law_law_437 ?_
  refine lv_if_eq (tgt := 445) hx hb d_Law_law_438 (by decide) (fun c1 => ?_) (fun c1 => ?_)
  · skip
    refine lv_iconst (v := 0) hx hb d_Law_law_445 (by decide) ?_
    refine lv_aload_n hx hb d_Law_law_446 rfl (lv_at hl 1 rfl) ?_
    obtain ⟨k, z, w, tm1, A1, P1, na1, np1, bal1, mi1, f1, hI1, hkz, hXm, hYm⟩ := s_clear hE g hX hV hI hn hoM a1 ((a2.toInt64 <<< ((32 : Int32).toInt64 &&& 63)) ||| (a3.toInt64 &&& 4294967295)) 0
    refine hb_lcSW (rest := []) hX2 hts hb_gd YW_clear (hXm.frame hdj) ml_Law_79 st_Law_clear hz hP hD hS hA rfl hl.1 rfl (Nat.le_of_ble_eq_true rfl) ⟨Nat.le_of_ble_eq_true rfl, Nat.le_of_ble_eq_true rfl⟩ ⟨hc1, hc2⟩ d_Law_law_447 (fun v M1 H locs hq hP hD hS _ _ => ?_)
    refine W.widen (k := cells + 2) (n := slots + 120) (Nat.le_refl _) (Nat.le_refl _) ?_
    obtain ⟨M2, ⟨ev, Mx1, g1, e8, hoM1, hX1, hg1⟩, e9, hdj1⟩ := hq
    subst ev
    subst e8
    subst e9
    refine W.eq (g2 := F0 m 450 ls [.int k]) rfl ?_
    refine lv_istore (lv' := [(5, .int k), (4, .int (nI i)), (3, .ref o), (2, .ref y), (1, .ref x), (0, .ref b)]) hx hb d_Law_law_450 hl (by decide) rfl (fun ls hl => ?_)
    refine lv_aload_n hx hb d_Law_law_452 rfl (lv_at hl 3 rfl) ?_
    refine lv_aload_n hx hb d_Law_law_453 rfl (lv_at hl 5 rfl) ?_
    refine lv_iload hx hb d_Law_law_454 (lv_at hl 1 rfl) ?_
    refine lv_iconst (v := 1) hx hb d_Law_law_456 (by decide) ?_
    refine lv_iadd hx hb d_Law_law_457 ?_
    refine lb_sld hx hb hXs hbl hbA hS (lb_v1 hi hL) e1 d_Law_law_458 ?_
    refine lv_aload_n hx hb d_Law_law_459 rfl (lv_at hl 5 rfl) ?_
    refine lv_iload hx hb d_Law_law_460 (lv_at hl 1 rfl) ?_
    refine lv_iconst (v := 2) hx hb d_Law_law_462 (by decide) ?_
    refine lv_iadd hx hb d_Law_law_463 ?_
    refine lb_sld hx hb hXs hbl hbA hS (lb_v2 hi hL) e2 d_Law_law_464 ?_
    refine lv_i2l (v := a2.toInt64) hx hb d_Law_law_465 rfl ?_
    refine lv_bipush (v := 32) hx hb d_Law_law_466 (by decide) ?_
    refine lv_lshl (v := a2.toInt64 <<< ((32 : Int32).toInt64 &&& 63)) hx hb d_Law_law_468 rfl ?_
    refine lv_aload_n hx hb d_Law_law_469 rfl (lv_at hl 5 rfl) ?_
    refine lv_iload hx hb d_Law_law_470 (lv_at hl 1 rfl) ?_
    refine lv_iconst (v := 3) hx hb d_Law_law_472 (by decide) ?_
    refine lv_iadd hx hb d_Law_law_473 ?_
    refine lb_sld hx hb hXs hbl hbA hS (lb_v3 hi hL) e3 d_Law_law_474 ?_
    refine lv_i2l (v := a3.toInt64) hx hb d_Law_law_475 rfl ?_
    refine lv_ldc2 (v := 4294967295) hx hb hown (hts _ kc_Law_65) d_Law_law_476 ?_
    refine lv_land hx hb d_Law_law_479 ?_
    refine lv_lor hx hb d_Law_law_480 ?_
    refine lv_aload_n hx hb d_Law_law_481 rfl (lv_at hl 5 rfl) ?_
    refine lv_iload hx hb d_Law_law_482 (lv_at hl 1 rfl) ?_
    refine lv_iconst (v := 4) hx hb d_Law_law_484 (by decide) ?_
    refine lv_iadd hx hb d_Law_law_485 ?_
    refine lb_sld hx hb hXs hbl hbA hS (lb_v4 hi hL) e4 d_Law_law_486 ?_
    refine lv_if_eq (tgt := 494) hx hb d_Law_law_487 (by decide) (fun c2 => ?_) (fun c2 => ?_)
    · skip
      refine lv_iconst (v := 0) hx hb d_Law_law_494 (by decide) ?_
      rw [hb_jn_comm hdj1] at hP hD
      obtain ⟨fs, hy⟩ := hV.y
      refine hb_lcV (rest := []) hX2 hts hb_gd Y_Md_clear (hYm.frame hdj1.symm) ml_Law_82 im_Md_clear se_Md_clear hK (hb_jn_l hy) hC_Md.1 hz hP hD hS hA rfl hl.1 rfl (Nat.le_of_ble_eq_true rfl) ⟨Nat.le_of_ble_eq_true rfl, Nat.le_of_ble_eq_true rfl⟩ ⟨hc1, hc2⟩ d_Law_law_495 (fun v M1 H locs hq hP hD hS _ _ => ?_)
      refine W.widen (k := cells + 2) (n := slots + 120) (Nat.le_refl _) (Nat.le_refl _) ?_
      obtain ⟨My1, ⟨ev, hV1⟩, e9, hdj2⟩ := hq
      subst ev
      subst e9
      refine W.eq (g2 := F0 m 498 ls [.long w]) rfl ?_
      refine lv_lstore (lv' := [(6, .long w), (5, .int k), (4, .int (nI i)), (3, .ref o), (2, .ref y), (1, .ref x), (0, .ref b)]) hx hb d_Law_law_498 hl (by decide) rfl (fun ls hl => ?_)
      refine lv_aload_n hx hb d_Law_law_500 rfl (lv_at hl 4 rfl) ?_
      have hth := s_thrown hE hV1 hI1
      obtain ⟨fs1, hy1⟩ := hV1.y
      refine hb_lcV (rest := []) hX2 hts hb_gd Y_Md_thrown (hth.frame hdj2) ml_Law_71 im_Md_thrown se_Md_thrown hK (hb_jn_l hy1) hC_Md.1 hz hP hD hS hA rfl hl.1 rfl (Nat.le_of_ble_eq_true rfl) ⟨Nat.le_of_ble_eq_true rfl, Nat.le_of_ble_eq_true rfl⟩ ⟨hc1, hc2⟩ d_Law_law_501 (fun v M1 H locs hq hP hD hS _ _ => ?_)
      refine W.widen (k := cells + 2) (n := slots + 120) (Nat.le_refl _) (Nat.le_refl _) ?_
      obtain ⟨My2, ⟨ev, e8⟩, e9, hdj3⟩ := hq
      subst ev
      rw [e8] at e9
      subst e9
      refine W.eq (g2 := F0 m 504 ls [.int k]) rfl ?_
      refine lv_iload hx hb d_Law_law_504 (lv_at hl 1 rfl) ?_
      refine lv_icmp_eq (tgt := 511) hx hb d_Law_law_506 (by decide) (fun c3 => ?_) (fun c3 => ?_)
      · skip
        refine lv_iload hx hb d_Law_law_511 (lv_at hl 1 rfl) ?_
        refine lv_if_ne (tgt := 527) hx hb d_Law_law_513 (by decide) (fun c4 => ?_) (fun c4 => ?_)
        · skip
          refine lv_goto (tgt := 1182) hx hb d_Law_law_527 (by decide) ?_
          exact kk ls _ _ _ (lv_sub hl [2, 3, 4, 5, 6] rfl) ⟨Mx1, My1, g1, ho, pa, tm1, k, A1, P1, na1, np1, bal1, mi1, f1, hb_jn_comm hdj2, hoM1, hdj2.symm, hX1, hV1, hI1⟩ hP hD hS
        · skip
          refine lv_aload_n hx hb d_Law_law_516 rfl (lv_at hl 3 rfl) ?_
          refine lv_iconst (v := 0) hx hb d_Law_law_517 (by decide) ?_
          have hoM3 : (hb_jn My1 (hb_jn Mx1 (hb_one o (jE cJ g1)))) o = some (jE cJ g1) := by rw [hb_jn_comm hdj2, hb_jn_l (by rw [hb_jn_r hoM1]; exact hb_one_at)]
          refine va_lald hx hb hK (hP.one hoM3) 0 1 rfl rfl (show vp_in (nI 0) 1 from vp_in_nI (by omega) (by omega)) d_Law_law_518 ?_
          refine W.eq (g2 := F0 m 519 ls [.long (g1 0)]) rfl ?_
          refine lv_lload hx hb d_Law_law_519 (lv_at hl 0 rfl) ?_
          refine hb_lc_eq (tgt := 527) hx hb d_Law_law_521 d_Law_law_522 (by decide) (fun c5 => ?_) (fun c5 => ?_)
          · skip
            refine lv_goto (tgt := 1182) hx hb d_Law_law_527 (by decide) ?_
            exact kk ls _ _ _ (lv_sub hl [2, 3, 4, 5, 6] rfl) ⟨Mx1, My1, g1, ho, pa, tm1, k, A1, P1, na1, np1, bal1, mi1, f1, hb_jn_comm hdj2, hoM1, hdj2.symm, hX1, hV1, hI1⟩ hP hD hS
          · skip
            exact absurd ((hg1 c4).trans (hkz c4)) c5
      · skip
        exact absurd rfl c3
    · skip
      exact absurd c1 c2
  · skip
    refine lv_iconst (v := 1) hx hb d_Law_law_441 (by decide) ?_
    refine lv_goto (tgt := 446) hx hb d_Law_law_442 (by decide) ?_
    refine lv_aload_n hx hb d_Law_law_446 rfl (lv_at hl 1 rfl) ?_
    obtain ⟨k, z, w, tm1, A1, P1, na1, np1, bal1, mi1, f1, hI1, hkz, hXm, hYm⟩ := s_clear hE g hX hV hI hn hoM a1 ((a2.toInt64 <<< ((32 : Int32).toInt64 &&& 63)) ||| (a3.toInt64 &&& 4294967295)) 1
    refine hb_lcSW (rest := []) hX2 hts hb_gd YW_clear (hXm.frame hdj) ml_Law_79 st_Law_clear hz hP hD hS hA rfl hl.1 rfl (Nat.le_of_ble_eq_true rfl) ⟨Nat.le_of_ble_eq_true rfl, Nat.le_of_ble_eq_true rfl⟩ ⟨hc1, hc2⟩ d_Law_law_447 (fun v M1 H locs hq hP hD hS _ _ => ?_)
    refine W.widen (k := cells + 2) (n := slots + 120) (Nat.le_refl _) (Nat.le_refl _) ?_
    obtain ⟨M2, ⟨ev, Mx1, g1, e8, hoM1, hX1, hg1⟩, e9, hdj1⟩ := hq
    subst ev
    subst e8
    subst e9
    refine W.eq (g2 := F0 m 450 ls [.int k]) rfl ?_
    refine lv_istore (lv' := [(5, .int k), (4, .int (nI i)), (3, .ref o), (2, .ref y), (1, .ref x), (0, .ref b)]) hx hb d_Law_law_450 hl (by decide) rfl (fun ls hl => ?_)
    refine lv_aload_n hx hb d_Law_law_452 rfl (lv_at hl 3 rfl) ?_
    refine lv_aload_n hx hb d_Law_law_453 rfl (lv_at hl 5 rfl) ?_
    refine lv_iload hx hb d_Law_law_454 (lv_at hl 1 rfl) ?_
    refine lv_iconst (v := 1) hx hb d_Law_law_456 (by decide) ?_
    refine lv_iadd hx hb d_Law_law_457 ?_
    refine lb_sld hx hb hXs hbl hbA hS (lb_v1 hi hL) e1 d_Law_law_458 ?_
    refine lv_aload_n hx hb d_Law_law_459 rfl (lv_at hl 5 rfl) ?_
    refine lv_iload hx hb d_Law_law_460 (lv_at hl 1 rfl) ?_
    refine lv_iconst (v := 2) hx hb d_Law_law_462 (by decide) ?_
    refine lv_iadd hx hb d_Law_law_463 ?_
    refine lb_sld hx hb hXs hbl hbA hS (lb_v2 hi hL) e2 d_Law_law_464 ?_
    refine lv_i2l (v := a2.toInt64) hx hb d_Law_law_465 rfl ?_
    refine lv_bipush (v := 32) hx hb d_Law_law_466 (by decide) ?_
    refine lv_lshl (v := a2.toInt64 <<< ((32 : Int32).toInt64 &&& 63)) hx hb d_Law_law_468 rfl ?_
    refine lv_aload_n hx hb d_Law_law_469 rfl (lv_at hl 5 rfl) ?_
    refine lv_iload hx hb d_Law_law_470 (lv_at hl 1 rfl) ?_
    refine lv_iconst (v := 3) hx hb d_Law_law_472 (by decide) ?_
    refine lv_iadd hx hb d_Law_law_473 ?_
    refine lb_sld hx hb hXs hbl hbA hS (lb_v3 hi hL) e3 d_Law_law_474 ?_
    refine lv_i2l (v := a3.toInt64) hx hb d_Law_law_475 rfl ?_
    refine lv_ldc2 (v := 4294967295) hx hb hown (hts _ kc_Law_65) d_Law_law_476 ?_
    refine lv_land hx hb d_Law_law_479 ?_
    refine lv_lor hx hb d_Law_law_480 ?_
    refine lv_aload_n hx hb d_Law_law_481 rfl (lv_at hl 5 rfl) ?_
    refine lv_iload hx hb d_Law_law_482 (lv_at hl 1 rfl) ?_
    refine lv_iconst (v := 4) hx hb d_Law_law_484 (by decide) ?_
    refine lv_iadd hx hb d_Law_law_485 ?_
    refine lb_sld hx hb hXs hbl hbA hS (lb_v4 hi hL) e4 d_Law_law_486 ?_
    refine lv_if_eq (tgt := 494) hx hb d_Law_law_487 (by decide) (fun c6 => ?_) (fun c6 => ?_)
    · skip
      exact absurd c6 c1
    · skip
      refine lv_iconst (v := 1) hx hb d_Law_law_490 (by decide) ?_
      refine lv_goto (tgt := 495) hx hb d_Law_law_491 (by decide) ?_
      rw [hb_jn_comm hdj1] at hP hD
      obtain ⟨fs, hy⟩ := hV.y
      refine hb_lcV (rest := []) hX2 hts hb_gd Y_Md_clear (hYm.frame hdj1.symm) ml_Law_82 im_Md_clear se_Md_clear hK (hb_jn_l hy) hC_Md.1 hz hP hD hS hA rfl hl.1 rfl (Nat.le_of_ble_eq_true rfl) ⟨Nat.le_of_ble_eq_true rfl, Nat.le_of_ble_eq_true rfl⟩ ⟨hc1, hc2⟩ d_Law_law_495 (fun v M1 H locs hq hP hD hS _ _ => ?_)
      refine W.widen (k := cells + 2) (n := slots + 120) (Nat.le_refl _) (Nat.le_refl _) ?_
      obtain ⟨My1, ⟨ev, hV1⟩, e9, hdj2⟩ := hq
      subst ev
      subst e9
      refine W.eq (g2 := F0 m 498 ls [.long w]) rfl ?_
      refine lv_lstore (lv' := [(6, .long w), (5, .int k), (4, .int (nI i)), (3, .ref o), (2, .ref y), (1, .ref x), (0, .ref b)]) hx hb d_Law_law_498 hl (by decide) rfl (fun ls hl => ?_)
      refine lv_aload_n hx hb d_Law_law_500 rfl (lv_at hl 4 rfl) ?_
      have hth := s_thrown hE hV1 hI1
      obtain ⟨fs1, hy1⟩ := hV1.y
      refine hb_lcV (rest := []) hX2 hts hb_gd Y_Md_thrown (hth.frame hdj2) ml_Law_71 im_Md_thrown se_Md_thrown hK (hb_jn_l hy1) hC_Md.1 hz hP hD hS hA rfl hl.1 rfl (Nat.le_of_ble_eq_true rfl) ⟨Nat.le_of_ble_eq_true rfl, Nat.le_of_ble_eq_true rfl⟩ ⟨hc1, hc2⟩ d_Law_law_501 (fun v M1 H locs hq hP hD hS _ _ => ?_)
      refine W.widen (k := cells + 2) (n := slots + 120) (Nat.le_refl _) (Nat.le_refl _) ?_
      obtain ⟨My2, ⟨ev, e8⟩, e9, hdj3⟩ := hq
      subst ev
      rw [e8] at e9
      subst e9
      refine W.eq (g2 := F0 m 504 ls [.int k]) rfl ?_
      refine lv_iload hx hb d_Law_law_504 (lv_at hl 1 rfl) ?_
      refine lv_icmp_eq (tgt := 511) hx hb d_Law_law_506 (by decide) (fun c7 => ?_) (fun c7 => ?_)
      · skip
        refine lv_iload hx hb d_Law_law_511 (lv_at hl 1 rfl) ?_
        refine lv_if_ne (tgt := 527) hx hb d_Law_law_513 (by decide) (fun c8 => ?_) (fun c8 => ?_)
        · skip
          refine lv_goto (tgt := 1182) hx hb d_Law_law_527 (by decide) ?_
          exact kk ls _ _ _ (lv_sub hl [2, 3, 4, 5, 6] rfl) ⟨Mx1, My1, g1, ho, pa, tm1, k, A1, P1, na1, np1, bal1, mi1, f1, hb_jn_comm hdj2, hoM1, hdj2.symm, hX1, hV1, hI1⟩ hP hD hS
        · skip
          refine lv_aload_n hx hb d_Law_law_516 rfl (lv_at hl 3 rfl) ?_
          refine lv_iconst (v := 0) hx hb d_Law_law_517 (by decide) ?_
          have hoM3 : (hb_jn My1 (hb_jn Mx1 (hb_one o (jE cJ g1)))) o = some (jE cJ g1) := by rw [hb_jn_comm hdj2, hb_jn_l (by rw [hb_jn_r hoM1]; exact hb_one_at)]
          refine va_lald hx hb hK (hP.one hoM3) 0 1 rfl rfl (show vp_in (nI 0) 1 from vp_in_nI (by omega) (by omega)) d_Law_law_518 ?_
          refine W.eq (g2 := F0 m 519 ls [.long (g1 0)]) rfl ?_
          refine lv_lload hx hb d_Law_law_519 (lv_at hl 0 rfl) ?_
          refine hb_lc_eq (tgt := 527) hx hb d_Law_law_521 d_Law_law_522 (by decide) (fun c9 => ?_) (fun c9 => ?_)
          · skip
            refine lv_goto (tgt := 1182) hx hb d_Law_law_527 (by decide) ?_
            exact kk ls _ _ _ (lv_sub hl [2, 3, 4, 5, 6] rfl) ⟨Mx1, My1, g1, ho, pa, tm1, k, A1, P1, na1, np1, bal1, mi1, f1, hb_jn_comm hdj2, hoM1, hdj2.symm, hX1, hV1, hI1⟩ hP hD hS
          · skip
            exact absurd ((hg1 c8).trans (hkz c8)) c9
      · skip
        exact absurd rfl c7
set_option maxHeartbeats 4000000 in
set_option maxRecDepth 100000 in
theorem k_undo {p : Program} {l : Launch} {e : Env} {s : State} {m : MethodId} {below : List Frame} {meth : Method} {c : Code} {H : Heap} {locs : List Loc} {Q : State → Prop} {ls : Array Slot} {D : va_G} {cI cJ cO : ClassId} {e0 mi0 b L i x y o n cells slots : Nat} {xs : Nat → Int32} {M : hb_M} (C : lb_C p l s m c D cI cJ cO e0 mi0 b L xs) (hi : i + 6 ≤ L) (hn : n < 520) (hcs : cells + 2 ≤ 601024 ∧ slots + 120 ≤ 7293000) (hT : lb_S cI cJ cO e0 x y o n M) (hP : hb_P D hb_cl M H) (hD : hb_D (fun q => s.heap.size ≤ q) M) (hS : va_S (fun q => s.heap.size ≤ q) s.heap H locs) (hl : lv_has ls 8 (lb_L b x y o i))
    (kk : ∀ (ls : Array Slot) (M : hb_M) (H : Heap) (locs : List Loc), lv_has ls 8 (lb_L b x y o i) → lb_S cI cJ cO e0 x y o (n + 1) M → hb_P D hb_cl M H → hb_D (fun q => s.heap.size ≤ q) M → va_S (fun q => s.heap.size ≤ q) s.heap H locs → W p l e room_1 s m #[Value.ref b] below meth c H locs (cells + 2) (slots + 120) Q (F0 m 1182 ls [])) : W p l e room_1 s m #[Value.ref b] below meth c H locs cells slots Q (F0 m 530 ls []) := by
  obtain ⟨hX2, hE, hXs, hbl, hL⟩ := C
  obtain ⟨hx, hb, hml, hown, hG⟩ := id hX2
  have hts := hE.ts hG #[Value.ref b]
  have hK := hE.kn hG
  have hz : hb_Z s (fun q => s.heap.size ≤ q) := fun q h => h
  have hA : ∀ q, s.heap.size ≤ q → (fun q => s.heap.size ≤ q) q := fun q h => h
  have hbA : ¬ (fun q => s.heap.size ≤ q) b := fun h => absurd hbl (Nat.not_lt.mpr h)
  obtain ⟨Mx, My, g, ho, pa, tm, cd, A, P, na, np, bal, mi, f, eM, hoM, hdj, hX, hV, hI⟩ := hT
  subst eM
  obtain ⟨hc1, hc2⟩ := hcs
  have hl : lv_has ls 8 [(4, .int (nI i)), (3, .ref o), (2, .ref y), (1, .ref x), (0, .ref b)] := hl
  obtain ⟨a1, e1⟩ : ∃ a, xs (nI i + 1).toNatClampNeg = a := ⟨_, rfl⟩
  obtain ⟨a2, e2⟩ : ∃ a, xs (nI i + 2).toNatClampNeg = a := ⟨_, rfl⟩
  obtain ⟨a3, e3⟩ : ∃ a, xs (nI i + 3).toNatClampNeg = a := ⟨_, rfl⟩
  obtain ⟨a4, e4⟩ : ∃ a, xs (nI i + 4).toNatClampNeg = a := ⟨_, rfl⟩
  refine lv_aload_n hx hb d_Law_law_530 rfl (lv_at hl 3 rfl) ?_
  refine lv_aload_n hx hb d_Law_law_531 rfl (lv_at hl 4 rfl) ?_
  refine lv_iload hx hb d_Law_law_532 (lv_at hl 0 rfl) ?_
  refine lv_iconst (v := 1) hx hb d_Law_law_534 (by decide) ?_
  refine lv_iadd hx hb d_Law_law_535 ?_
  refine lb_sld hx hb hXs hbl hbA hS (lb_v1 hi hL) e1 d_Law_law_536 ?_
  refine lv_aload_n hx hb d_Law_law_537 rfl (lv_at hl 4 rfl) ?_
  refine lv_iload hx hb d_Law_law_538 (lv_at hl 0 rfl) ?_
  refine lv_iconst (v := 2) hx hb d_Law_law_540 (by decide) ?_
  refine lv_iadd hx hb d_Law_law_541 ?_
  refine lb_sld hx hb hXs hbl hbA hS (lb_v2 hi hL) e2 d_Law_law_542 ?_
  refine lv_i2l (v := a2.toInt64) hx hb d_Law_law_543 rfl ?_
  refine lv_bipush (v := 32) hx hb d_Law_law_544 (by decide) ?_
  refine lv_lshl (v := a2.toInt64 <<< ((32 : Int32).toInt64 &&& 63)) hx hb d_Law_law_546 rfl ?_
  refine lv_aload_n hx hb d_Law_law_547 rfl (lv_at hl 4 rfl) ?_
  refine lv_iload hx hb d_Law_law_548 (lv_at hl 0 rfl) ?_
  refine lv_iconst (v := 3) hx hb d_Law_law_550 (by decide) ?_
  refine lv_iadd hx hb d_Law_law_551 ?_
  refine lb_sld hx hb hXs hbl hbA hS (lb_v3 hi hL) e3 d_Law_law_552 ?_
  refine lv_i2l (v := a3.toInt64) hx hb d_Law_law_553 rfl ?_
  refine lv_ldc2 (v := 4294967295) hx hb hown (hts _ kc_Law_65) d_Law_law_554 ?_
  refine lv_land hx hb d_Law_law_557 ?_
  refine lv_lor hx hb d_Law_law_558 ?_
  refine lv_aload_n hx hb d_Law_law_559 rfl (lv_at hl 4 rfl) ?_
  refine lv_iload hx hb d_Law_law_560 (lv_at hl 0 rfl) ?_
  refine lv_iconst (v := 4) hx hb d_Law_law_562 (by decide) ?_
  refine lv_iadd hx hb d_Law_law_563 ?_
  refine lb_sld hx hb hXs hbl hbA hS (lb_v4 hi hL) e4 d_Law_law_564 ?_
  refine lv_if_eq (tgt := 572) hx hb d_Law_law_565 (by decide) (fun c1 => ?_) (fun c1 => ?_)
  · skip
    refine lv_iconst (v := 0) hx hb d_Law_law_572 (by decide) ?_
    refine lv_aload_n hx hb d_Law_law_573 rfl (lv_at hl 1 rfl) ?_
    obtain ⟨k, z, w, tm1, A1, P1, na1, np1, bal1, mi1, f1, hI1, hkz, hXm, hYm⟩ := s_undo hE g hX hV hI hn hoM a1 ((a2.toInt64 <<< ((32 : Int32).toInt64 &&& 63)) ||| (a3.toInt64 &&& 4294967295)) 0
    refine hb_lcSW (rest := []) hX2 hts hb_gd YW_undo (hXm.frame hdj) ml_Law_83 st_Law_undo hz hP hD hS hA rfl hl.1 rfl (Nat.le_of_ble_eq_true rfl) ⟨Nat.le_of_ble_eq_true rfl, Nat.le_of_ble_eq_true rfl⟩ ⟨hc1, hc2⟩ d_Law_law_574 (fun v M1 H locs hq hP hD hS _ _ => ?_)
    refine W.widen (k := cells + 2) (n := slots + 120) (Nat.le_refl _) (Nat.le_refl _) ?_
    obtain ⟨M2, ⟨ev, Mx1, g1, e8, hoM1, hX1, hg1⟩, e9, hdj1⟩ := hq
    subst ev
    subst e8
    subst e9
    refine W.eq (g2 := F0 m 577 ls [.int k]) rfl ?_
    refine lv_istore (lv' := [(5, .int k), (4, .int (nI i)), (3, .ref o), (2, .ref y), (1, .ref x), (0, .ref b)]) hx hb d_Law_law_577 hl (by decide) rfl (fun ls hl => ?_)
    refine lv_aload_n hx hb d_Law_law_579 rfl (lv_at hl 3 rfl) ?_
    refine lv_aload_n hx hb d_Law_law_580 rfl (lv_at hl 5 rfl) ?_
    refine lv_iload hx hb d_Law_law_581 (lv_at hl 1 rfl) ?_
    refine lv_iconst (v := 1) hx hb d_Law_law_583 (by decide) ?_
    refine lv_iadd hx hb d_Law_law_584 ?_
    refine lb_sld hx hb hXs hbl hbA hS (lb_v1 hi hL) e1 d_Law_law_585 ?_
    refine lv_aload_n hx hb d_Law_law_586 rfl (lv_at hl 5 rfl) ?_
    refine lv_iload hx hb d_Law_law_587 (lv_at hl 1 rfl) ?_
    refine lv_iconst (v := 2) hx hb d_Law_law_589 (by decide) ?_
    refine lv_iadd hx hb d_Law_law_590 ?_
    refine lb_sld hx hb hXs hbl hbA hS (lb_v2 hi hL) e2 d_Law_law_591 ?_
    refine lv_i2l (v := a2.toInt64) hx hb d_Law_law_592 rfl ?_
    refine lv_bipush (v := 32) hx hb d_Law_law_593 (by decide) ?_
    refine lv_lshl (v := a2.toInt64 <<< ((32 : Int32).toInt64 &&& 63)) hx hb d_Law_law_595 rfl ?_
    refine lv_aload_n hx hb d_Law_law_596 rfl (lv_at hl 5 rfl) ?_
    refine lv_iload hx hb d_Law_law_597 (lv_at hl 1 rfl) ?_
    refine lv_iconst (v := 3) hx hb d_Law_law_599 (by decide) ?_
    refine lv_iadd hx hb d_Law_law_600 ?_
    refine lb_sld hx hb hXs hbl hbA hS (lb_v3 hi hL) e3 d_Law_law_601 ?_
    refine lv_i2l (v := a3.toInt64) hx hb d_Law_law_602 rfl ?_
    refine lv_ldc2 (v := 4294967295) hx hb hown (hts _ kc_Law_65) d_Law_law_603 ?_
    refine lv_land hx hb d_Law_law_606 ?_
    refine lv_lor hx hb d_Law_law_607 ?_
    refine lv_aload_n hx hb d_Law_law_608 rfl (lv_at hl 5 rfl) ?_
    refine lv_iload hx hb d_Law_law_609 (lv_at hl 1 rfl) ?_
    refine lv_iconst (v := 4) hx hb d_Law_law_611 (by decide) ?_
    refine lv_iadd hx hb d_Law_law_612 ?_
    refine lb_sld hx hb hXs hbl hbA hS (lb_v4 hi hL) e4 d_Law_law_613 ?_
    refine lv_if_eq (tgt := 621) hx hb d_Law_law_614 (by decide) (fun c2 => ?_) (fun c2 => ?_)
    · skip
      refine lv_iconst (v := 0) hx hb d_Law_law_621 (by decide) ?_
      rw [hb_jn_comm hdj1] at hP hD
      obtain ⟨fs, hy⟩ := hV.y
      refine hb_lcV (rest := []) hX2 hts hb_gd Y_Md_undo (hYm.frame hdj1.symm) ml_Law_85 im_Md_undo se_Md_undo hK (hb_jn_l hy) hC_Md.1 hz hP hD hS hA rfl hl.1 rfl (Nat.le_of_ble_eq_true rfl) ⟨Nat.le_of_ble_eq_true rfl, Nat.le_of_ble_eq_true rfl⟩ ⟨hc1, hc2⟩ d_Law_law_622 (fun v M1 H locs hq hP hD hS _ _ => ?_)
      refine W.widen (k := cells + 2) (n := slots + 120) (Nat.le_refl _) (Nat.le_refl _) ?_
      obtain ⟨My1, ⟨ev, hV1⟩, e9, hdj2⟩ := hq
      subst ev
      subst e9
      refine W.eq (g2 := F0 m 625 ls [.long w]) rfl ?_
      refine lv_lstore (lv' := [(6, .long w), (5, .int k), (4, .int (nI i)), (3, .ref o), (2, .ref y), (1, .ref x), (0, .ref b)]) hx hb d_Law_law_625 hl (by decide) rfl (fun ls hl => ?_)
      refine lv_aload_n hx hb d_Law_law_627 rfl (lv_at hl 4 rfl) ?_
      have hth := s_thrown hE hV1 hI1
      obtain ⟨fs1, hy1⟩ := hV1.y
      refine hb_lcV (rest := []) hX2 hts hb_gd Y_Md_thrown (hth.frame hdj2) ml_Law_71 im_Md_thrown se_Md_thrown hK (hb_jn_l hy1) hC_Md.1 hz hP hD hS hA rfl hl.1 rfl (Nat.le_of_ble_eq_true rfl) ⟨Nat.le_of_ble_eq_true rfl, Nat.le_of_ble_eq_true rfl⟩ ⟨hc1, hc2⟩ d_Law_law_628 (fun v M1 H locs hq hP hD hS _ _ => ?_)
      refine W.widen (k := cells + 2) (n := slots + 120) (Nat.le_refl _) (Nat.le_refl _) ?_
      obtain ⟨My2, ⟨ev, e8⟩, e9, hdj3⟩ := hq
      subst ev
      rw [e8] at e9
      subst e9
      refine W.eq (g2 := F0 m 631 ls [.int k]) rfl ?_
      refine lv_iload hx hb d_Law_law_631 (lv_at hl 1 rfl) ?_
      refine lv_icmp_eq (tgt := 638) hx hb d_Law_law_633 (by decide) (fun c3 => ?_) (fun c3 => ?_)
      · skip
        refine lv_iload hx hb d_Law_law_638 (lv_at hl 1 rfl) ?_
        refine lv_if_ne (tgt := 654) hx hb d_Law_law_640 (by decide) (fun c4 => ?_) (fun c4 => ?_)
        · skip
          refine lv_goto (tgt := 1182) hx hb d_Law_law_654 (by decide) ?_
          exact kk ls _ _ _ (lv_sub hl [2, 3, 4, 5, 6] rfl) ⟨Mx1, My1, g1, ho, pa, tm1, k, A1, P1, na1, np1, bal1, mi1, f1, hb_jn_comm hdj2, hoM1, hdj2.symm, hX1, hV1, hI1⟩ hP hD hS
        · skip
          refine lv_aload_n hx hb d_Law_law_643 rfl (lv_at hl 3 rfl) ?_
          refine lv_iconst (v := 0) hx hb d_Law_law_644 (by decide) ?_
          have hoM3 : (hb_jn My1 (hb_jn Mx1 (hb_one o (jE cJ g1)))) o = some (jE cJ g1) := by rw [hb_jn_comm hdj2, hb_jn_l (by rw [hb_jn_r hoM1]; exact hb_one_at)]
          refine va_lald hx hb hK (hP.one hoM3) 0 1 rfl rfl (show vp_in (nI 0) 1 from vp_in_nI (by omega) (by omega)) d_Law_law_645 ?_
          refine W.eq (g2 := F0 m 646 ls [.long (g1 0)]) rfl ?_
          refine lv_lload hx hb d_Law_law_646 (lv_at hl 0 rfl) ?_
          refine hb_lc_eq (tgt := 654) hx hb d_Law_law_648 d_Law_law_649 (by decide) (fun c5 => ?_) (fun c5 => ?_)
          · skip
            refine lv_goto (tgt := 1182) hx hb d_Law_law_654 (by decide) ?_
            exact kk ls _ _ _ (lv_sub hl [2, 3, 4, 5, 6] rfl) ⟨Mx1, My1, g1, ho, pa, tm1, k, A1, P1, na1, np1, bal1, mi1, f1, hb_jn_comm hdj2, hoM1, hdj2.symm, hX1, hV1, hI1⟩ hP hD hS
          · skip
            exact absurd ((hg1 c4).trans (hkz c4)) c5
      · skip
        exact absurd rfl c3
    · skip
      exact absurd c1 c2
  · skip
    refine lv_iconst (v := 1) hx hb d_Law_law_568 (by decide) ?_
    refine lv_goto (tgt := 573) hx hb d_Law_law_569 (by decide) ?_
    refine lv_aload_n hx hb d_Law_law_573 rfl (lv_at hl 1 rfl) ?_
    obtain ⟨k, z, w, tm1, A1, P1, na1, np1, bal1, mi1, f1, hI1, hkz, hXm, hYm⟩ := s_undo hE g hX hV hI hn hoM a1 ((a2.toInt64 <<< ((32 : Int32).toInt64 &&& 63)) ||| (a3.toInt64 &&& 4294967295)) 1
    refine hb_lcSW (rest := []) hX2 hts hb_gd YW_undo (hXm.frame hdj) ml_Law_83 st_Law_undo hz hP hD hS hA rfl hl.1 rfl (Nat.le_of_ble_eq_true rfl) ⟨Nat.le_of_ble_eq_true rfl, Nat.le_of_ble_eq_true rfl⟩ ⟨hc1, hc2⟩ d_Law_law_574 (fun v M1 H locs hq hP hD hS _ _ => ?_)
    refine W.widen (k := cells + 2) (n := slots + 120) (Nat.le_refl _) (Nat.le_refl _) ?_
    obtain ⟨M2, ⟨ev, Mx1, g1, e8, hoM1, hX1, hg1⟩, e9, hdj1⟩ := hq
    subst ev
    subst e8
    subst e9
    refine W.eq (g2 := F0 m 577 ls [.int k]) rfl ?_
    refine lv_istore (lv' := [(5, .int k), (4, .int (nI i)), (3, .ref o), (2, .ref y), (1, .ref x), (0, .ref b)]) hx hb d_Law_law_577 hl (by decide) rfl (fun ls hl => ?_)
    refine lv_aload_n hx hb d_Law_law_579 rfl (lv_at hl 3 rfl) ?_
    refine lv_aload_n hx hb d_Law_law_580 rfl (lv_at hl 5 rfl) ?_
    refine lv_iload hx hb d_Law_law_581 (lv_at hl 1 rfl) ?_
    refine lv_iconst (v := 1) hx hb d_Law_law_583 (by decide) ?_
    refine lv_iadd hx hb d_Law_law_584 ?_
    refine lb_sld hx hb hXs hbl hbA hS (lb_v1 hi hL) e1 d_Law_law_585 ?_
    refine lv_aload_n hx hb d_Law_law_586 rfl (lv_at hl 5 rfl) ?_
    refine lv_iload hx hb d_Law_law_587 (lv_at hl 1 rfl) ?_
    refine lv_iconst (v := 2) hx hb d_Law_law_589 (by decide) ?_
    refine lv_iadd hx hb d_Law_law_590 ?_
    refine lb_sld hx hb hXs hbl hbA hS (lb_v2 hi hL) e2 d_Law_law_591 ?_
    refine lv_i2l (v := a2.toInt64) hx hb d_Law_law_592 rfl ?_
    refine lv_bipush (v := 32) hx hb d_Law_law_593 (by decide) ?_
    refine lv_lshl (v := a2.toInt64 <<< ((32 : Int32).toInt64 &&& 63)) hx hb d_Law_law_595 rfl ?_
    refine lv_aload_n hx hb d_Law_law_596 rfl (lv_at hl 5 rfl) ?_
    refine lv_iload hx hb d_Law_law_597 (lv_at hl 1 rfl) ?_
    refine lv_iconst (v := 3) hx hb d_Law_law_599 (by decide) ?_
    refine lv_iadd hx hb d_Law_law_600 ?_
    refine lb_sld hx hb hXs hbl hbA hS (lb_v3 hi hL) e3 d_Law_law_601 ?_
    refine lv_i2l (v := a3.toInt64) hx hb d_Law_law_602 rfl ?_
    refine lv_ldc2 (v := 4294967295) hx hb hown (hts _ kc_Law_65) d_Law_law_603 ?_
    refine lv_land hx hb d_Law_law_606 ?_
    refine lv_lor hx hb d_Law_law_607 ?_
    refine lv_aload_n hx hb d_Law_law_608 rfl (lv_at hl 5 rfl) ?_
    refine lv_iload hx hb d_Law_law_609 (lv_at hl 1 rfl) ?_
    refine lv_iconst (v := 4) hx hb d_Law_law_611 (by decide) ?_
    refine lv_iadd hx hb d_Law_law_612 ?_
    refine lb_sld hx hb hXs hbl hbA hS (lb_v4 hi hL) e4 d_Law_law_613 ?_
    refine lv_if_eq (tgt := 621) hx hb d_Law_law_614 (by decide) (fun c6 => ?_) (fun c6 => ?_)
    · skip
      exact absurd c6 c1
    · skip
      refine lv_iconst (v := 1) hx hb d_Law_law_617 (by decide) ?_
      refine lv_goto (tgt := 622) hx hb d_Law_law_618 (by decide) ?_
      rw [hb_jn_comm hdj1] at hP hD
      obtain ⟨fs, hy⟩ := hV.y
      refine hb_lcV (rest := []) hX2 hts hb_gd Y_Md_undo (hYm.frame hdj1.symm) ml_Law_85 im_Md_undo se_Md_undo hK (hb_jn_l hy) hC_Md.1 hz hP hD hS hA rfl hl.1 rfl (Nat.le_of_ble_eq_true rfl) ⟨Nat.le_of_ble_eq_true rfl, Nat.le_of_ble_eq_true rfl⟩ ⟨hc1, hc2⟩ d_Law_law_622 (fun v M1 H locs hq hP hD hS _ _ => ?_)
      refine W.widen (k := cells + 2) (n := slots + 120) (Nat.le_refl _) (Nat.le_refl _) ?_
      obtain ⟨My1, ⟨ev, hV1⟩, e9, hdj2⟩ := hq
      subst ev
      subst e9
      refine W.eq (g2 := F0 m 625 ls [.long w]) rfl ?_
      refine lv_lstore (lv' := [(6, .long w), (5, .int k), (4, .int (nI i)), (3, .ref o), (2, .ref y), (1, .ref x), (0, .ref b)]) hx hb d_Law_law_625 hl (by decide) rfl (fun ls hl => ?_)
      refine lv_aload_n hx hb d_Law_law_627 rfl (lv_at hl 4 rfl) ?_
      have hth := s_thrown hE hV1 hI1
      obtain ⟨fs1, hy1⟩ := hV1.y
      refine hb_lcV (rest := []) hX2 hts hb_gd Y_Md_thrown (hth.frame hdj2) ml_Law_71 im_Md_thrown se_Md_thrown hK (hb_jn_l hy1) hC_Md.1 hz hP hD hS hA rfl hl.1 rfl (Nat.le_of_ble_eq_true rfl) ⟨Nat.le_of_ble_eq_true rfl, Nat.le_of_ble_eq_true rfl⟩ ⟨hc1, hc2⟩ d_Law_law_628 (fun v M1 H locs hq hP hD hS _ _ => ?_)
      refine W.widen (k := cells + 2) (n := slots + 120) (Nat.le_refl _) (Nat.le_refl _) ?_
      obtain ⟨My2, ⟨ev, e8⟩, e9, hdj3⟩ := hq
      subst ev
      rw [e8] at e9
      subst e9
      refine W.eq (g2 := F0 m 631 ls [.int k]) rfl ?_
      refine lv_iload hx hb d_Law_law_631 (lv_at hl 1 rfl) ?_
      refine lv_icmp_eq (tgt := 638) hx hb d_Law_law_633 (by decide) (fun c7 => ?_) (fun c7 => ?_)
      · skip
        refine lv_iload hx hb d_Law_law_638 (lv_at hl 1 rfl) ?_
        refine lv_if_ne (tgt := 654) hx hb d_Law_law_640 (by decide) (fun c8 => ?_) (fun c8 => ?_)
        · skip
          refine lv_goto (tgt := 1182) hx hb d_Law_law_654 (by decide) ?_
          exact kk ls _ _ _ (lv_sub hl [2, 3, 4, 5, 6] rfl) ⟨Mx1, My1, g1, ho, pa, tm1, k, A1, P1, na1, np1, bal1, mi1, f1, hb_jn_comm hdj2, hoM1, hdj2.symm, hX1, hV1, hI1⟩ hP hD hS
        · skip
          refine lv_aload_n hx hb d_Law_law_643 rfl (lv_at hl 3 rfl) ?_
          refine lv_iconst (v := 0) hx hb d_Law_law_644 (by decide) ?_
          have hoM3 : (hb_jn My1 (hb_jn Mx1 (hb_one o (jE cJ g1)))) o = some (jE cJ g1) := by rw [hb_jn_comm hdj2, hb_jn_l (by rw [hb_jn_r hoM1]; exact hb_one_at)]
          refine va_lald hx hb hK (hP.one hoM3) 0 1 rfl rfl (show vp_in (nI 0) 1 from vp_in_nI (by omega) (by omega)) d_Law_law_645 ?_
          refine W.eq (g2 := F0 m 646 ls [.long (g1 0)]) rfl ?_
          refine lv_lload hx hb d_Law_law_646 (lv_at hl 0 rfl) ?_
          refine hb_lc_eq (tgt := 654) hx hb d_Law_law_648 d_Law_law_649 (by decide) (fun c9 => ?_) (fun c9 => ?_)
          · skip
            refine lv_goto (tgt := 1182) hx hb d_Law_law_654 (by decide) ?_
            exact kk ls _ _ _ (lv_sub hl [2, 3, 4, 5, 6] rfl) ⟨Mx1, My1, g1, ho, pa, tm1, k, A1, P1, na1, np1, bal1, mi1, f1, hb_jn_comm hdj2, hoM1, hdj2.symm, hX1, hV1, hI1⟩ hP hD hS
          · skip
            exact absurd ((hg1 c8).trans (hkz c8)) c9
      · skip
        exact absurd rfl c7
