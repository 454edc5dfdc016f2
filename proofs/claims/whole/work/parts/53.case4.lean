/-! THE LAW'S CASES -/
set_option maxHeartbeats 4000000 in
set_option maxRecDepth 100000 in
theorem k_forget {p : Program} {l : Launch} {e : Env} {s : State} {m : MethodId} {below : List Frame} {meth : Method} {c : Code} {H : Heap} {locs : List Loc} {Q : State → Prop} {ls : Array Slot} {D : va_G} {cI cJ cO : ClassId} {e0 mi0 b L i x y o n cells slots : Nat} {xs : Nat → Int32} {M : hb_M} (C : lb_C p l s m c D cI cJ cO e0 mi0 b L xs) (hi : i + 6 ≤ L) (hn : n < 520) (hcs : cells + 2 ≤ 601024 ∧ slots + 120 ≤ 7293000) (hT : lb_S cI cJ cO e0 x y o n M) (hP : hb_P D hb_cl M H) (hD : hb_D (fun q => s.heap.size ≤ q) M) (hS : va_S (fun q => s.heap.size ≤ q) s.heap H locs) (hl : lv_has ls 8 (lb_L b x y o i))
    (kk : ∀ (ls : Array Slot) (M : hb_M) (H : Heap) (locs : List Loc), lv_has ls 8 (lb_L b x y o i) → lb_S cI cJ cO e0 x y o (n + 1) M → hb_P D hb_cl M H → hb_D (fun q => s.heap.size ≤ q) M → va_S (fun q => s.heap.size ≤ q) s.heap H locs → W p l e room_1 s m #[Value.ref b] below meth c H locs (cells + 2) (slots + 120) Q (F0 m 1182 ls [])) : W p l e room_1 s m #[Value.ref b] below meth c H locs cells slots Q (F0 m 953 ls []) := by
  obtain ⟨hX2, hE, hXs, hbl, hL⟩ := C
  obtain ⟨hx, hb, hml, hown, hG⟩ := id hX2
  have hts := hE.ts hG #[Value.ref b]
  have hK := hE.kn hG
  have hz : hb_Z s (fun q => s.heap.size ≤ q) := fun q h => h
  have hA : ∀ q, s.heap.size ≤ q → (fun q => s.heap.size ≤ q) q := fun q h => h
  have hbA : ¬ (fun q => s.heap.size ≤ q) b := fun h => absurd hbl (Nat.not_lt.mpr h)
  obtain ⟨Mx, My, g, ho, pa, tm, cd, A, P, na, np, bal, mi, f, eM, hoM, hdj, hX, hV, hI⟩ := hT
  subst eM
  obtain ⟨hc1, hc2⟩ := hcs
  have hl : lv_has ls 8 [(4, .int (nI i)), (3, .ref o), (2, .ref y), (1, .ref x), (0, .ref b)] := hl
  refine lv_aload_n hx hb d_Law_law_953 rfl (lv_at hl 3 rfl) ?_
  obtain ⟨w, P1, np1, f1, hI1, hXm, hYm⟩ := s_forget hE hX hV hI hn
  have hdX := lb_djX (hb_dj_one.mpr hoM) hdj
  obtain ⟨fx, hx0⟩ := hX.x
  rw [hb_jn_assoc] at hP hD
  refine hb_lcV (rest := []) hX2 hts hb_gd Y_Hb_forget (hXm.frame hdX) ml_Law_101 im_Hb_forget se_Hb_forget hK (hb_jn_l hx0) hC_Hb.1 hz hP hD hS hA rfl hl.1 rfl (Nat.le_of_ble_eq_true rfl) ⟨Nat.le_of_ble_eq_true rfl, Nat.le_of_ble_eq_true rfl⟩ ⟨by show cells + 0 ≤ 601024; omega, by show slots + 0 ≤ 7293000; omega⟩ d_Law_law_954 (fun v M1 H locs hq hP hD hS _ _ => ?_)
  refine W.widen (k := cells + 2) (n := slots + 120) (show cells + 0 ≤ cells + 2 by omega) (show slots + 0 ≤ slots + 120 by omega) ?_
  obtain ⟨Mx1, ⟨ev, hX1⟩, e9, hdX1⟩ := hq
  subst ev
  subst e9
  have hoM1 := hb_dj_one.mp hdX1.symm.l.symm
  have hdj1 := lb_djY hdX1 hdj.r
  rw [← hb_jn_assoc] at hP hD
  refine W.eq (g2 := F0 m 957 ls [.int w]) rfl ?_
  refine lv_aload_n hx hb d_Law_law_957 rfl (lv_at hl 2 rfl) ?_
  rw [hb_jn_comm hdj1] at hP hD
  obtain ⟨fs, hy⟩ := hV.y
  refine hb_lcV (rest := [.int w]) hX2 hts hb_gd Y_Md_forget (hYm.frame hdj1.symm) ml_Law_104 im_Md_forget se_Md_forget hK (hb_jn_l hy) hC_Md.1 hz hP hD hS hA rfl hl.1 rfl (Nat.le_of_ble_eq_true rfl) ⟨Nat.le_of_ble_eq_true rfl, Nat.le_of_ble_eq_true rfl⟩ ⟨hc1, hc2⟩ d_Law_law_958 (fun v M1 H locs hq hP hD hS _ _ => ?_)
  refine W.widen (k := cells + 2) (n := slots + 120) (Nat.le_refl _) (Nat.le_refl _) ?_
  obtain ⟨My1, ⟨ev, hV1⟩, e9, hdj2⟩ := hq
  subst ev
  subst e9
  refine W.eq (g2 := F0 m 961 ls [.int w, .int w]) rfl ?_
  refine lv_icmp_eq (tgt := 1182) hx hb d_Law_law_961 (by decide) (fun c1 => ?_) (fun c1 => ?_)
  · skip
    exact kk ls _ _ _ (lv_sub hl [0, 1, 2, 3, 4] rfl) ⟨Mx1, My1, g, ho, pa, tm, 0, A, P1, na, np1, bal, mi, f1, hb_jn_comm hdj2, hoM1, hdj2.symm, hX1, hV1, hI1⟩ hP hD hS
  · skip
    exact absurd rfl c1
set_option maxHeartbeats 4000000 in
set_option maxRecDepth 100000 in
theorem k_payments {p : Program} {l : Launch} {e : Env} {s : State} {m : MethodId} {below : List Frame} {meth : Method} {c : Code} {H : Heap} {locs : List Loc} {Q : State → Prop} {ls : Array Slot} {D : va_G} {cI cJ cO : ClassId} {e0 mi0 b L i x y o n cells slots : Nat} {xs : Nat → Int32} {M : hb_M} (C : lb_C p l s m c D cI cJ cO e0 mi0 b L xs) (hi : i + 6 ≤ L) (hn : n < 520) (hcs : cells + 2 ≤ 601024 ∧ slots + 120 ≤ 7293000) (hT : lb_S cI cJ cO e0 x y o n M) (hP : hb_P D hb_cl M H) (hD : hb_D (fun q => s.heap.size ≤ q) M) (hS : va_S (fun q => s.heap.size ≤ q) s.heap H locs) (hl : lv_has ls 8 (lb_L b x y o i))
    (kk : ∀ (ls : Array Slot) (M : hb_M) (H : Heap) (locs : List Loc), lv_has ls 8 (lb_L b x y o i) → lb_S cI cJ cO e0 x y o (n + 1) M → hb_P D hb_cl M H → hb_D (fun q => s.heap.size ≤ q) M → va_S (fun q => s.heap.size ≤ q) s.heap H locs → W p l e room_1 s m #[Value.ref b] below meth c H locs (cells + 2) (slots + 120) Q (F0 m 1182 ls [])) : W p l e room_1 s m #[Value.ref b] below meth c H locs cells slots Q (F0 m 1156 ls []) := by
  obtain ⟨hX2, hE, hXs, hbl, hL⟩ := C
  obtain ⟨hx, hb, hml, hown, hG⟩ := id hX2
  have hts := hE.ts hG #[Value.ref b]
  have hK := hE.kn hG
  have hz : hb_Z s (fun q => s.heap.size ≤ q) := fun q h => h
  have hA : ∀ q, s.heap.size ≤ q → (fun q => s.heap.size ≤ q) q := fun q h => h
  have hbA : ¬ (fun q => s.heap.size ≤ q) b := fun h => absurd hbl (Nat.not_lt.mpr h)
  obtain ⟨Mx, My, g, ho, pa, tm, cd, A, P, na, np, bal, mi, f, eM, hoM, hdj, hX, hV, hI⟩ := hT
  subst eM
  obtain ⟨hc1, hc2⟩ := hcs
  have hl : lv_has ls 8 [(4, .int (nI i)), (3, .ref o), (2, .ref y), (1, .ref x), (0, .ref b)] := hl
  refine lv_aload_n hx hb d_Law_law_1156 rfl (lv_at hl 3 rfl) ?_
  obtain ⟨w, P1, np1, f1, hI1, hXm, hYm⟩ := s_payments hE hX hV hI hn
  have hdX := lb_djX (hb_dj_one.mpr hoM) hdj
  obtain ⟨fx, hx0⟩ := hX.x
  rw [hb_jn_assoc] at hP hD
  refine hb_lcV (rest := []) hX2 hts hb_gd Y_Hb_payments (hXm.frame hdX) ml_Law_115 im_Hb_payments se_Hb_payments hK (hb_jn_l hx0) hC_Hb.1 hz hP hD hS hA rfl hl.1 rfl (Nat.le_of_ble_eq_true rfl) ⟨Nat.le_of_ble_eq_true rfl, Nat.le_of_ble_eq_true rfl⟩ ⟨by show cells + 0 ≤ 601024; omega, by show slots + 0 ≤ 7293000; omega⟩ d_Law_law_1157 (fun v M1 H locs hq hP hD hS _ _ => ?_)
  refine W.widen (k := cells + 2) (n := slots + 120) (show cells + 0 ≤ cells + 2 by omega) (show slots + 0 ≤ slots + 120 by omega) ?_
  obtain ⟨Mx1, ⟨ev, hX1⟩, e9, hdX1⟩ := hq
  subst ev
  subst e9
  have hoM1 := hb_dj_one.mp hdX1.symm.l.symm
  have hdj1 := lb_djY hdX1 hdj.r
  rw [← hb_jn_assoc] at hP hD
  refine W.eq (g2 := F0 m 1160 ls [.int w]) rfl ?_
  refine lv_aload_n hx hb d_Law_law_1160 rfl (lv_at hl 2 rfl) ?_
  rw [hb_jn_comm hdj1] at hP hD
  obtain ⟨fs, hy⟩ := hV.y
  refine hb_lcV (rest := [.int w]) hX2 hts hb_gd Y_Md_payments (hYm.frame hdj1.symm) ml_Law_118 im_Md_payments se_Md_payments hK (hb_jn_l hy) hC_Md.1 hz hP hD hS hA rfl hl.1 rfl (Nat.le_of_ble_eq_true rfl) ⟨Nat.le_of_ble_eq_true rfl, Nat.le_of_ble_eq_true rfl⟩ ⟨hc1, hc2⟩ d_Law_law_1161 (fun v M1 H locs hq hP hD hS _ _ => ?_)
  refine W.widen (k := cells + 2) (n := slots + 120) (Nat.le_refl _) (Nat.le_refl _) ?_
  obtain ⟨My1, ⟨ev, hV1⟩, e9, hdj2⟩ := hq
  subst ev
  subst e9
  refine W.eq (g2 := F0 m 1164 ls [.int w, .int w]) rfl ?_
  refine lv_icmp_eq (tgt := 1182) hx hb d_Law_law_1164 (by decide) (fun c1 => ?_) (fun c1 => ?_)
  · skip
    exact kk ls _ _ _ (lv_sub hl [0, 1, 2, 3, 4] rfl) ⟨Mx1, My1, g, ho, pa, tm, 0, A, P1, na, np1, bal, mi, f1, hb_jn_comm hdj2, hoM1, hdj2.symm, hX1, hV1, hI1⟩ hP hD hS
  · skip
    exact absurd rfl c1
set_option maxHeartbeats 4000000 in
set_option maxRecDepth 100000 in
theorem k_audit {p : Program} {l : Launch} {e : Env} {s : State} {m : MethodId} {below : List Frame} {meth : Method} {c : Code} {H : Heap} {locs : List Loc} {Q : State → Prop} {ls : Array Slot} {D : va_G} {cI cJ cO : ClassId} {e0 mi0 b L i x y o n cells slots : Nat} {xs : Nat → Int32} {M : hb_M} (C : lb_C p l s m c D cI cJ cO e0 mi0 b L xs) (hi : i + 6 ≤ L) (hn : n < 520) (hcs : cells + 2 ≤ 601024 ∧ slots + 120 ≤ 7293000) (hT : lb_S cI cJ cO e0 x y o n M) (hP : hb_P D hb_cl M H) (hD : hb_D (fun q => s.heap.size ≤ q) M) (hS : va_S (fun q => s.heap.size ≤ q) s.heap H locs) (hl : lv_has ls 8 (lb_L b x y o i))
    (kk : ∀ (ls : Array Slot) (M : hb_M) (H : Heap) (locs : List Loc), lv_has ls 8 (lb_L b x y o i) → lb_S cI cJ cO e0 x y o (n + 1) M → hb_P D hb_cl M H → hb_D (fun q => s.heap.size ≤ q) M → va_S (fun q => s.heap.size ≤ q) s.heap H locs → W p l e room_1 s m #[Value.ref b] below meth c H locs (cells + 2) (slots + 120) Q (F0 m 1182 ls [])) : W p l e room_1 s m #[Value.ref b] below meth c H locs cells slots Q (F0 m 1169 ls []) := by
  obtain ⟨hX2, hE, hXs, hbl, hL⟩ := C
  obtain ⟨hx, hb, hml, hown, hG⟩ := id hX2
  have hts := hE.ts hG #[Value.ref b]
  have hK := hE.kn hG
  have hz : hb_Z s (fun q => s.heap.size ≤ q) := fun q h => h
  have hA : ∀ q, s.heap.size ≤ q → (fun q => s.heap.size ≤ q) q := fun q h => h
  have hbA : ¬ (fun q => s.heap.size ≤ q) b := fun h => absurd hbl (Nat.not_lt.mpr h)
  obtain ⟨Mx, My, g, ho, pa, tm, cd, A, P, na, np, bal, mi, f, eM, hoM, hdj, hX, hV, hI⟩ := hT
  subst eM
  obtain ⟨hc1, hc2⟩ := hcs
  have hl : lv_has ls 8 [(4, .int (nI i)), (3, .ref o), (2, .ref y), (1, .ref x), (0, .ref b)] := hl
  refine lv_aload_n hx hb d_Law_law_1169 rfl (lv_at hl 3 rfl) ?_
  obtain ⟨w, P1, np1, f1, hI1, hXm, hYm⟩ := s_audit hE hX hV hI hn
  have hdX := lb_djX (hb_dj_one.mpr hoM) hdj
  obtain ⟨fx, hx0⟩ := hX.x
  rw [hb_jn_assoc] at hP hD
  refine hb_lcV (rest := []) hX2 hts hb_gd Y_Hb_audit (hXm.frame hdX) ml_Law_119 im_Hb_audit se_Hb_audit hK (hb_jn_l hx0) hC_Hb.1 hz hP hD hS hA rfl hl.1 rfl (Nat.le_of_ble_eq_true rfl) ⟨Nat.le_of_ble_eq_true rfl, Nat.le_of_ble_eq_true rfl⟩ ⟨by show cells + 0 ≤ 601024; omega, by show slots + 0 ≤ 7293000; omega⟩ d_Law_law_1170 (fun v M1 H locs hq hP hD hS _ _ => ?_)
  refine W.widen (k := cells + 2) (n := slots + 120) (show cells + 0 ≤ cells + 2 by omega) (show slots + 0 ≤ slots + 120 by omega) ?_
  obtain ⟨Mx1, ⟨ev, hX1⟩, e9, hdX1⟩ := hq
  subst ev
  subst e9
  have hoM1 := hb_dj_one.mp hdX1.symm.l.symm
  have hdj1 := lb_djY hdX1 hdj.r
  rw [← hb_jn_assoc] at hP hD
  refine W.eq (g2 := F0 m 1173 ls [.int w]) rfl ?_
  refine lv_aload_n hx hb d_Law_law_1173 rfl (lv_at hl 2 rfl) ?_
  rw [hb_jn_comm hdj1] at hP hD
  obtain ⟨fs, hy⟩ := hV.y
  refine hb_lcV (rest := [.int w]) hX2 hts hb_gd Y_Md_audit (hYm.frame hdj1.symm) ml_Law_122 im_Md_audit se_Md_audit hK (hb_jn_l hy) hC_Md.1 hz hP hD hS hA rfl hl.1 rfl (Nat.le_of_ble_eq_true rfl) ⟨Nat.le_of_ble_eq_true rfl, Nat.le_of_ble_eq_true rfl⟩ ⟨hc1, hc2⟩ d_Law_law_1174 (fun v M1 H locs hq hP hD hS _ _ => ?_)
  refine W.widen (k := cells + 2) (n := slots + 120) (Nat.le_refl _) (Nat.le_refl _) ?_
  obtain ⟨My1, ⟨ev, hV1⟩, e9, hdj2⟩ := hq
  subst ev
  subst e9
  refine W.eq (g2 := F0 m 1177 ls [.int w, .int w]) rfl ?_
  refine lv_icmp_eq (tgt := 1182) hx hb d_Law_law_1177 (by decide) (fun c1 => ?_) (fun c1 => ?_)
  · skip
    exact kk ls _ _ _ (lv_sub hl [0, 1, 2, 3, 4] rfl) ⟨Mx1, My1, g, ho, pa, tm, 0, A, P1, na, np1, bal, mi, f1, hb_jn_comm hdj2, hoM1, hdj2.symm, hX1, hV1, hI1⟩ hP hD hS
  · skip
    exact absurd rfl c1
set_option maxHeartbeats 4000000 in
set_option maxRecDepth 100000 in
theorem k_funds {p : Program} {l : Launch} {e : Env} {s : State} {m : MethodId} {below : List Frame} {meth : Method} {c : Code} {H : Heap} {locs : List Loc} {Q : State → Prop} {ls : Array Slot} {D : va_G} {cI cJ cO : ClassId} {e0 mi0 b L i x y o n cells slots : Nat} {xs : Nat → Int32} {M : hb_M} (C : lb_C p l s m c D cI cJ cO e0 mi0 b L xs) (hi : i + 6 ≤ L) (hn : n < 520) (hcs : cells + 2 ≤ 601024 ∧ slots + 120 ≤ 7293000) (hT : lb_S cI cJ cO e0 x y o n M) (hP : hb_P D hb_cl M H) (hD : hb_D (fun q => s.heap.size ≤ q) M) (hS : va_S (fun q => s.heap.size ≤ q) s.heap H locs) (hl : lv_has ls 8 (lb_L b x y o i))
    (kk : ∀ (ls : Array Slot) (M : hb_M) (H : Heap) (locs : List Loc), lv_has ls 8 (lb_L b x y o i) → lb_S cI cJ cO e0 x y o (n + 1) M → hb_P D hb_cl M H → hb_D (fun q => s.heap.size ≤ q) M → va_S (fun q => s.heap.size ≤ q) s.heap H locs → W p l e room_1 s m #[Value.ref b] below meth c H locs (cells + 2) (slots + 120) Q (F0 m 1182 ls [])) : W p l e room_1 s m #[Value.ref b] below meth c H locs cells slots Q (F0 m 966 ls []) := by
  obtain ⟨hX2, hE, hXs, hbl, hL⟩ := C
  obtain ⟨hx, hb, hml, hown, hG⟩ := id hX2
  have hts := hE.ts hG #[Value.ref b]
  have hK := hE.kn hG
  have hz : hb_Z s (fun q => s.heap.size ≤ q) := fun q h => h
  have hA : ∀ q, s.heap.size ≤ q → (fun q => s.heap.size ≤ q) q := fun q h => h
  have hbA : ¬ (fun q => s.heap.size ≤ q) b := fun h => absurd hbl (Nat.not_lt.mpr h)
  obtain ⟨Mx, My, g, ho, pa, tm, cd, A, P, na, np, bal, mi, f, eM, hoM, hdj, hX, hV, hI⟩ := hT
  subst eM
  obtain ⟨hc1, hc2⟩ := hcs
  have hl : lv_has ls 8 [(4, .int (nI i)), (3, .ref o), (2, .ref y), (1, .ref x), (0, .ref b)] := hl
  obtain ⟨a1, e1⟩ : ∃ a, xs (nI i + 1).toNatClampNeg = a := ⟨_, rfl⟩
  obtain ⟨a2, e2⟩ : ∃ a, xs (nI i + 2).toNatClampNeg = a := ⟨_, rfl⟩
  refine lv_aload_n hx hb d_Law_law_966 rfl (lv_at hl 3 rfl) ?_
  refine lv_aload_n hx hb d_Law_law_967 rfl (lv_at hl 4 rfl) ?_
  refine lv_iload hx hb d_Law_law_968 (lv_at hl 0 rfl) ?_
  refine lv_iconst (v := 1) hx hb d_Law_law_970 (by decide) ?_
  refine lv_iadd hx hb d_Law_law_971 ?_
  refine lb_sld hx hb hXs hbl hbA hS (lb_v1 hi hL) e1 d_Law_law_972 ?_
  refine lv_aload_n hx hb d_Law_law_973 rfl (lv_at hl 4 rfl) ?_
  refine lv_iload hx hb d_Law_law_974 (lv_at hl 0 rfl) ?_
  refine lv_iconst (v := 2) hx hb d_Law_law_976 (by decide) ?_
  refine lv_iadd hx hb d_Law_law_977 ?_
  refine lb_sld hx hb hXs hbl hbA hS (lb_v2 hi hL) e2 d_Law_law_978 ?_
  refine lv_aload_n hx hb d_Law_law_979 rfl (lv_at hl 1 rfl) ?_
  obtain ⟨k, z, w, tm1, A1, P1, na1, np1, bal1, mi1, f1, hI1, hkz, hXm, hYm⟩ := s_funds hE g hX hV hI hn hoM a1 a2
  refine hb_lcSW (rest := []) hX2 hts hb_gd YW_funds (hXm.frame hdj) ml_Law_105 st_Law_funds hz hP hD hS hA rfl hl.1 rfl (Nat.le_of_ble_eq_true rfl) ⟨Nat.le_of_ble_eq_true rfl, Nat.le_of_ble_eq_true rfl⟩ ⟨hc1, hc2⟩ d_Law_law_980 (fun v M1 H locs hq hP hD hS _ _ => ?_)
  refine W.widen (k := cells + 2) (n := slots + 120) (Nat.le_refl _) (Nat.le_refl _) ?_
  obtain ⟨M2, ⟨ev, Mx1, g1, e8, hoM1, hX1, hg1⟩, e9, hdj1⟩ := hq
  subst ev
  subst e8
  subst e9
  refine W.eq (g2 := F0 m 983 ls [.int k]) rfl ?_
  refine lv_istore (lv' := [(5, .int k), (4, .int (nI i)), (3, .ref o), (2, .ref y), (1, .ref x), (0, .ref b)]) hx hb d_Law_law_983 hl (by decide) rfl (fun ls hl => ?_)
  refine lv_aload_n hx hb d_Law_law_985 rfl (lv_at hl 3 rfl) ?_
  refine lv_aload_n hx hb d_Law_law_986 rfl (lv_at hl 5 rfl) ?_
  refine lv_iload hx hb d_Law_law_987 (lv_at hl 1 rfl) ?_
  refine lv_iconst (v := 1) hx hb d_Law_law_989 (by decide) ?_
  refine lv_iadd hx hb d_Law_law_990 ?_
  refine lb_sld hx hb hXs hbl hbA hS (lb_v1 hi hL) e1 d_Law_law_991 ?_
  refine lv_aload_n hx hb d_Law_law_992 rfl (lv_at hl 5 rfl) ?_
  refine lv_iload hx hb d_Law_law_993 (lv_at hl 1 rfl) ?_
  refine lv_iconst (v := 2) hx hb d_Law_law_995 (by decide) ?_
  refine lv_iadd hx hb d_Law_law_996 ?_
  refine lb_sld hx hb hXs hbl hbA hS (lb_v2 hi hL) e2 d_Law_law_997 ?_
  rw [hb_jn_comm hdj1] at hP hD
  obtain ⟨fs, hy⟩ := hV.y
  refine hb_lcV (rest := []) hX2 hts hb_gd Y_Md_funds (hYm.frame hdj1.symm) ml_Law_108 im_Md_funds se_Md_funds hK (hb_jn_l hy) hC_Md.1 hz hP hD hS hA rfl hl.1 rfl (Nat.le_of_ble_eq_true rfl) ⟨Nat.le_of_ble_eq_true rfl, Nat.le_of_ble_eq_true rfl⟩ ⟨hc1, hc2⟩ d_Law_law_998 (fun v M1 H locs hq hP hD hS _ _ => ?_)
  refine W.widen (k := cells + 2) (n := slots + 120) (Nat.le_refl _) (Nat.le_refl _) ?_
  obtain ⟨My1, ⟨ev, hV1⟩, e9, hdj2⟩ := hq
  subst ev
  subst e9
  refine W.eq (g2 := F0 m 1001 ls [.long w]) rfl ?_
  refine lv_lstore (lv' := [(6, .long w), (5, .int k), (4, .int (nI i)), (3, .ref o), (2, .ref y), (1, .ref x), (0, .ref b)]) hx hb d_Law_law_1001 hl (by decide) rfl (fun ls hl => ?_)
  refine lv_aload_n hx hb d_Law_law_1003 rfl (lv_at hl 4 rfl) ?_
  have hth := s_thrown hE hV1 hI1
  obtain ⟨fs1, hy1⟩ := hV1.y
  refine hb_lcV (rest := []) hX2 hts hb_gd Y_Md_thrown (hth.frame hdj2) ml_Law_71 im_Md_thrown se_Md_thrown hK (hb_jn_l hy1) hC_Md.1 hz hP hD hS hA rfl hl.1 rfl (Nat.le_of_ble_eq_true rfl) ⟨Nat.le_of_ble_eq_true rfl, Nat.le_of_ble_eq_true rfl⟩ ⟨hc1, hc2⟩ d_Law_law_1004 (fun v M1 H locs hq hP hD hS _ _ => ?_)
  refine W.widen (k := cells + 2) (n := slots + 120) (Nat.le_refl _) (Nat.le_refl _) ?_
  obtain ⟨My2, ⟨ev, e8⟩, e9, hdj3⟩ := hq
  subst ev
  rw [e8] at e9
  subst e9
  refine W.eq (g2 := F0 m 1007 ls [.int k]) rfl ?_
  refine lv_iload hx hb d_Law_law_1007 (lv_at hl 1 rfl) ?_
  refine lv_icmp_eq (tgt := 1014) hx hb d_Law_law_1009 (by decide) (fun c1 => ?_) (fun c1 => ?_)
  · skip
    refine lv_iload hx hb d_Law_law_1014 (lv_at hl 1 rfl) ?_
    refine lv_if_ne (tgt := 1030) hx hb d_Law_law_1016 (by decide) (fun c2 => ?_) (fun c2 => ?_)
    · skip
      refine lv_goto (tgt := 1182) hx hb d_Law_law_1030 (by decide) ?_
      exact kk ls _ _ _ (lv_sub hl [2, 3, 4, 5, 6] rfl) ⟨Mx1, My1, g1, ho, pa, tm1, k, A1, P1, na1, np1, bal1, mi1, f1, hb_jn_comm hdj2, hoM1, hdj2.symm, hX1, hV1, hI1⟩ hP hD hS
    · skip
      refine lv_aload_n hx hb d_Law_law_1019 rfl (lv_at hl 3 rfl) ?_
      refine lv_iconst (v := 0) hx hb d_Law_law_1020 (by decide) ?_
      have hoM3 : (hb_jn My1 (hb_jn Mx1 (hb_one o (jE cJ g1)))) o = some (jE cJ g1) := by rw [hb_jn_comm hdj2, hb_jn_l (by rw [hb_jn_r hoM1]; exact hb_one_at)]
      refine va_lald hx hb hK (hP.one hoM3) 0 1 rfl rfl (show vp_in (nI 0) 1 from vp_in_nI (by omega) (by omega)) d_Law_law_1021 ?_
      refine W.eq (g2 := F0 m 1022 ls [.long (g1 0)]) rfl ?_
      refine lv_lload hx hb d_Law_law_1022 (lv_at hl 0 rfl) ?_
      refine hb_lc_eq (tgt := 1030) hx hb d_Law_law_1024 d_Law_law_1025 (by decide) (fun c3 => ?_) (fun c3 => ?_)
      · skip
        refine lv_goto (tgt := 1182) hx hb d_Law_law_1030 (by decide) ?_
        exact kk ls _ _ _ (lv_sub hl [2, 3, 4, 5, 6] rfl) ⟨Mx1, My1, g1, ho, pa, tm1, k, A1, P1, na1, np1, bal1, mi1, f1, hb_jn_comm hdj2, hoM1, hdj2.symm, hX1, hV1, hI1⟩ hP hD hS
      · skip
        exact absurd ((hg1 c2).trans (hkz c2)) c3
  · skip
    exact absurd rfl c1
set_option maxHeartbeats 4000000 in
set_option maxRecDepth 100000 in
theorem k_payment {p : Program} {l : Launch} {e : Env} {s : State} {m : MethodId} {below : List Frame} {meth : Method} {c : Code} {H : Heap} {locs : List Loc} {Q : State → Prop} {ls : Array Slot} {D : va_G} {cI cJ cO : ClassId} {e0 mi0 b L i x y o n cells slots : Nat} {xs : Nat → Int32} {M : hb_M} (C : lb_C p l s m c D cI cJ cO e0 mi0 b L xs) (hi : i + 6 ≤ L) (hn : n < 520) (hcs : cells + 2 ≤ 601024 ∧ slots + 120 ≤ 7293000) (hT : lb_S cI cJ cO e0 x y o n M) (hP : hb_P D hb_cl M H) (hD : hb_D (fun q => s.heap.size ≤ q) M) (hS : va_S (fun q => s.heap.size ≤ q) s.heap H locs) (hl : lv_has ls 8 (lb_L b x y o i))
    (kk : ∀ (ls : Array Slot) (M : hb_M) (H : Heap) (locs : List Loc), lv_has ls 8 (lb_L b x y o i) → lb_S cI cJ cO e0 x y o (n + 1) M → hb_P D hb_cl M H → hb_D (fun q => s.heap.size ≤ q) M → va_S (fun q => s.heap.size ≤ q) s.heap H locs → W p l e room_1 s m #[Value.ref b] below meth c H locs (cells + 2) (slots + 120) Q (F0 m 1182 ls [])) : W p l e room_1 s m #[Value.ref b] below meth c H locs cells slots Q (F0 m 1033 ls []) := by
  obtain ⟨hX2, hE, hXs, hbl, hL⟩ := C
  obtain ⟨hx, hb, hml, hown, hG⟩ := id hX2
  have hts := hE.ts hG #[Value.ref b]
  have hK := hE.kn hG
  have hz : hb_Z s (fun q => s.heap.size ≤ q) := fun q h => h
  have hA : ∀ q, s.heap.size ≤ q → (fun q => s.heap.size ≤ q) q := fun q h => h
  have hbA : ¬ (fun q => s.heap.size ≤ q) b := fun h => absurd hbl (Nat.not_lt.mpr h)
  obtain ⟨Mx, My, g, ho, pa, tm, cd, A, P, na, np, bal, mi, f, eM, hoM, hdj, hX, hV, hI⟩ := hT
  subst eM
  obtain ⟨hc1, hc2⟩ := hcs
  have hl : lv_has ls 8 [(4, .int (nI i)), (3, .ref o), (2, .ref y), (1, .ref x), (0, .ref b)] := hl
  obtain ⟨a1, e1⟩ : ∃ a, xs (nI i + 1).toNatClampNeg = a := ⟨_, rfl⟩
  obtain ⟨a2, e2⟩ : ∃ a, xs (nI i + 2).toNatClampNeg = a := ⟨_, rfl⟩
  refine lv_aload_n hx hb d_Law_law_1033 rfl (lv_at hl 3 rfl) ?_
  refine lv_aload_n hx hb d_Law_law_1034 rfl (lv_at hl 4 rfl) ?_
  refine lv_iload hx hb d_Law_law_1035 (lv_at hl 0 rfl) ?_
  refine lv_iconst (v := 1) hx hb d_Law_law_1037 (by decide) ?_
  refine lv_iadd hx hb d_Law_law_1038 ?_
  refine lb_sld hx hb hXs hbl hbA hS (lb_v1 hi hL) e1 d_Law_law_1039 ?_
  refine lv_aload_n hx hb d_Law_law_1040 rfl (lv_at hl 4 rfl) ?_
  refine lv_iload hx hb d_Law_law_1041 (lv_at hl 0 rfl) ?_
  refine lv_iconst (v := 2) hx hb d_Law_law_1043 (by decide) ?_
  refine lv_iadd hx hb d_Law_law_1044 ?_
  refine lb_sld hx hb hXs hbl hbA hS (lb_v2 hi hL) e2 d_Law_law_1045 ?_
  refine lv_aload_n hx hb d_Law_law_1046 rfl (lv_at hl 1 rfl) ?_
  obtain ⟨k, z, w, tm1, A1, P1, na1, np1, bal1, mi1, f1, hI1, hkz, hXm, hYm⟩ := s_payment hE g hX hV hI hn hoM a1 a2
  refine hb_lcSW (rest := []) hX2 hts hb_gd YW_payment (hXm.frame hdj) ml_Law_109 st_Law_payment hz hP hD hS hA rfl hl.1 rfl (Nat.le_of_ble_eq_true rfl) ⟨Nat.le_of_ble_eq_true rfl, Nat.le_of_ble_eq_true rfl⟩ ⟨hc1, hc2⟩ d_Law_law_1047 (fun v M1 H locs hq hP hD hS _ _ => ?_)
  refine W.widen (k := cells + 2) (n := slots + 120) (Nat.le_refl _) (Nat.le_refl _) ?_
  obtain ⟨M2, ⟨ev, Mx1, g1, e8, hoM1, hX1, hg1⟩, e9, hdj1⟩ := hq
  subst ev
  subst e8
  subst e9
  refine W.eq (g2 := F0 m 1050 ls [.int k]) rfl ?_
  refine lv_istore (lv' := [(5, .int k), (4, .int (nI i)), (3, .ref o), (2, .ref y), (1, .ref x), (0, .ref b)]) hx hb d_Law_law_1050 hl (by decide) rfl (fun ls hl => ?_)
  refine lv_aload_n hx hb d_Law_law_1052 rfl (lv_at hl 3 rfl) ?_
  refine lv_aload_n hx hb d_Law_law_1053 rfl (lv_at hl 5 rfl) ?_
  refine lv_iload hx hb d_Law_law_1054 (lv_at hl 1 rfl) ?_
  refine lv_iconst (v := 1) hx hb d_Law_law_1056 (by decide) ?_
  refine lv_iadd hx hb d_Law_law_1057 ?_
  refine lb_sld hx hb hXs hbl hbA hS (lb_v1 hi hL) e1 d_Law_law_1058 ?_
  refine lv_aload_n hx hb d_Law_law_1059 rfl (lv_at hl 5 rfl) ?_
  refine lv_iload hx hb d_Law_law_1060 (lv_at hl 1 rfl) ?_
  refine lv_iconst (v := 2) hx hb d_Law_law_1062 (by decide) ?_
  refine lv_iadd hx hb d_Law_law_1063 ?_
  refine lb_sld hx hb hXs hbl hbA hS (lb_v2 hi hL) e2 d_Law_law_1064 ?_
  rw [hb_jn_comm hdj1] at hP hD
  obtain ⟨fs, hy⟩ := hV.y
  refine hb_lcV (rest := []) hX2 hts hb_gd Y_Md_payment (hYm.frame hdj1.symm) ml_Law_111 im_Md_payment se_Md_payment hK (hb_jn_l hy) hC_Md.1 hz hP hD hS hA rfl hl.1 rfl (Nat.le_of_ble_eq_true rfl) ⟨Nat.le_of_ble_eq_true rfl, Nat.le_of_ble_eq_true rfl⟩ ⟨hc1, hc2⟩ d_Law_law_1065 (fun v M1 H locs hq hP hD hS _ _ => ?_)
  refine W.widen (k := cells + 2) (n := slots + 120) (Nat.le_refl _) (Nat.le_refl _) ?_
  obtain ⟨My1, ⟨ev, hV1⟩, e9, hdj2⟩ := hq
  subst ev
  subst e9
  refine W.eq (g2 := F0 m 1068 ls [.long w]) rfl ?_
  refine lv_lstore (lv' := [(6, .long w), (5, .int k), (4, .int (nI i)), (3, .ref o), (2, .ref y), (1, .ref x), (0, .ref b)]) hx hb d_Law_law_1068 hl (by decide) rfl (fun ls hl => ?_)
  refine lv_aload_n hx hb d_Law_law_1070 rfl (lv_at hl 4 rfl) ?_
  have hth := s_thrown hE hV1 hI1
  obtain ⟨fs1, hy1⟩ := hV1.y
  refine hb_lcV (rest := []) hX2 hts hb_gd Y_Md_thrown (hth.frame hdj2) ml_Law_71 im_Md_thrown se_Md_thrown hK (hb_jn_l hy1) hC_Md.1 hz hP hD hS hA rfl hl.1 rfl (Nat.le_of_ble_eq_true rfl) ⟨Nat.le_of_ble_eq_true rfl, Nat.le_of_ble_eq_true rfl⟩ ⟨hc1, hc2⟩ d_Law_law_1071 (fun v M1 H locs hq hP hD hS _ _ => ?_)
  refine W.widen (k := cells + 2) (n := slots + 120) (Nat.le_refl _) (Nat.le_refl _) ?_
  obtain ⟨My2, ⟨ev, e8⟩, e9, hdj3⟩ := hq
  subst ev
  rw [e8] at e9
  subst e9
  refine W.eq (g2 := F0 m 1074 ls [.int k]) rfl ?_
  refine lv_iload hx hb d_Law_law_1074 (lv_at hl 1 rfl) ?_
  refine lv_icmp_eq (tgt := 1081) hx hb d_Law_law_1076 (by decide) (fun c1 => ?_) (fun c1 => ?_)
  · skip
    refine lv_iload hx hb d_Law_law_1081 (lv_at hl 1 rfl) ?_
    refine lv_if_ne (tgt := 1097) hx hb d_Law_law_1083 (by decide) (fun c2 => ?_) (fun c2 => ?_)
    · skip
      refine lv_goto (tgt := 1182) hx hb d_Law_law_1097 (by decide) ?_
      exact kk ls _ _ _ (lv_sub hl [2, 3, 4, 5, 6] rfl) ⟨Mx1, My1, g1, ho, pa, tm1, k, A1, P1, na1, np1, bal1, mi1, f1, hb_jn_comm hdj2, hoM1, hdj2.symm, hX1, hV1, hI1⟩ hP hD hS
    · skip
      refine lv_aload_n hx hb d_Law_law_1086 rfl (lv_at hl 3 rfl) ?_
      refine lv_iconst (v := 0) hx hb d_Law_law_1087 (by decide) ?_
      have hoM3 : (hb_jn My1 (hb_jn Mx1 (hb_one o (jE cJ g1)))) o = some (jE cJ g1) := by rw [hb_jn_comm hdj2, hb_jn_l (by rw [hb_jn_r hoM1]; exact hb_one_at)]
      refine va_lald hx hb hK (hP.one hoM3) 0 1 rfl rfl (show vp_in (nI 0) 1 from vp_in_nI (by omega) (by omega)) d_Law_law_1088 ?_
      refine W.eq (g2 := F0 m 1089 ls [.long (g1 0)]) rfl ?_
      refine lv_lload hx hb d_Law_law_1089 (lv_at hl 0 rfl) ?_
      refine hb_lc_eq (tgt := 1097) hx hb d_Law_law_1091 d_Law_law_1092 (by decide) (fun c3 => ?_) (fun c3 => ?_)
      · skip
        refine lv_goto (tgt := 1182) hx hb d_Law_law_1097 (by decide) ?_
        exact kk ls _ _ _ (lv_sub hl [2, 3, 4, 5, 6] rfl) ⟨Mx1, My1, g1, ho, pa, tm1, k, A1, P1, na1, np1, bal1, mi1, f1, hb_jn_comm hdj2, hoM1, hdj2.symm, hX1, hV1, hI1⟩ hP hD hS
      · skip
        exact absurd ((hg1 c2).trans (hkz c2)) c3
  · skip
    exact absurd rfl c1
set_option maxHeartbeats 4000000 in
set_option maxRecDepth 100000 in
theorem k_key {p : Program} {l : Launch} {e : Env} {s : State} {m : MethodId} {below : List Frame} {meth : Method} {c : Code} {H : Heap} {locs : List Loc} {Q : State → Prop} {ls : Array Slot} {D : va_G} {cI cJ cO : ClassId} {e0 mi0 b L i x y o n cells slots : Nat} {xs : Nat → Int32} {M : hb_M} (C : lb_C p l s m c D cI cJ cO e0 mi0 b L xs) (hi : i + 6 ≤ L) (hn : n < 520) (hcs : cells + 2 ≤ 601024 ∧ slots + 120 ≤ 7293000) (hT : lb_S cI cJ cO e0 x y o n M) (hP : hb_P D hb_cl M H) (hD : hb_D (fun q => s.heap.size ≤ q) M) (hS : va_S (fun q => s.heap.size ≤ q) s.heap H locs) (hl : lv_has ls 8 (lb_L b x y o i))
    (kk : ∀ (ls : Array Slot) (M : hb_M) (H : Heap) (locs : List Loc), lv_has ls 8 (lb_L b x y o i) → lb_S cI cJ cO e0 x y o (n + 1) M → hb_P D hb_cl M H → hb_D (fun q => s.heap.size ≤ q) M → va_S (fun q => s.heap.size ≤ q) s.heap H locs → W p l e room_1 s m #[Value.ref b] below meth c H locs (cells + 2) (slots + 120) Q (F0 m 1182 ls [])) : W p l e room_1 s m #[Value.ref b] below meth c H locs cells slots Q (F0 m 1100 ls []) := by
  obtain ⟨hX2, hE, hXs, hbl, hL⟩ := C
  obtain ⟨hx, hb, hml, hown, hG⟩ := id hX2
  have hts := hE.ts hG #[Value.ref b]
  have hK := hE.kn hG
  have hz : hb_Z s (fun q => s.heap.size ≤ q) := fun q h => h
  have hA : ∀ q, s.heap.size ≤ q → (fun q => s.heap.size ≤ q) q := fun q h => h
  have hbA : ¬ (fun q => s.heap.size ≤ q) b := fun h => absurd hbl (Nat.not_lt.mpr h)
  obtain ⟨Mx, My, g, ho, pa, tm, cd, A, P, na, np, bal, mi, f, eM, hoM, hdj, hX, hV, hI⟩ := hT
  subst eM
  obtain ⟨hc1, hc2⟩ := hcs
  have hl : lv_has ls 8 [(4, .int (nI i)), (3, .ref o), (2, .ref y), (1, .ref x), (0, .ref b)] := hl
  obtain ⟨a1, e1⟩ : ∃ a, xs (nI i + 1).toNatClampNeg = a := ⟨_, rfl⟩
  refine lv_aload_n hx hb d_Law_law_1100 rfl (lv_at hl 3 rfl) ?_
  refine lv_aload_n hx hb d_Law_law_1101 rfl (lv_at hl 4 rfl) ?_
  refine lv_iload hx hb d_Law_law_1102 (lv_at hl 0 rfl) ?_
  refine lv_iconst (v := 1) hx hb d_Law_law_1104 (by decide) ?_
  refine lv_iadd hx hb d_Law_law_1105 ?_
  refine lb_sld hx hb hXs hbl hbA hS (lb_v1 hi hL) e1 d_Law_law_1106 ?_
  refine lv_aload_n hx hb d_Law_law_1107 rfl (lv_at hl 1 rfl) ?_
  obtain ⟨k, z, w, tm1, A1, P1, na1, np1, bal1, mi1, f1, hI1, hkz, hXm, hYm⟩ := s_key hE g hX hV hI hn hoM a1
  refine hb_lcSW (rest := []) hX2 hts hb_gd YW_key (hXm.frame hdj) ml_Law_112 st_Law_key hz hP hD hS hA rfl hl.1 rfl (Nat.le_of_ble_eq_true rfl) ⟨Nat.le_of_ble_eq_true rfl, Nat.le_of_ble_eq_true rfl⟩ ⟨hc1, hc2⟩ d_Law_law_1108 (fun v M1 H locs hq hP hD hS _ _ => ?_)
  refine W.widen (k := cells + 2) (n := slots + 120) (Nat.le_refl _) (Nat.le_refl _) ?_
  obtain ⟨M2, ⟨ev, Mx1, g1, e8, hoM1, hX1, hg1⟩, e9, hdj1⟩ := hq
  subst ev
  subst e8
  subst e9
  refine W.eq (g2 := F0 m 1111 ls [.int k]) rfl ?_
  refine lv_istore (lv' := [(5, .int k), (4, .int (nI i)), (3, .ref o), (2, .ref y), (1, .ref x), (0, .ref b)]) hx hb d_Law_law_1111 hl (by decide) rfl (fun ls hl => ?_)
  refine lv_aload_n hx hb d_Law_law_1113 rfl (lv_at hl 3 rfl) ?_
  refine lv_aload_n hx hb d_Law_law_1114 rfl (lv_at hl 5 rfl) ?_
  refine lv_iload hx hb d_Law_law_1115 (lv_at hl 1 rfl) ?_
  refine lv_iconst (v := 1) hx hb d_Law_law_1117 (by decide) ?_
  refine lv_iadd hx hb d_Law_law_1118 ?_
  refine lb_sld hx hb hXs hbl hbA hS (lb_v1 hi hL) e1 d_Law_law_1119 ?_
  rw [hb_jn_comm hdj1] at hP hD
  obtain ⟨fs, hy⟩ := hV.y
  refine hb_lcV (rest := []) hX2 hts hb_gd Y_Md_key (hYm.frame hdj1.symm) ml_Law_114 im_Md_key se_Md_key hK (hb_jn_l hy) hC_Md.1 hz hP hD hS hA rfl hl.1 rfl (Nat.le_of_ble_eq_true rfl) ⟨Nat.le_of_ble_eq_true rfl, Nat.le_of_ble_eq_true rfl⟩ ⟨hc1, hc2⟩ d_Law_law_1120 (fun v M1 H locs hq hP hD hS _ _ => ?_)
  refine W.widen (k := cells + 2) (n := slots + 120) (Nat.le_refl _) (Nat.le_refl _) ?_
  obtain ⟨My1, ⟨ev, hV1⟩, e9, hdj2⟩ := hq
  subst ev
  subst e9
  refine W.eq (g2 := F0 m 1123 ls [.int w]) rfl ?_
  refine lv_istore (lv' := [(6, .int w), (5, .int k), (4, .int (nI i)), (3, .ref o), (2, .ref y), (1, .ref x), (0, .ref b)]) hx hb d_Law_law_1123 hl (by decide) rfl (fun ls hl => ?_)
  refine lv_aload_n hx hb d_Law_law_1125 rfl (lv_at hl 4 rfl) ?_
  have hth := s_thrown hE hV1 hI1
  obtain ⟨fs1, hy1⟩ := hV1.y
  refine hb_lcV (rest := []) hX2 hts hb_gd Y_Md_thrown (hth.frame hdj2) ml_Law_71 im_Md_thrown se_Md_thrown hK (hb_jn_l hy1) hC_Md.1 hz hP hD hS hA rfl hl.1 rfl (Nat.le_of_ble_eq_true rfl) ⟨Nat.le_of_ble_eq_true rfl, Nat.le_of_ble_eq_true rfl⟩ ⟨hc1, hc2⟩ d_Law_law_1126 (fun v M1 H locs hq hP hD hS _ _ => ?_)
  refine W.widen (k := cells + 2) (n := slots + 120) (Nat.le_refl _) (Nat.le_refl _) ?_
  obtain ⟨My2, ⟨ev, e8⟩, e9, hdj3⟩ := hq
  subst ev
  rw [e8] at e9
  subst e9
  refine W.eq (g2 := F0 m 1129 ls [.int k]) rfl ?_
  refine lv_iload hx hb d_Law_law_1129 (lv_at hl 1 rfl) ?_
  refine lv_icmp_eq (tgt := 1136) hx hb d_Law_law_1131 (by decide) (fun c1 => ?_) (fun c1 => ?_)
  · skip
    refine lv_iload hx hb d_Law_law_1136 (lv_at hl 1 rfl) ?_
    refine lv_if_ne (tgt := 1153) hx hb d_Law_law_1138 (by decide) (fun c2 => ?_) (fun c2 => ?_)
    · skip
      refine lv_goto (tgt := 1182) hx hb d_Law_law_1153 (by decide) ?_
      exact kk ls _ _ _ (lv_sub hl [2, 3, 4, 5, 6] rfl) ⟨Mx1, My1, g1, ho, pa, tm1, k, A1, P1, na1, np1, bal1, mi1, f1, hb_jn_comm hdj2, hoM1, hdj2.symm, hX1, hV1, hI1⟩ hP hD hS
    · skip
      refine lv_aload_n hx hb d_Law_law_1141 rfl (lv_at hl 3 rfl) ?_
      refine lv_iconst (v := 0) hx hb d_Law_law_1142 (by decide) ?_
      have hoM3 : (hb_jn My1 (hb_jn Mx1 (hb_one o (jE cJ g1)))) o = some (jE cJ g1) := by rw [hb_jn_comm hdj2, hb_jn_l (by rw [hb_jn_r hoM1]; exact hb_one_at)]
      refine va_lald hx hb hK (hP.one hoM3) 0 1 rfl rfl (show vp_in (nI 0) 1 from vp_in_nI (by omega) (by omega)) d_Law_law_1143 ?_
      refine W.eq (g2 := F0 m 1144 ls [.long (g1 0)]) rfl ?_
      refine lv_iload hx hb d_Law_law_1144 (lv_at hl 0 rfl) ?_
      refine lv_i2l (v := w.toInt64) hx hb d_Law_law_1146 rfl ?_
      refine hb_lc_eq (tgt := 1153) hx hb d_Law_law_1147 d_Law_law_1148 (by decide) (fun c3 => ?_) (fun c3 => ?_)
      · skip
        refine lv_goto (tgt := 1182) hx hb d_Law_law_1153 (by decide) ?_
        exact kk ls _ _ _ (lv_sub hl [2, 3, 4, 5, 6] rfl) ⟨Mx1, My1, g1, ho, pa, tm1, k, A1, P1, na1, np1, bal1, mi1, f1, hb_jn_comm hdj2, hoM1, hdj2.symm, hX1, hV1, hI1⟩ hP hD hS
      · skip
        exact absurd ((hg1 c2).trans (hkz c2)) c3
  · skip
    exact absurd rfl c1
