set_option maxHeartbeats 4000000 in
set_option maxRecDepth 100000 in
theorem lb_go {p : Program} {l : Launch} {e : Env} {s : State} {m : MethodId} {below : List Frame} {meth : Method} {c : Code} {ls : Array Slot} {D : va_G} {cI cJ cO : ClassId} {e0 mi0 b L : Nat} {xs : Nat → Int32} (C : lb_C p l s m c D cI cJ cO e0 mi0 b L xs) (hr : meth.sig.returnType = ret) (hlocks : meth.locks = false) (hl : lv_has ls 8 [(0, .ref b)]) : W p l e room_1 s m #[Value.ref b] below meth c s.heap [] 0 0 (lw_Z below #[Value.ref b] s) (F0 m 0 ls []) := by
  obtain ⟨hX2, hE, hXs, hbl, hL⟩ := id C
  obtain ⟨hx, hb, hml, hown, hG⟩ := id hX2
  have hts := hE.ts hG #[Value.ref b]
  have hK := hE.kn hG
  have hz : hb_Z s (fun q => s.heap.size ≤ q) := fun q h => h
  have hA : ∀ q, s.heap.size ≤ q → (fun q => s.heap.size ≤ q) q := fun q h => h
  have hS : va_S (fun q => s.heap.size ≤ q) s.heap s.heap [] := va_S.rf
  obtain ⟨M, eM0⟩ : ∃ M : hb_M, M = fun _ => none := ⟨_, rfl⟩
  have hP : hb_P D hb_cl M s.heap := fun a e h => by rw [eM0] at h; cases h
  have hD : hb_D (fun q => s.heap.size ≤ q) M := fun a e h => by rw [eM0] at h; cases h
  obtain ⟨k1, hk1⟩ : ∃ k, (if 0 < L then xs 0 else 0) = k := ⟨_, rfl⟩
  obtain ⟨k2, hk2⟩ : ∃ k, (if 1 < L then xs 1 else 0) = k := ⟨_, rfl⟩
  refine hb_new (fs := [.int 0, .int 0, .null, .null, .null, .int 0]) hx hb hts hown hC_Hb kl_Law_8 it_Hb in_Hb hK hP hD hS hA (fun j hj => by rcases (show j = 0 ∨ j = 1 ∨ j = 2 ∨ j = 3 ∨ j = 4 ∨ j = 5 by omega) with rfl | rfl | rfl | rfl | rfl | rfl <;> rfl) (Nat.le_of_ble_eq_true rfl) (Nat.le_of_ble_eq_true rfl) d_Law_law_0 (fun q1 M2 H hq4 ha5 eM3 hP hD hS => ?_)
  have f6 : M2 q1 = some (.inr (2, [.int 0, .int 0, .null, .null, .null, .int 0])) := by rw [eM3]; exact hb_up_self
  refine lv_dup hx hb d_Law_law_3 rfl ?_
  refine lv_aload_n hx hb d_Law_law_4 rfl (lv_at hl 0 rfl) ?_
  refine lv_iconst (v := nI 0) hx hb d_Law_law_5 (by decide) ?_
  refine hb_lcS (rest := [.ref q1, .ref q1]) hX2 hts hb_gd Y_Law_cell (c_Law_cell hE M2 b L 0 xs hXs hbl hL (by omega)) ml_Law_53 st_Law_cell hz hP hD hS hA rfl hl.1 rfl (Nat.le_of_ble_eq_true rfl) ⟨Nat.le_of_ble_eq_true rfl, Nat.le_of_ble_eq_true rfl⟩ ⟨Nat.le_of_ble_eq_true rfl, Nat.le_of_ble_eq_true rfl⟩ d_Law_law_6 (fun v M9 H locs hq hP hD hS _ _ => ?_)
  obtain ⟨ev, e9⟩ := hq
  rw [hk1] at ev
  subst ev
  rw [e9] at hP hD
  refine W.eq (g2 := F0 m 9 ls [.int k1, .ref q1, .ref q1]) rfl ?_
  refine lv_aload_n hx hb d_Law_law_9 rfl (lv_at hl 0 rfl) ?_
  refine lv_iconst (v := nI 1) hx hb d_Law_law_10 (by decide) ?_
  refine hb_lcS (rest := [.int k1, .ref q1, .ref q1]) hX2 hts hb_gd Y_Law_cell (c_Law_cell hE M2 b L 1 xs hXs hbl hL (by omega)) ml_Law_53 st_Law_cell hz hP hD hS hA rfl hl.1 rfl (Nat.le_of_ble_eq_true rfl) ⟨Nat.le_of_ble_eq_true rfl, Nat.le_of_ble_eq_true rfl⟩ ⟨Nat.le_of_ble_eq_true rfl, Nat.le_of_ble_eq_true rfl⟩ d_Law_law_11 (fun v M9 H locs hq hP hD hS _ _ => ?_)
  obtain ⟨ev, e9⟩ := hq
  rw [hk2] at ev
  subst ev
  rw [e9] at hP hD
  refine W.eq (g2 := F0 m 14 ls [.int k2, .int k1, .ref q1, .ref q1]) rfl ?_
  refine hb_lcI (rest := [.ref q1]) hX2 hts hb_gd Y_Hb_init (c_Hb_init hE M2 q1 k1 k2 f6) ml_Law_59 im_Hb_init rfl hz hP hD hS hA rfl hl.1 rfl (Nat.le_of_ble_eq_true rfl) ⟨Nat.le_of_ble_eq_true rfl, Nat.le_of_ble_eq_true rfl⟩ ⟨Nat.le_of_ble_eq_true rfl, Nat.le_of_ble_eq_true rfl⟩ d_Law_law_14 (fun v Mx H locs hq hP hD hS _ _ => ?_)
  obtain ⟨ev, la, lp, nb, hcR⟩ := hq
  subst ev
  rw [lb_span k1, lb_span k2] at hcR
  refine W.eq (g2 := F0 m 17 ls [.ref q1]) rfl ?_
  refine lv_astore_n (lv' := [(1, .ref q1), (0, .ref b)]) hx hb d_Law_law_17 rfl hl (by decide) rfl (fun ls hl => ?_)
  refine hb_new (fs := [.int 0, .int 0, .int 0, .int 0, .int 0, .null, .null, .int 0, .null, .null, .null, .null, .null, .null, .null, .null, .null, .null]) hx hb hts hown hC_Md kl_Law_62 it_Md in_Md hK hP hD hS hA (fun j hj => by rcases (show j = 0 ∨ j = 1 ∨ j = 2 ∨ j = 3 ∨ j = 4 ∨ j = 5 ∨ j = 6 ∨ j = 7 ∨ j = 8 ∨ j = 9 ∨ j = 10 ∨ j = 11 ∨ j = 12 ∨ j = 13 ∨ j = 14 ∨ j = 15 ∨ j = 16 ∨ j = 17 by omega) with rfl | rfl | rfl | rfl | rfl | rfl | rfl | rfl | rfl | rfl | rfl | rfl | rfl | rfl | rfl | rfl | rfl | rfl <;> rfl) (Nat.le_of_ble_eq_true rfl) (Nat.le_of_ble_eq_true rfl) d_Law_law_18 (fun q7 M8 H hq10 ha11 eM9 hP hD hS => ?_)
  have f12 : M8 q7 = some (.inr (4, [.int 0, .int 0, .int 0, .int 0, .int 0, .null, .null, .int 0, .null, .null, .null, .null, .null, .null, .null, .null, .null, .null])) := by rw [eM9]; exact hb_up_self
  rw [eM9, lb_up1 hq10] at hP hD
  have hdj : hb_dj (hb_one q7 (.inr (4, [.int 0, .int 0, .int 0, .int 0, .int 0, .null, .null, .int 0, .null, .null, .null, .null, .null, .null, .null, .null, .null, .null]))) Mx := (hb_dj_one.mpr hq10).symm
  refine lv_dup hx hb d_Law_law_21 rfl ?_
  refine lv_aload_n hx hb d_Law_law_22 rfl (lv_at hl 1 rfl) ?_
  refine lv_iconst (v := nI 0) hx hb d_Law_law_23 (by decide) ?_
  refine hb_lcS (rest := [.ref q7, .ref q7]) hX2 hts hb_gd Y_Law_cell (c_Law_cell hE (hb_jn (hb_one q7 (.inr (4, [.int 0, .int 0, .int 0, .int 0, .int 0, .null, .null, .int 0, .null, .null, .null, .null, .null, .null, .null, .null, .null, .null]))) Mx) b L 0 xs hXs hbl hL (by omega)) ml_Law_53 st_Law_cell hz hP hD hS hA rfl hl.1 rfl (Nat.le_of_ble_eq_true rfl) ⟨Nat.le_of_ble_eq_true rfl, Nat.le_of_ble_eq_true rfl⟩ ⟨Nat.le_of_ble_eq_true rfl, Nat.le_of_ble_eq_true rfl⟩ d_Law_law_24 (fun v M9 H locs hq hP hD hS _ _ => ?_)
  obtain ⟨ev, e9⟩ := hq
  rw [hk1] at ev
  subst ev
  rw [e9] at hP hD
  refine W.eq (g2 := F0 m 27 ls [.int k1, .ref q7, .ref q7]) rfl ?_
  refine lv_aload_n hx hb d_Law_law_27 rfl (lv_at hl 1 rfl) ?_
  refine lv_iconst (v := nI 1) hx hb d_Law_law_28 (by decide) ?_
  refine hb_lcS (rest := [.int k1, .ref q7, .ref q7]) hX2 hts hb_gd Y_Law_cell (c_Law_cell hE (hb_jn (hb_one q7 (.inr (4, [.int 0, .int 0, .int 0, .int 0, .int 0, .null, .null, .int 0, .null, .null, .null, .null, .null, .null, .null, .null, .null, .null]))) Mx) b L 1 xs hXs hbl hL (by omega)) ml_Law_53 st_Law_cell hz hP hD hS hA rfl hl.1 rfl (Nat.le_of_ble_eq_true rfl) ⟨Nat.le_of_ble_eq_true rfl, Nat.le_of_ble_eq_true rfl⟩ ⟨Nat.le_of_ble_eq_true rfl, Nat.le_of_ble_eq_true rfl⟩ d_Law_law_29 (fun v M9 H locs hq hP hD hS _ _ => ?_)
  obtain ⟨ev, e9⟩ := hq
  rw [hk2] at ev
  subst ev
  rw [e9] at hP hD
  refine W.eq (g2 := F0 m 32 ls [.int k2, .int k1, .ref q7, .ref q7]) rfl ?_
  refine hb_lcI (rest := [.ref q7]) hX2 hts hb_gd Y_Md_init ((c_Md_init hE _ q7 k1 k2 hb_one_at).frame hdj) ml_Law_64 im_Md_init rfl hz hP hD hS hA rfl hl.1 rfl (Nat.le_of_ble_eq_true rfl) ⟨Nat.le_of_ble_eq_true rfl, Nat.le_of_ble_eq_true rfl⟩ ⟨Nat.le_of_ble_eq_true rfl, Nat.le_of_ble_eq_true rfl⟩ d_Law_law_32 (fun v M9 H locs hq hP hD hS _ _ => ?_)
  obtain ⟨My, ⟨ev, b0, b1, b2, b3, b4, b5, b6, b7, b8, b9, b10, b11, hmR⟩, e9, hdj2⟩ := hq
  subst ev
  rw [e9] at hP hD
  refine W.eq (g2 := F0 m 35 ls [.ref q7]) rfl ?_
  refine lv_astore_n (lv' := [(2, .ref q7), (1, .ref q1), (0, .ref b)]) hx hb d_Law_law_35 rfl hl (by decide) rfl (fun ls hl => ?_)
  refine lv_iconst (v := 1) hx hb d_Law_law_36 (by decide) ?_
  refine hb_newJ (N' := 1) hx hb hts ac_long hK hP hD hS hA (by decide) (by decide) (by decide) (Nat.le_of_ble_eq_true rfl) (Nat.le_of_ble_eq_true rfl) d_Law_law_37 (fun o M8 H ho1 ho2 eM8 hP hD hS => ?_)
  rw [eM8, lb_up3 ho1 hdj2] at hP hD
  refine lv_astore_n (lv' := [(3, .ref o), (2, .ref q7), (1, .ref q1), (0, .ref b)]) hx hb d_Law_law_39 rfl hl (by decide) rfl (fun ls hl => ?_)
  refine lv_iconst (v := nI 2) hx hb d_Law_law_40 (by decide) ?_
  refine lv_istore (lv' := [(4, .int (nI 2)), (3, .ref o), (2, .ref q7), (1, .ref q1), (0, .ref b)]) hx hb d_Law_law_41 hl (by decide) rfl (fun ls hl => ?_)
  refine W.widen (k := 20 + 2 * 0) (n := 1000 + 120 * 0) (Nat.le_of_ble_eq_true rfl) (Nat.le_of_ble_eq_true rfl) ?_
  refine lb_loop C hr hlocks L 0 (by omega) (by omega) ls _ H locs (lv_sub hl [0, 1, 2, 3, 4] rfl) ⟨Mx, My, fun _ => 0, _, _, 0, 0, [], [], 0, 0, _, _, _, rfl, (hb_jn_none.mp ho1).2, hb_dj.jn hdj2.symm (hb_dj_one.mpr (hb_jn_none.mp ho1).1).symm, ⟨la, lp, nb, e0, e0, [], [], hcR, rfl, rfl⟩, ⟨b0, b1, b2, b3, b4, b5, b6, b7, b8, b9, b10, b11, _, _, _, _, _, _, _, _, _, _, hmR, rfl⟩, lb_I0 (lb_bd k1) (lb_bd k2)⟩ hP hD hS
