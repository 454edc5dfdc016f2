/-! ARRAYLIST: contracts of the JDK's methods. hb_els: what the list's array holds are accounts or payments -/
def hb_els (M : hb_M) (f : Nat → Option Nat) (n : Nat) : Prop := ∀ i, i < n → ∃ y ci fs, f i = some y ∧ M y = some (.inr (ci, fs)) ∧ (ci = 0 ∨ ci = 1)
theorem hb_els.ne {M : hb_M} {f : Nat → Option Nat} {n : Nat} (h : hb_els M f n) {M1 : hb_M} {t : Nat} {e e' : va_E} (h1 : M1 = hb_up M t e') (ht : M t = some e) (hne : ∀ ci fs, (ci = 0 ∨ ci = 1) → e ≠ .inr (ci, fs)) : hb_els M1 f n := by
  intro i hi
  obtain ⟨y, ci, fs, a1, a2, a3⟩ := h i hi
  have hy : y ≠ t := fun q => by
    rw [q, ht] at a2
    exact hne ci fs a3 (Option.some.inj a2)
  exact ⟨y, ci, fs, a1, by rw [h1, hb_up_ne hy]; exact a2, a3⟩
theorem hb_els.new {M : hb_M} {f : Nat → Option Nat} {n : Nat} (h : hb_els M f n) {M1 : hb_M} {t : Nat} {e' : va_E} (h1 : M1 = hb_up M t e') (ht : M t = none) : hb_els M1 f n := by
  intro i hi
  obtain ⟨y, ci, fs, a1, a2, a3⟩ := h i hi
  have hy : y ≠ t := fun q => by
    rw [q, ht] at a2
    cases a2
  exact ⟨y, ci, fs, a1, by rw [h1, hb_up_ne hy]; exact a2, a3⟩
theorem hb_ne3 {fs : List Value} : ∀ ci fs', (ci = 0 ∨ ci = 1) → (Sum.inr (3, fs) : va_E) ≠ .inr (ci, fs') := by
  intro ci fs' h q
  cases q
  rcases h with h | h <;> cases h
theorem hb_neA {x : ClassId × vp_A} : ∀ ci fs', (ci = 0 ∨ ci = 1) → (Sum.inl x : va_E) ≠ .inr (ci, fs') := by
  intro ci fs' h q
  cases q
theorem hb_els.any {l : Launch} {s0 s : State} {D : va_G} {cI cJ cO : ClassId} {e0 mi : Nat} {M : hb_M} {H : Heap} {f : Nat → Option Nat} {n : Nat} (h : hb_els M f n) (hE : hb_E l s0 D cI cJ cO e0 mi) (hG : hb_G s0 s) (hP : hb_P D hb_cl M H) {i y : Nat} (hi : i < n) (hy : f i = some y) : va_Any "java/lang/Object" s H y := by
  obtain ⟨y', ci, fs, a1, a2, a3⟩ := h i hi
  rw [hy] at a1
  cases a1
  exact hb_any hE hG hP a2 a3
set_option maxHeartbeats 4000000 in
set_option maxRecDepth 100000 in
/-- AbstractCollection() -/
theorem c_Col_init {l : Launch} {s0 : State} {D : va_G} {cI cJ cO : ClassId} {e0 mi : Nat} (hE : hb_E l s0 D cI cJ cO e0 mi) (M : hb_M) (t : Nat) : hb_Met l D hb_cl s0 y_Col_init b_Col_init 1 none { frames := 1, cells := 0, slots := 0, locals := 12 } [.ref t] M (fun v M1 => v = none ∧ M1 = M) := by
  refine hb_Met.of (by decide) (Nat.le_of_ble_eq_true rfl) ?_
  intro p e s m below meth c A hAe hX hz hP hD hA hS ls hl
  obtain ⟨hx, hb, hr, hml, hown, hlocks, hnm, hG, hnh⟩ := id hX
  have hown : s.vm.findClass "java/util/AbstractCollection" = some m.cls := hown
  have hts := hE.ts hG ([.ref t] : List Value).toArray
  have hK := hE.kn hG
  have hl : lv_has ls 1 [(0, .ref t)] := hl
  refine lv_aload_n hx hb d_Col_init_0 rfl (lv_at hl 0 rfl) ?_
  refine W.objInit hx hb hown (hts _ ml_Col_1) (hts _ im_Ob_init) (hts _ cd_Ob_init) rfl (by rw [hml]; exact hl.1) rfl d_Col_init_1 (Nat.le_of_ble_eq_true rfl) (Nat.le_of_ble_eq_true rfl) ?_
  refine W.eq (g2 := F0 m 4 ls []) rfl ?_
  exact hb_vret hAe hx hb hr hlocks hP hD hS (Nat.le_of_ble_eq_true rfl) (Nat.le_of_ble_eq_true rfl) (⟨rfl, rfl⟩) d_Col_init_4
set_option maxHeartbeats 4000000 in
set_option maxRecDepth 100000 in
/-- AbstractList() -/
theorem c_Abs_init {l : Launch} {s0 : State} {D : va_G} {cI cJ cO : ClassId} {e0 mi : Nat} (hE : hb_E l s0 D cI cJ cO e0 mi) (M : hb_M) (t : Nat) (ht : M t = some (.inr (3, [.null, .int 0, .int 0]))) : hb_Met l D hb_cl s0 y_Abs_init b_Abs_init 1 none { frames := 2, cells := 0, slots := 0, locals := 32 } [.ref t] M (fun v M1 => v = none ∧ M1 t = some (.inr (3, [.null, .int 0, .int 0])) ∧ hb_off [t] M M1) := by
  refine hb_Met.of (by decide) (Nat.le_of_ble_eq_true rfl) ?_
  intro p e s m below meth c A hAe hX hz hP hD hA hS ls hl
  obtain ⟨hx, hb, hr, hml, hown, hlocks, hnm, hG, hnh⟩ := id hX
  have hown : s.vm.findClass "java/util/AbstractList" = some m.cls := hown
  have hts := hE.ts hG ([.ref t] : List Value).toArray
  have hK := hE.kn hG
  have hl : lv_has ls 1 [(0, .ref t)] := hl
  refine lv_aload_n hx hb d_Abs_init_0 rfl (lv_at hl 0 rfl) ?_
  refine hb_callI (rest := []) hX hts hb_gd Y_Col_init (c_Col_init hE M t) ml_Abs_1 im_Col_init rfl hz hP hD hS hA rfl hl.1 rfl (Nat.le_of_ble_eq_true rfl) ⟨Nat.le_of_ble_eq_true rfl, Nat.le_of_ble_eq_true rfl⟩ ⟨Nat.le_of_ble_eq_true rfl, Nat.le_of_ble_eq_true rfl⟩ d_Abs_init_1 (fun v3 M1 H locs hq2 hP hD hS _ hkp => ?_)
  obtain ⟨ev4, eM5⟩ := hq2
  subst ev4
  rw [eM5] at hP hD
  refine W.eq (g2 := F0 m 4 ls []) rfl ?_
  refine lv_aload_n hx hb d_Abs_init_4 rfl (lv_at hl 0 rfl) ?_
  refine lv_iconst (v := 0) hx hb d_Abs_init_5 (by decide) ?_
  refine hb_puto (ty := .int) hx hb hts hown hC_Al hK hP hD hS ht 2 (by decide) fl_Abs_7 rfl rfl rfl rfl (Nat.le_of_ble_eq_true rfl) d_Abs_init_6 (fun M6 H locs eM7 hP hD hS => ?_)
  have f8 : M6 t = some (.inr (3, [.null, .int 0, .int 0])) := by rw [eM7]; exact hb_up_self
  exact hb_vret hAe hx hb hr hlocks hP hD hS (Nat.le_of_ble_eq_true rfl) (Nat.le_of_ble_eq_true rfl) (⟨rfl, f8, (hb_off.rf.up (by simp) eM7)⟩) d_Abs_init_9
set_option maxHeartbeats 4000000 in
set_option maxRecDepth 100000 in
/-- ArrayList() -/
theorem c_Al_init {l : Launch} {s0 : State} {D : va_G} {cI cJ cO : ClassId} {e0 mi : Nat} (hE : hb_E l s0 D cI cJ cO e0 mi) (M : hb_M) (t : Nat) (ht : M t = some (.inr (3, [.null, .int 0, .int 0]))) : hb_Met l D hb_cl s0 y_Al_init b_Al_init 1 none { frames := 3, cells := 0, slots := 0, locals := 52 } [.ref t] M (fun v M1 => v = none ∧ M1 t = some (.inr (3, [.ref e0, .int 0, .int 0])) ∧ hb_off [t] M M1) := by
  refine hb_Met.of (by decide) (Nat.le_of_ble_eq_true rfl) ?_
  intro p e s m below meth c A hAe hX hz hP hD hA hS ls hl
  obtain ⟨hx, hb, hr, hml, hown, hlocks, hnm, hG, hnh⟩ := id hX
  have hown : s.vm.findClass "java/util/ArrayList" = some m.cls := hown
  have hts := hE.ts hG ([.ref t] : List Value).toArray
  have hK := hE.kn hG
  have hl : lv_has ls 1 [(0, .ref t)] := hl
  refine lv_aload_n hx hb d_Al_init_0 rfl (lv_at hl 0 rfl) ?_
  refine hb_callI (rest := []) hX hts hb_gd Y_Abs_init (c_Abs_init hE M t ht) ml_Al_1 im_Abs_init rfl hz hP hD hS hA rfl hl.1 rfl (Nat.le_of_ble_eq_true rfl) ⟨Nat.le_of_ble_eq_true rfl, Nat.le_of_ble_eq_true rfl⟩ ⟨Nat.le_of_ble_eq_true rfl, Nat.le_of_ble_eq_true rfl⟩ d_Al_init_1 (fun v3 M1 H locs hq2 hP hD hS _ hkp => ?_)
  obtain ⟨ev6, f4, ho5⟩ := hq2
  subst ev6
  refine W.eq (g2 := F0 m 4 ls []) rfl ?_
  refine lv_aload_n hx hb d_Al_init_4 rfl (lv_at hl 0 rfl) ?_
  refine va_gets hx hb (hE.zs hG hz) hS hown (hts _ fl_Al_39) (fun _ h9 => h9) d_Al_init_5 ?_
  refine hb_put (ty := .array (.object "java/lang/Object")) hx hb hts hown hC_Al hK hP hD hS f4 0 (by decide) rfl fl_Al_9 rfl rfl rfl rfl (Nat.le_of_ble_eq_true rfl) d_Al_init_8 (fun M7 H locs eM8 hP hD hS => ?_)
  have f9 : M7 t = some (.inr (3, [.ref e0, .int 0, .int 0])) := by rw [eM8]; exact hb_up_self
  exact hb_vret hAe hx hb hr hlocks hP hD hS (Nat.le_of_ble_eq_true rfl) (Nat.le_of_ble_eq_true rfl) (⟨rfl, f9, ((hb_off.rf.tr ho5 (by simp)).up (by simp) eM8)⟩) d_Al_init_11
set_option maxHeartbeats 4000000 in
set_option maxRecDepth 100000 in
/-- ArrayList.size() -/
theorem c_Al_size {l : Launch} {s0 : State} {D : va_G} {cI cJ cO : ClassId} {e0 mi : Nat} (hE : hb_E l s0 D cI cJ cO e0 mi) (M : hb_M) (t : Nat) (r : Value) (sz md : Int32) (ht : M t = some (.inr (3, [r, .int sz, .int md]))) : hb_Met l D hb_cl s0 y_Al_size b_Al_size 1 (some .int) { frames := 0, cells := 0, slots := 0, locals := 0 } [.ref t] M (fun v M1 => v = some (.int sz) ∧ M1 = M) := by
  refine hb_Met.of (by decide) (Nat.le_of_ble_eq_true rfl) ?_
  intro p e s m below meth c A hAe hX hz hP hD hA hS ls hl
  obtain ⟨hx, hb, hr, hml, hown, hlocks, hnm, hG, hnh⟩ := id hX
  have hown : s.vm.findClass "java/util/ArrayList" = some m.cls := hown
  have hts := hE.ts hG ([.ref t] : List Value).toArray
  have hK := hE.kn hG
  have hl : lv_has ls 1 [(0, .ref t)] := hl
  refine lv_aload_n hx hb d_Al_size_0 rfl (lv_at hl 0 rfl) ?_
  refine hb_get hx hb hts hown hC_Al hK hP ht 1 (by decide) rfl fl_Al_48 rfl d_Al_size_1 ?_
  exact hb_iret hAe hx hb hr hlocks hP hD hS (Nat.le_of_ble_eq_true rfl) (Nat.le_of_ble_eq_true rfl) (⟨rfl, rfl⟩) d_Al_size_4
set_option maxHeartbeats 4000000 in
set_option maxRecDepth 100000 in
/-- Preconditions.checkIndex, in bounds -/
theorem c_Prc_checkIndex {l : Launch} {s0 : State} {D : va_G} {cI cJ cO : ClassId} {e0 mi : Nat} (hE : hb_E l s0 D cI cJ cO e0 mi) (M : hb_M) (i n : Int32) (h0 : ¬ i < 0) (h1 : i < n) : hb_Met l D hb_cl s0 y_Prc_checkIndex b_Prc_checkIndex 3 (some .int) { frames := 0, cells := 0, slots := 0, locals := 0 } [.int i, .int n, .null] M (fun v M1 => v = some (.int i) ∧ M1 = M) := by
  refine hb_Met.of (by decide) (Nat.le_of_ble_eq_true rfl) ?_
  intro p e s m below meth c A hAe hX hz hP hD hA hS ls hl
  obtain ⟨hx, hb, hr, hml, hown, hlocks, hnm, hG, hnh⟩ := id hX
  have hown : s.vm.findClass "jdk/internal/util/Preconditions" = some m.cls := hown
  have hts := hE.ts hG ([.int i, .int n, .null] : List Value).toArray
  have hK := hE.kn hG
  have hl : lv_has ls 3 [(0, .int i), (1, .int n), (2, .null)] := hl
  refine lv_iload_n hx hb d_Prc_checkIndex_0 rfl (lv_at hl 0 rfl) ?_
  refine lv_if_lt (tgt := 9) hx hb d_Prc_checkIndex_1 (by decide) (fun c1 => ?_) (fun c1 => ?_)
  · skip
    exact absurd c1 h0
  · skip
    refine lv_iload_n hx hb d_Prc_checkIndex_4 rfl (lv_at hl 0 rfl) ?_
    refine lv_iload_n hx hb d_Prc_checkIndex_5 rfl (lv_at hl 1 rfl) ?_
    refine lv_icmp_lt (tgt := 16) hx hb d_Prc_checkIndex_6 (by decide) (fun c2 => ?_) (fun c2 => ?_)
    · skip
      refine lv_iload_n hx hb d_Prc_checkIndex_16 rfl (lv_at hl 0 rfl) ?_
      exact hb_iret hAe hx hb hr hlocks hP hD hS (Nat.le_of_ble_eq_true rfl) (Nat.le_of_ble_eq_true rfl) (⟨rfl, rfl⟩) d_Prc_checkIndex_17
    · skip
      exact absurd h1 c2
set_option maxHeartbeats 4000000 in
set_option maxRecDepth 100000 in
/-- Objects.checkIndex, in bounds -/
theorem c_Obs_checkIndex {l : Launch} {s0 : State} {D : va_G} {cI cJ cO : ClassId} {e0 mi : Nat} (hE : hb_E l s0 D cI cJ cO e0 mi) (M : hb_M) (i n : Int32) (h0 : ¬ i < 0) (h1 : i < n) : hb_Met l D hb_cl s0 y_Obs_checkIndex b_Obs_checkIndex 2 (some .int) { frames := 1, cells := 0, slots := 0, locals := 22 } [.int i, .int n] M (fun v M1 => v = some (.int i) ∧ M1 = M) := by
  refine hb_Met.of (by decide) (Nat.le_of_ble_eq_true rfl) ?_
  intro p e s m below meth c A hAe hX hz hP hD hA hS ls hl
  obtain ⟨hx, hb, hr, hml, hown, hlocks, hnm, hG, hnh⟩ := id hX
  have hown : s.vm.findClass "java/util/Objects" = some m.cls := hown
  have hts := hE.ts hG ([.int i, .int n] : List Value).toArray
  have hK := hE.kn hG
  have hl : lv_has ls 2 [(0, .int i), (1, .int n)] := hl
  refine lv_iload_n hx hb d_Obs_checkIndex_0 rfl (lv_at hl 0 rfl) ?_
  refine lv_iload_n hx hb d_Obs_checkIndex_1 rfl (lv_at hl 1 rfl) ?_
  refine lv_null hx hb d_Obs_checkIndex_2 ?_
  refine hb_callS (rest := []) hX hts hb_gd Y_Prc_checkIndex (c_Prc_checkIndex hE M i n h0 h1) ml_Obs_105 st_Prc_checkIndex hz hP hD hS hA rfl hl.1 rfl (Nat.le_of_ble_eq_true rfl) ⟨Nat.le_of_ble_eq_true rfl, Nat.le_of_ble_eq_true rfl⟩ ⟨Nat.le_of_ble_eq_true rfl, Nat.le_of_ble_eq_true rfl⟩ d_Obs_checkIndex_3 (fun v3 M1 H locs hq2 hP hD hS _ hkp => ?_)
  obtain ⟨ev4, eM5⟩ := hq2
  subst ev4
  rw [eM5] at hP hD
  refine W.eq (g2 := F0 m 6 ls [.int i]) rfl ?_
  exact hb_iret hAe hx hb hr hlocks hP hD hS (Nat.le_of_ble_eq_true rfl) (Nat.le_of_ble_eq_true rfl) (⟨rfl, rfl⟩) d_Obs_checkIndex_6
set_option maxHeartbeats 4000000 in
set_option maxRecDepth 100000 in
/-- ArrayList.elementData(j) -/
theorem c_Al_elementData {l : Launch} {s0 : State} {D : va_G} {cI cJ cO : ClassId} {e0 mi : Nat} (hE : hb_E l s0 D cI cJ cO e0 mi) (M : hb_M) (t ar : Nat) (j n cap : Nat) (md : Int32) (f : Nat → Option Nat) (x : Nat) (hj : j < n) (hn : n ≤ cap) (hc : cap ≤ 100) (hx0 : f j = some x) (ht : M t = some (.inr (3, [.ref ar, .int (nI n), .int md]))) (har : M ar = some (hb_ar cO cap f)) : hb_Met l D hb_cl s0 y_Al_elementData b_Al_elementData 2 (some (.object "java/lang/Object")) { frames := 0, cells := 0, slots := 0, locals := 0 } [.ref t, .int (nI j)] M (fun v M1 => v = some (.ref x) ∧ M1 = M) := by
  refine hb_Met.of (by decide) (Nat.le_of_ble_eq_true rfl) ?_
  intro p e s m below meth c A hAe hX hz hP hD hA hS ls hl
  obtain ⟨hx, hb, hr, hml, hown, hlocks, hnm, hG, hnh⟩ := id hX
  have hown : s.vm.findClass "java/util/ArrayList" = some m.cls := hown
  have hts := hE.ts hG ([.ref t, .int (nI j)] : List Value).toArray
  have hK := hE.kn hG
  have hl : lv_has ls 2 [(0, .ref t), (1, .int (nI j))] := hl
  refine lv_aload_n hx hb d_Al_elementData_0 rfl (lv_at hl 0 rfl) ?_
  refine hb_get hx hb hts hown hC_Al hK hP ht 0 (by decide) rfl fl_Al_9 rfl d_Al_elementData_1 ?_
  refine lv_iload_n hx hb d_Al_elementData_4 rfl (lv_at hl 1 rfl) ?_
  refine va_aldq hx hb hK (hP.one har) 0 2 rfl rfl (vp_in_nI (by omega) (by omega)) d_Al_elementData_5 ?_
  refine W.eq (g2 := F0 m 6 ls [.ref x]) (by rw [nI_clamp (show j < 2 ^ 31 by omega), hx0]; rfl) ?_
  exact hb_aret hAe hx hb hr (Or.inl ⟨_, rfl⟩) (Or.inr ⟨_, rfl⟩) hlocks hP hD hS (Nat.le_of_ble_eq_true rfl) (Nat.le_of_ble_eq_true rfl) (⟨rfl, rfl⟩) d_Al_elementData_6
set_option maxHeartbeats 4000000 in
set_option maxRecDepth 100000 in
/-- ArrayList.get(j) -/
theorem c_Al_get {l : Launch} {s0 : State} {D : va_G} {cI cJ cO : ClassId} {e0 mi : Nat} (hE : hb_E l s0 D cI cJ cO e0 mi) (M : hb_M) (t ar : Nat) (j n cap : Nat) (md : Int32) (f : Nat → Option Nat) (x : Nat) (hj : j < n) (hn : n ≤ cap) (hc : cap ≤ 100) (hx0 : f j = some x) (ht : M t = some (.inr (3, [.ref ar, .int (nI n), .int md]))) (har : M ar = some (hb_ar cO cap f)) : hb_Met l D hb_cl s0 y_Al_get b_Al_get 2 (some (.object "java/lang/Object")) { frames := 2, cells := 0, slots := 0, locals := 43 } [.ref t, .int (nI j)] M (fun v M1 => v = some (.ref x) ∧ M1 = M) := by
  refine hb_Met.of (by decide) (Nat.le_of_ble_eq_true rfl) ?_
  intro p e s m below meth c A hAe hX hz hP hD hA hS ls hl
  obtain ⟨hx, hb, hr, hml, hown, hlocks, hnm, hG, hnh⟩ := id hX
  have hown : s.vm.findClass "java/util/ArrayList" = some m.cls := hown
  have hts := hE.ts hG ([.ref t, .int (nI j)] : List Value).toArray
  have hK := hE.kn hG
  have hl : lv_has ls 2 [(0, .ref t), (1, .int (nI j))] := hl
  refine lv_iload_n hx hb d_Al_get_0 rfl (lv_at hl 1 rfl) ?_
  refine lv_aload_n hx hb d_Al_get_1 rfl (lv_at hl 0 rfl) ?_
  refine hb_get hx hb hts hown hC_Al hK hP ht 1 (by decide) rfl fl_Al_48 rfl d_Al_get_2 ?_
  refine hb_callS (rest := []) hX hts hb_gd Y_Obs_checkIndex (c_Obs_checkIndex hE M (nI j) (nI n) (nI_pos (by omega)) (nI_lt hj (by omega))) ml_Al_118 st_Obs_checkIndex hz hP hD hS hA rfl hl.1 rfl (Nat.le_of_ble_eq_true rfl) ⟨Nat.le_of_ble_eq_true rfl, Nat.le_of_ble_eq_true rfl⟩ ⟨Nat.le_of_ble_eq_true rfl, Nat.le_of_ble_eq_true rfl⟩ d_Al_get_5 (fun v3 M1 H locs hq2 hP hD hS _ hkp => ?_)
  obtain ⟨ev4, eM5⟩ := hq2
  subst ev4
  rw [eM5] at hP hD
  refine W.eq (g2 := F0 m 8 ls [.int (nI j)]) rfl ?_
  refine lv_pop hx hb d_Al_get_8 rfl ?_
  refine lv_aload_n hx hb d_Al_get_9 rfl (lv_at hl 0 rfl) ?_
  refine lv_iload_n hx hb d_Al_get_10 rfl (lv_at hl 1 rfl) ?_
  refine hb_callV (rest := []) hX hts hb_gd Y_Al_elementData (c_Al_elementData hE M t ar j n cap md f x hj hn hc hx0 ht har) ml_Al_123 im_Al_elementData se_Al_elementData hK ht hC_Al.1 hz hP hD hS hA rfl hl.1 rfl (Nat.le_of_ble_eq_true rfl) ⟨Nat.le_of_ble_eq_true rfl, Nat.le_of_ble_eq_true rfl⟩ ⟨Nat.le_of_ble_eq_true rfl, Nat.le_of_ble_eq_true rfl⟩ d_Al_get_11 (fun v8 M6 H locs hq7 hP hD hS _ hkp => ?_)
  obtain ⟨ev9, eM10⟩ := hq7
  subst ev9
  rw [eM10] at hP hD
  refine W.eq (g2 := F0 m 14 ls [.ref x]) rfl ?_
  exact hb_aret hAe hx hb hr (Or.inl ⟨_, rfl⟩) (Or.inr ⟨_, rfl⟩) hlocks hP hD hS (Nat.le_of_ble_eq_true rfl) (Nat.le_of_ble_eq_true rfl) (⟨rfl, rfl⟩) d_Al_get_14
