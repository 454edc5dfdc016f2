/-! HOLDBOOK: reading lists; the private methods that only read -/
section CR
variable {l : Launch} {s0 : State} {D : va_G} {cI cJ cO : ClassId} {e0 mi : Nat} {M : hb_M} {x la lp nb ra rp : Nat} {ho pa tm : Int32} {Ac : List (Nat × hbA)} {Py : List (Nat × hbY)}
theorem c_ac_size (hE : hb_E l s0 D cI cJ cO e0 mi) (h : cR cO e0 M x la lp nb ra rp ho pa tm Ac Py) : hb_Met l D hb_cl s0 y_Al_size b_Al_size 1 (some .int) { frames := 0, cells := 0, slots := 0, locals := 0 } [.ref la] M (fun v M1 => v = some (.int (nI Ac.length)) ∧ M1 = M) := by
  have h2 := c_lst_size hE h.2.1
  rw [List.length_map] at h2
  exact h2
theorem c_py_size (hE : hb_E l s0 D cI cJ cO e0 mi) (h : cR cO e0 M x la lp nb ra rp ho pa tm Ac Py) : hb_Met l D hb_cl s0 y_Al_size b_Al_size 1 (some .int) { frames := 0, cells := 0, slots := 0, locals := 0 } [.ref lp] M (fun v M1 => v = some (.int (nI Py.length)) ∧ M1 = M) := by
  have h2 := c_lst_size hE h.2.2.1
  rw [List.length_map] at h2
  exact h2
theorem c_ac_get (hE : hb_E l s0 D cI cJ cO e0 mi) (h : cR cO e0 M x la lp nb ra rp ho pa tm Ac Py) {j a : Nat} {r : hbA} (hj : Ac[j]? = some (a, r)) : hb_Met l D hb_cl s0 y_Al_get b_Al_get 2 (some (.object "java/lang/Object")) { frames := 2, cells := 0, slots := 0, locals := 43 } [.ref la, .int (nI j)] M (fun v M1 => v = some (.ref a) ∧ M1 = M) :=
  c_lst_get hE h.2.1 (by rw [List.getElem?_map, hj]; rfl)
theorem c_py_get (hE : hb_E l s0 D cI cJ cO e0 mi) (h : cR cO e0 M x la lp nb ra rp ho pa tm Ac Py) {j q : Nat} {r : hbY} (hj : Py[j]? = some (q, r)) : hb_Met l D hb_cl s0 y_Al_get b_Al_get 2 (some (.object "java/lang/Object")) { frames := 2, cells := 0, slots := 0, locals := 43 } [.ref lp, .int (nI j)] M (fun v M1 => v = some (.ref q) ∧ M1 = M) :=
  c_lst_get hE h.2.2.1 (by rw [List.getElem?_map, hj]; rfl)
theorem cR.fla (h : cR cO e0 M x la lp nb ra rp ho pa tm Ac Py) : ∃ md, M la = some (.inr (3, [.ref ra, .int (nI Ac.length), .int md])) := by
  obtain ⟨md, h1, -⟩ := h.2.1
  rw [List.length_map] at h1
  exact ⟨md, h1⟩
theorem cR.flp (h : cR cO e0 M x la lp nb ra rp ho pa tm Ac Py) : ∃ md, M lp = some (.inr (3, [.ref rp, .int (nI Py.length), .int md])) := by
  obtain ⟨md, h1, -⟩ := h.2.2.1
  rw [List.length_map] at h1
  exact ⟨md, h1⟩
theorem cR.ac (h : cR cO e0 M x la lp nb ra rp ho pa tm Ac Py) {i a : Nat} {r : hbA} (hi : Ac[i]? = some (a, r)) : M a = some (aE (nI i) r) := h.2.2.2.2.2.2.2.1 i a r hi
theorem cR.py (h : cR cO e0 M x la lp nb ra rp ho pa tm Ac Py) {i q : Nat} {r : hbY} (hi : Py[i]? = some (q, r)) : M q = some (pE (hb_acc nb Ac r.2.1) r) := h.2.2.2.2.2.2.2.2 i q r hi
theorem hb_getL {α : Type} {L : List α} {j : Nat} (h : j < L.length) : ∃ a, L[j]? = some a := ⟨L[j], List.getElem?_eq_getElem h⟩
theorem hb_get2 {α β : Type} {L : List (α × β)} {j : Nat} (h : j < L.length) : ∃ a b, L[j]? = some (a, b) := ⟨L[j].1, L[j].2, List.getElem?_eq_getElem h⟩
theorem hb_tw {α : Type} {p : α → Bool} : ∀ {L : List α} {j : Nat}, (∀ i a, i < j → L[i]? = some a → p a = true) → j ≤ L.length → (∀ a, L[j]? = some a → p a = false) → (L.takeWhile p).length = j := by
  intro L
  induction L with
  | nil => intro j _ h2 _; simp at h2; simp [h2]
  | cons b L ih =>
    intro j h1 h2 h3
    cases j with
    | zero =>
      have := h3 b rfl
      simp [List.takeWhile, this]
    | succ j =>
      have hb := h1 0 b (by omega) rfl
      rw [List.takeWhile_cons, if_pos hb, List.length_cons, ih (fun i a hi ha => h1 (i + 1) a (by omega) ha) (by simpa using h2) (fun a ha => h3 a ha)]
end CR
/-- the place of the first payment whose key is not below k -/
def hb_pos (Py : List (Nat × hbY)) (k : Int32) : Nat := (Py.takeWhile (fun q => decide (q.2.1 < k))).length
theorem hb_pos_eq {Py : List (Nat × hbY)} {k : Int32} {j : Nat} (h1 : ∀ (i q : Nat) (r : hbY), i < j → Py[i]? = some (q, r) → r.1 < k) (h2 : j ≤ Py.length) (h3 : ∀ (q : Nat) (r : hbY), Py[j]? = some (q, r) → ¬ r.1 < k) : hb_pos Py k = j := hb_tw (fun i a hi ha => decide_eq_true (h1 i a.1 a.2 hi ha)) h2 (fun a ha => decide_eq_false (h3 a.1 a.2 ha))
theorem hb_pos_le (Py : List (Nat × hbY)) (k : Int32) : hb_pos Py k ≤ Py.length := by
  unfold hb_pos
  exact (List.takeWhile_sublist _).length_le
/-- the payment with this key, and its place -/
def hb_find (Py : List (Nat × hbY)) (k : Int32) : Option Nat := match Py[hb_pos Py k]? with
  | some q => if q.2.1 = k then some q.1 else none
  | none => none
set_option maxHeartbeats 4000000 in
set_option maxRecDepth 100000 in
/-- checkAccount -/
theorem c_Hb_checkAccount_ok {l : Launch} {s0 : State} {D : va_G} {cI cJ cO : ClassId} {e0 mi : Nat} (hE : hb_E l s0 D cI cJ cO e0 mi) (M : hb_M) (x la lp nb ra rp : Nat) (ho pa tm : Int32) (Ac : List (Nat × hbA)) (Py : List (Nat × hbY)) (h : cR cO e0 M x la lp nb ra rp ho pa tm Ac Py) (hk : cOK Ac Py) (k : Nat) (hk9 : k < Ac.length) : hb_Met l D hb_cl s0 y_Hb_checkAccount b_Hb_checkAccount 2 none { frames := 1, cells := 0, slots := 0, locals := 20 } [.ref x, .int (nI k)] M (fun v M1 => v = none ∧ M1 = M) := by
  refine hb_Met.of (by decide) (Nat.le_of_ble_eq_true rfl) ?_
  intro p e s m below meth c A hAe hX hz hP hD hA hS ls hl
  obtain ⟨hx, hb, hr, hml, hown, hlocks, hnm, hG, hnh⟩ := id hX
  have hown : s.vm.findClass "HoldBook" = some m.cls := hown
  have hts := hE.ts hG ([.ref x, .int (nI k)] : List Value).toArray
  have hK := hE.kn hG
  have hl : lv_has ls 2 [(0, .ref x), (1, .int (nI k))] := hl
  have fx := h.1
  obtain ⟨mda, fla⟩ := h.fla
  obtain ⟨mdp, flp⟩ := h.flp
  have hlA := hk.1
  have hlP := hk.2.1
  refine lv_iload_n hx hb d_Hb_checkAccount_0 rfl (lv_at hl 1 rfl) ?_
  refine lv_if_lt (tgt := 15) hx hb d_Hb_checkAccount_1 (by decide) (fun c1 => ?_) (fun c1 => ?_)
  · skip
    exact absurd c1 (nI_pos (by omega))
  · skip
    refine lv_iload_n hx hb d_Hb_checkAccount_4 rfl (lv_at hl 1 rfl) ?_
    refine lv_aload_n hx hb d_Hb_checkAccount_5 rfl (lv_at hl 0 rfl) ?_
    refine hb_get hx hb hts hown hC_Hb hK hP fx 2 (by decide) rfl fl_Hb_10 rfl d_Hb_checkAccount_6 ?_
    refine hb_callV (rest := [.int (nI k)]) hX hts hb_gd Y_Al_size (c_ac_size hE h) ml_Hb_55 im_Al_size se_Al_size hK fla hC_Al.1 hz hP hD hS hA rfl hl.1 rfl (Nat.le_of_ble_eq_true rfl) ⟨Nat.le_of_ble_eq_true rfl, Nat.le_of_ble_eq_true rfl⟩ ⟨Nat.le_of_ble_eq_true rfl, Nat.le_of_ble_eq_true rfl⟩ d_Hb_checkAccount_9 (fun v4 M2 H locs hq3 hP hD hS _ hkp => ?_)
    obtain ⟨ev5, eM6⟩ := hq3
    subst ev5
    rw [eM6] at hP hD
    refine W.eq (g2 := F0 m 12 ls [.int (nI Ac.length), .int (nI k)]) rfl ?_
    refine lv_icmp_lt (tgt := 25) hx hb d_Hb_checkAccount_12 (by decide) (fun c7 => ?_) (fun c7 => ?_)
    · skip
      exact hb_vret hAe hx hb hr hlocks hP hD hS (Nat.le_of_ble_eq_true rfl) (Nat.le_of_ble_eq_true rfl) (⟨rfl, rfl⟩) d_Hb_checkAccount_25
    · skip
      exact absurd (nI_lt hk9 (by omega)) c7
set_option maxHeartbeats 4000000 in
set_option maxRecDepth 100000 in
/-- checkAccount -/
theorem c_Hb_checkAccount_bad {l : Launch} {s0 : State} {D : va_G} {cI cJ cO : ClassId} {e0 mi : Nat} (hE : hb_E l s0 D cI cJ cO e0 mi) (M : hb_M) (x la lp nb ra rp : Nat) (ho pa tm : Int32) (Ac : List (Nat × hbA)) (Py : List (Nat × hbY)) (h : cR cO e0 M x la lp nb ra rp ho pa tm Ac Py) (hk : cOK Ac Py) (k : Int32) (hk9 : k < 0 ∨ nI Ac.length ≤ k) : hb_Thr l D hb_cl s0 y_Hb_checkAccount b_Hb_checkAccount 2 none { frames := 6, cells := 1, slots := 6, locals := 90 } [.ref x, .int k] M "java/lang/IllegalArgumentException" := by
  refine hb_Thr.of (by decide) (Nat.le_of_ble_eq_true rfl) ?_
  intro p e s m below meth c A hAe hX hz hP hD hA hS ls hl
  obtain ⟨hx, hb, hr, hml, hown, hlocks, hnm, hG, hnh⟩ := id hX
  have hown : s.vm.findClass "HoldBook" = some m.cls := hown
  have hts := hE.ts hG ([.ref x, .int k] : List Value).toArray
  have hK := hE.kn hG
  have hl : lv_has ls 2 [(0, .ref x), (1, .int k)] := hl
  have fx := h.1
  obtain ⟨mda, fla⟩ := h.fla
  obtain ⟨mdp, flp⟩ := h.flp
  have hlA := hk.1
  have hlP := hk.2.1
  refine lv_iload_n hx hb d_Hb_checkAccount_0 rfl (lv_at hl 1 rfl) ?_
  refine lv_if_lt (tgt := 15) hx hb d_Hb_checkAccount_1 (by decide) (fun c1 => ?_) (fun c1 => ?_)
  · skip
    exact hb_iae hE hAe hX hown hz hP hS hl.1 (List.mem_of_getElem? (i := 367) (by decide +kernel) : Cond.stringRef "HoldBook" 212 "there is no such account" ∈ lw_tbl) d_Hb_checkAccount_15 d_Hb_checkAccount_18 d_Hb_checkAccount_19 d_Hb_checkAccount_21 d_Hb_checkAccount_24 (Nat.le_of_ble_eq_true rfl) (Nat.le_of_ble_eq_true rfl) (Nat.le_of_ble_eq_true rfl) (Nat.le_of_ble_eq_true rfl) (Nat.le_of_ble_eq_true rfl) (Nat.le_of_ble_eq_true rfl)
  · skip
    refine lv_iload_n hx hb d_Hb_checkAccount_4 rfl (lv_at hl 1 rfl) ?_
    refine lv_aload_n hx hb d_Hb_checkAccount_5 rfl (lv_at hl 0 rfl) ?_
    refine hb_get hx hb hts hown hC_Hb hK hP fx 2 (by decide) rfl fl_Hb_10 rfl d_Hb_checkAccount_6 ?_
    refine hb_callV (rest := [.int k]) hX hts hb_gd Y_Al_size (c_ac_size hE h) ml_Hb_55 im_Al_size se_Al_size hK fla hC_Al.1 hz hP hD hS hA rfl hl.1 rfl (Nat.le_of_ble_eq_true rfl) ⟨Nat.le_of_ble_eq_true rfl, Nat.le_of_ble_eq_true rfl⟩ ⟨Nat.le_of_ble_eq_true rfl, Nat.le_of_ble_eq_true rfl⟩ d_Hb_checkAccount_9 (fun v4 M2 H locs hq3 hP hD hS _ hkp => ?_)
    obtain ⟨ev5, eM6⟩ := hq3
    subst ev5
    rw [eM6] at hP hD
    refine W.eq (g2 := F0 m 12 ls [.int (nI Ac.length), .int k]) rfl ?_
    refine lv_icmp_lt (tgt := 25) hx hb d_Hb_checkAccount_12 (by decide) (fun c7 => ?_) (fun c7 => ?_)
    · skip
      exact absurd hk9 (by intro z; rcases z with z | z; exact absurd z (by assumption); exact absurd c7 (hb_ngti z))
    · skip
      exact hb_iae hE hAe hX hown hz hP hS hl.1 (List.mem_of_getElem? (i := 367) (by decide +kernel) : Cond.stringRef "HoldBook" 212 "there is no such account" ∈ lw_tbl) d_Hb_checkAccount_15 d_Hb_checkAccount_18 d_Hb_checkAccount_19 d_Hb_checkAccount_21 d_Hb_checkAccount_24 (Nat.le_of_ble_eq_true rfl) (Nat.le_of_ble_eq_true rfl) (Nat.le_of_ble_eq_true rfl) (Nat.le_of_ble_eq_true rfl) (Nat.le_of_ble_eq_true rfl) (Nat.le_of_ble_eq_true rfl)
set_option maxHeartbeats 4000000 in
set_option maxRecDepth 100000 in
/-- placeOf(k) -/
theorem c_Hb_placeOf {l : Launch} {s0 : State} {D : va_G} {cI cJ cO : ClassId} {e0 mi : Nat} (hE : hb_E l s0 D cI cJ cO e0 mi) (M : hb_M) (x la lp nb ra rp : Nat) (ho pa tm : Int32) (Ac : List (Nat × hbA)) (Py : List (Nat × hbY)) (h : cR cO e0 M x la lp nb ra rp ho pa tm Ac Py) (hk : cOK Ac Py) (k : Int32) : hb_Met l D hb_cl s0 y_Hb_placeOf b_Hb_placeOf 3 (some .int) { frames := 3, cells := 0, slots := 0, locals := 64 } [.ref x, .int k] M (fun v M1 => v = some (.int (nI (hb_pos Py k))) ∧ M1 = M) := by
  refine hb_Met.of (by decide) (Nat.le_of_ble_eq_true rfl) ?_
  intro p e s m below meth c A hAe hX hz hP hD hA hS ls hl
  obtain ⟨hx, hb, hr, hml, hown, hlocks, hnm, hG, hnh⟩ := id hX
  have hown : s.vm.findClass "HoldBook" = some m.cls := hown
  have hts := hE.ts hG ([.ref x, .int k] : List Value).toArray
  have hK := hE.kn hG
  have hl : lv_has ls 3 [(0, .ref x), (1, .int k)] := hl
  have fx := h.1
  obtain ⟨mda, fla⟩ := h.fla
  obtain ⟨mdp, flp⟩ := h.flp
  have hlA := hk.1
  have hlP := hk.2.1
  refine lv_iconst (v := 0) hx hb d_Hb_placeOf_0 (by decide) ?_
  refine lv_istore_n (lv' := [(2, .int 0), (0, .ref x), (1, .int k)]) hx hb d_Hb_placeOf_1 rfl hl (by decide) rfl (fun ls hl => ?_)
  have loop : ∀ (d j : Nat), Py.length - j < d → j ≤ Py.length → (∀ (i q : Nat) (r : hbY), i < j → Py[i]? = some (q, r) → r.1 < k) → ∀ (H : Heap) (locs : List Loc), hb_P D hb_cl M H → hb_D A M → va_S A s.heap H locs → ∀ ls : Array Slot, lv_has ls 3 [(2, .int (nI j)), (0, .ref x), (1, .int k)] → W p l e ({ frames := 3, cells := 0, slots := 0, locals := 64 } : Room) s m ([.ref x, .int k] : List Value).toArray below meth c H locs 0 0 (MQ below (hb_Post D hb_cl s.heap.size M (fun v M1 => v = some (.int (nI (hb_pos Py k))) ∧ M1 = M)) ([.ref x, .int k] : List Value).toArray s 0 0 A) (F0 m 2 ls []) := by
    intro d
    induction d with
    | zero => intro j h9; exact absurd h9 (by omega)
    | succ d ih =>
      intro j hd hjn hinv H locs hP hD hS ls hl
      refine lv_iload_n hx hb d_Hb_placeOf_2 rfl (lv_at hl 0 rfl) ?_
      refine lv_aload_n hx hb d_Hb_placeOf_3 rfl (lv_at hl 1 rfl) ?_
      refine hb_get hx hb hts hown hC_Hb hK hP fx 3 (by decide) rfl fl_Hb_16 rfl d_Hb_placeOf_4 ?_
      refine hb_callV (rest := [.int (nI j)]) hX hts hb_gd Y_Al_size (c_py_size hE h) ml_Hb_55 im_Al_size se_Al_size hK flp hC_Al.1 hz hP hD hS hA rfl hl.1 rfl (Nat.le_of_ble_eq_true rfl) ⟨Nat.le_of_ble_eq_true rfl, Nat.le_of_ble_eq_true rfl⟩ ⟨Nat.le_of_ble_eq_true rfl, Nat.le_of_ble_eq_true rfl⟩ d_Hb_placeOf_7 (fun v3 M1 H locs hq2 hP hD hS _ hkp => ?_)
      obtain ⟨ev4, eM5⟩ := hq2
      subst ev4
      rw [eM5] at hP hD
      refine W.eq (g2 := F0 m 10 ls [.int (nI Py.length), .int (nI j)]) rfl ?_
      refine lv_icmp_ge (tgt := 37) hx hb d_Hb_placeOf_10 (by decide) (fun c6 => ?_) (fun c6 => ?_)
      · skip
        have c6n := hb_ngti c6
        refine lv_iload_n hx hb d_Hb_placeOf_37 rfl (lv_at hl 0 rfl) ?_
        exact hb_iret hAe hx hb hr hlocks hP hD hS (Nat.le_of_ble_eq_true rfl) (Nat.le_of_ble_eq_true rfl) (⟨by rw [hb_pos_eq hinv hjn (fun q r hq => absurd (List.getElem?_eq_some_iff.mp hq).1 (by have := (nI_leI (by omega) (by omega)).mp c6; omega))], rfl⟩) d_Hb_placeOf_38
      · skip
        have c6n := hb_gti c6
        refine lv_aload_n hx hb d_Hb_placeOf_13 rfl (lv_at hl 1 rfl) ?_
        refine hb_get hx hb hts hown hC_Hb hK hP fx 3 (by decide) rfl fl_Hb_16 rfl d_Hb_placeOf_14 ?_
        refine lv_iload_n hx hb d_Hb_placeOf_17 rfl (lv_at hl 0 rfl) ?_
        obtain ⟨q0, r0, hj0⟩ := hb_get2 (L := Py) (j := j) (Nat.lt_of_not_le (fun z => c6 (nI_le z (by omega))))
        have hjlt := (List.getElem?_eq_some_iff.mp hj0).1
        refine hb_callV (rest := []) hX hts hb_gd Y_Al_get (c_py_get hE h hj0) ml_Hb_87 im_Al_get se_Al_get hK flp hC_Al.1 hz hP hD hS hA rfl hl.1 rfl (Nat.le_of_ble_eq_true rfl) ⟨Nat.le_of_ble_eq_true rfl, Nat.le_of_ble_eq_true rfl⟩ ⟨Nat.le_of_ble_eq_true rfl, Nat.le_of_ble_eq_true rfl⟩ d_Hb_placeOf_18 (fun v9 M7 H locs hq8 hP hD hS _ hkp => ?_)
        obtain ⟨ev10, eM11⟩ := hq8
        subst ev10
        rw [eM11] at hP hD
        have fq0 := h.py hj0
        refine W.eq (g2 := F0 m 21 ls [.ref q0]) rfl ?_
        refine va_castS hx hb hown (hts _ kl_Hb_97) (hK.1 1 _ rfl).2 (va_recv hK (hP.one fq0) (ci := 1) (q0 := 0) rfl rfl) d_Hb_placeOf_21 ?_
        refine hb_get hx hb hts hown hC_Pay hK hP fq0 0 (by decide) rfl fl_Hb_189 rfl d_Hb_placeOf_24 ?_
        refine lv_iload_n hx hb d_Hb_placeOf_27 rfl (lv_at hl 2 rfl) ?_
        refine lv_icmp_ge (tgt := 37) hx hb d_Hb_placeOf_28 (by decide) (fun c12 => ?_) (fun c12 => ?_)
        · skip
          have c12n := hb_ngti c12
          refine lv_iload_n hx hb d_Hb_placeOf_37 rfl (lv_at hl 0 rfl) ?_
          exact hb_iret hAe hx hb hr hlocks hP hD hS (Nat.le_of_ble_eq_true rfl) (Nat.le_of_ble_eq_true rfl) (⟨by rw [hb_pos_eq hinv hjn (fun q r hq => by rw [hj0] at hq; cases hq; exact hb_ngti c12)], rfl⟩) d_Hb_placeOf_38
        · skip
          have c12n := hb_gti c12
          refine lv_iinc (v := (nI j) + 1) (lv' := [(2, .int ((nI j) + 1)), (0, .ref x), (1, .int k)]) hx hb d_Hb_placeOf_31 hl (k := 0) rfl (by rfl) (by decide) rfl (fun ls hl => ?_)
          refine lv_goto (tgt := 2) hx hb d_Hb_placeOf_34 (by decide) ?_
          have hl : lv_has ls 3 [(2, .int (nI (j + 1))), (0, .ref x), (1, .int k)] := by rw [← nI_1]; exact lv_sub hl [0, 1, 2] rfl
          exact ih (j + 1) (by omega) (by omega) (fun i q r hi hq => by by_cases z : i = j; subst z; rw [hj0] at hq; cases hq; exact hb_gti c12; exact hinv i q r (by omega) hq) _ _ hP hD hS _ hl
  exact loop (Py.length + 1) 0 (by omega) (by omega) (fun i q r hi => absurd hi (by omega)) _ _ hP hD hS _ (lv_sub hl [0, 1, 2] rfl)
