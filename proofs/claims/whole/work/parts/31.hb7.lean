/-! HOLDBOOK: ticks -/
set_option maxHeartbeats 4000000 in
set_option maxRecDepth 100000 in
/-- ticks(n) -/
theorem c_Hb_ticks_ok {l : Launch} {s0 : State} {D : va_G} {cI cJ cO : ClassId} {e0 mi : Nat} (hE : hb_E l s0 D cI cJ cO e0 mi) (M : hb_M) (x la lp nb ra rp : Nat) (ho pa tm : Int32) (Ac : List (Nat × hbA)) (Py : List (Nat × hbY)) (h : cR cO e0 M x la lp nb ra rp ho pa tm Ac Py) (hk : cOK Ac Py) (ht : hb_tomb Py) (n : Int32) (hn : ¬ n < 1 ∧ ¬ 1000 < n) (hti : ¬ 1000000 < tm + n) : hb_Met l D hb_cl s0 y_Hb_ticks b_Hb_ticks 3 (some .int) { frames := 3, cells := 0, slots := 0, locals := 64 } [.ref x, .int n] M (fun v M1 => v = some (.int (tm + n)) ∧ cR cO e0 M1 x la lp nb ra rp ho pa (tm + n) (hb_tk (tm + n) (Ac, Py) Py.length).1 (hb_tk (tm + n) (Ac, Py) Py.length).2) := by
  refine hb_Met.of (by decide) (Nat.le_of_ble_eq_true rfl) ?_
  intro p e s m below meth c A hAe hX hz hP hD hA hS ls hl
  obtain ⟨hx, hb, hr, hml, hown, hlocks, hnm, hG, hnh⟩ := id hX
  have hown : s.vm.findClass "HoldBook" = some m.cls := hown
  have hts := hE.ts hG ([.ref x, .int n] : List Value).toArray
  have hK := hE.kn hG
  have hl : lv_has ls 3 [(0, .ref x), (1, .int n)] := hl
  have fx := h.1
  obtain ⟨mda, fla⟩ := h.fla
  obtain ⟨mdp, flp⟩ := h.flp
  have hlA := hk.1
  have hlP := hk.2.1
  refine lv_iload_n hx hb d_Hb_ticks_0 rfl (lv_at hl 1 rfl) ?_
  refine lv_iconst (v := 1) hx hb d_Hb_ticks_1 (by decide) ?_
  refine lv_icmp_lt (tgt := 12) hx hb d_Hb_ticks_2 (by decide) (fun c1 => ?_) (fun c1 => ?_)
  · skip
    exact absurd c1 hn.1
  · skip
    refine lv_iload_n hx hb d_Hb_ticks_5 rfl (lv_at hl 1 rfl) ?_
    refine lv_sipush (v := 1000) hx hb d_Hb_ticks_6 (by decide) ?_
    refine lv_icmp_le (tgt := 22) hx hb d_Hb_ticks_9 (by decide) (fun c2 => ?_) (fun c2 => ?_)
    · skip
      have c2n := hb_ngti c2
      refine lv_aload_n hx hb d_Hb_ticks_22 rfl (lv_at hl 0 rfl) ?_
      refine hb_get hx hb hts hown hC_Hb hK hP fx 5 (by decide) rfl fl_Hb_28 rfl d_Hb_ticks_23 ?_
      refine lv_iload_n hx hb d_Hb_ticks_26 rfl (lv_at hl 1 rfl) ?_
      refine lv_iadd hx hb d_Hb_ticks_27 ?_
      refine lv_ldc (v := 1000000) hx hb hown (hts _ kc_Hb_145) d_Hb_ticks_28 ?_
      refine lv_icmp_le (tgt := 43) hx hb d_Hb_ticks_30 (by decide) (fun c3 => ?_) (fun c3 => ?_)
      · skip
        have c3n := hb_ngti c3
        refine lv_aload_n hx hb d_Hb_ticks_43 rfl (lv_at hl 0 rfl) ?_
        refine lv_dup hx hb d_Hb_ticks_44 rfl ?_
        refine hb_get hx hb hts hown hC_Hb hK hP fx 5 (by decide) rfl fl_Hb_28 rfl d_Hb_ticks_45 ?_
        refine lv_iload_n hx hb d_Hb_ticks_48 rfl (lv_at hl 1 rfl) ?_
        refine lv_iadd hx hb d_Hb_ticks_49 ?_
        refine hb_put (ty := .int) hx hb hts hown hC_Hb hK hP hD hS fx 5 (by decide) rfl fl_Hb_28 rfl rfl rfl rfl (Nat.le_of_ble_eq_true rfl) d_Hb_ticks_50 (fun M4 H locs eM5 hP hD hS => ?_)
        have f6 : M4 x = some (.inr (2, [.int ho, .int pa, .ref la, .ref lp, .ref nb, .int (tm + n)])) := by rw [eM5]; exact hb_up_self
        have f7 : M4 la = some (.inr (3, [.ref ra, .int (nI Ac.length), .int mda])) := by rw [eM5, hb_up_ne (fun q9 => by rw [q9, fx] at fla; cases fla)]; exact fla
        have f8 : M4 lp = some (.inr (3, [.ref rp, .int (nI Py.length), .int mdp])) := by rw [eM5, hb_up_ne (fun q9 => by rw [q9, fx] at flp; cases flp)]; exact flp
        refine lv_iconst (v := 0) hx hb d_Hb_ticks_53 (by decide) ?_
        refine lv_istore_n (lv' := [(2, .int 0), (0, .ref x), (1, .int n)]) hx hb d_Hb_ticks_54 rfl hl (by decide) rfl (fun ls hl => ?_)
        have h1 := h.time f6 (hb_off.rf.up (by simp) eM5)
        have loop : ∀ (d j : Nat), Py.length - j < d → j ≤ Py.length → ∀ Mc : hb_M, cR cO e0 Mc x la lp nb ra rp ho pa (tm + n) (hb_tk (tm + n) (Ac, Py) j).1 (hb_tk (tm + n) (Ac, Py) j).2 → ∀ (H : Heap) (locs : List Loc), hb_P D hb_cl Mc H → hb_D A Mc → va_S A s.heap H locs → ∀ ls : Array Slot, lv_has ls 3 [(2, .int (nI j)), (0, .ref x), (1, .int n)] → W p l e ({ frames := 3, cells := 0, slots := 0, locals := 64 } : Room) s m ([.ref x, .int n] : List Value).toArray below meth c H locs 0 0 (MQ below (hb_Post D hb_cl s.heap.size M (fun v M1 => v = some (.int (tm + n)) ∧ cR cO e0 M1 x la lp nb ra rp ho pa (tm + n) (hb_tk (tm + n) (Ac, Py) Py.length).1 (hb_tk (tm + n) (Ac, Py) Py.length).2)) ([.ref x, .int n] : List Value).toArray s 0 0 A) (F0 m 55 ls []) := by
          intro d
          induction d with
          | zero => intro j h9; exact absurd h9 (by omega)
          | succ d ih =>
            intro j hd hjn Mc h9 H locs hP hD hS ls hl
            obtain ⟨hk9, ht9, hl9⟩ := hb_tk_ok (n := tm + n) (S := (Ac, Py)) hk ht j
            have hl9 : (hb_tk (tm + n) (Ac, Py) j).2.length = Py.length := hl9
            obtain ⟨Ac9, eA9⟩ : ∃ z, z = (hb_tk (tm + n) (Ac, Py) j).1 := ⟨_, rfl⟩
            obtain ⟨Py9, eP9⟩ : ∃ z, z = (hb_tk (tm + n) (Ac, Py) j).2 := ⟨_, rfl⟩
            rw [← eA9, ← eP9] at h9 hk9
            rw [← eP9] at ht9 hl9
            have fx := h9.1
            obtain ⟨mdp, flp⟩ := h9.flp
            refine lv_iload_n hx hb d_Hb_ticks_55 rfl (lv_at hl 0 rfl) ?_
            refine lv_aload_n hx hb d_Hb_ticks_56 rfl (lv_at hl 1 rfl) ?_
            refine hb_get hx hb hts hown hC_Hb hK hP fx 3 (by decide) rfl fl_Hb_16 rfl d_Hb_ticks_57 ?_
            refine hb_callV (rest := [.int (nI j)]) hX hts hb_gd Y_Al_size (c_py_size hE h9) ml_Hb_55 im_Al_size se_Al_size hK flp hC_Al.1 hz hP hD hS hA rfl hl.1 rfl (Nat.le_of_ble_eq_true rfl) ⟨Nat.le_of_ble_eq_true rfl, Nat.le_of_ble_eq_true rfl⟩ ⟨Nat.le_of_ble_eq_true rfl, Nat.le_of_ble_eq_true rfl⟩ d_Hb_ticks_60 (fun v11 M9 H locs hq10 hP hD hS _ hkp => ?_)
            obtain ⟨ev12, eM13⟩ := hq10
            subst ev12
            rw [eM13] at hP hD
            refine W.eq (g2 := F0 m 63 ls [.int (nI Py9.length), .int (nI j)]) rfl ?_
            refine lv_icmp_ge (tgt := 90) hx hb d_Hb_ticks_63 (by decide) (fun c14 => ?_) (fun c14 => ?_)
            · skip
              have c14n := hb_ngti c14
              refine lv_aload_n hx hb d_Hb_ticks_90 rfl (lv_at hl 1 rfl) ?_
              refine hb_get hx hb hts hown hC_Hb hK hP fx 5 (by decide) rfl fl_Hb_28 rfl d_Hb_ticks_91 ?_
              exact hb_iret hAe hx hb hr hlocks hP hD hS (Nat.le_of_ble_eq_true rfl) (Nat.le_of_ble_eq_true rfl) (⟨rfl, by have hje : j = Py.length := Nat.le_antisymm hjn (by have := (nI_leI (by omega) (by omega)).mp c14; omega); subst hje; rw [eA9, eP9] at h9; exact h9⟩) d_Hb_ticks_94
            · skip
              have c14n := hb_gti c14
              refine lv_aload_n hx hb d_Hb_ticks_66 rfl (lv_at hl 1 rfl) ?_
              refine hb_get hx hb hts hown hC_Hb hK hP fx 3 (by decide) rfl fl_Hb_16 rfl d_Hb_ticks_67 ?_
              refine lv_iload_n hx hb d_Hb_ticks_70 rfl (lv_at hl 0 rfl) ?_
              obtain ⟨q0, r0, hj0⟩ := hb_get2 (L := Py9) (j := j) (Nat.lt_of_not_le (fun z => c14 (nI_le z (by omega))))
              have hjlt := (List.getElem?_eq_some_iff.mp hj0).1
              obtain ⟨s9, fs9⟩ := h9.acE hk9 hj0
              obtain ⟨a9, ea9⟩ : ∃ z, z = hb_acc nb Ac9 r0.2.1 := ⟨_, rfl⟩
              rw [← ea9] at fs9
              refine hb_callV (rest := []) hX hts hb_gd Y_Al_get (c_py_get hE h9 hj0) ml_Hb_87 im_Al_get se_Al_get hK flp hC_Al.1 hz hP hD hS hA rfl hl.1 rfl (Nat.le_of_ble_eq_true rfl) ⟨Nat.le_of_ble_eq_true rfl, Nat.le_of_ble_eq_true rfl⟩ ⟨Nat.le_of_ble_eq_true rfl, Nat.le_of_ble_eq_true rfl⟩ d_Hb_ticks_71 (fun v17 M15 H locs hq16 hP hD hS _ hkp => ?_)
              obtain ⟨ev18, eM19⟩ := hq16
              subst ev18
              rw [eM19] at hP hD
              have fq0 := h9.py hj0
              rw [← ea9] at fq0
              refine W.eq (g2 := F0 m 74 ls [.ref q0]) rfl ?_
              refine va_castS hx hb hown (hts _ kl_Hb_97) (hK.1 1 _ rfl).2 (va_recv hK (hP.one fq0) (ci := 1) (q0 := 0) rfl rfl) d_Hb_ticks_74 ?_
              refine lv_aload_n hx hb d_Hb_ticks_77 rfl (lv_at hl 1 rfl) ?_
              refine hb_get hx hb hts hown hC_Hb hK hP fx 5 (by decide) rfl fl_Hb_28 rfl d_Hb_ticks_78 ?_
              refine hb_callV (rest := []) hX hts hb_gd Y_Pay_passTo (c_Pay_passTo hE Mc q0 a9 r0.2.1 s9.1 s9.2.1 s9.2.2.1 s9.2.2.2.1 s9.2.2.2.2 r0.1 r0.2.2.1 r0.2.2.2.2.2.1 r0.2.2.2.2.2.2.1 r0.2.2.2.2.2.2.2.1 r0.2.2.2.2.2.2.2.2.2 r0.2.2.2.1 r0.2.2.2.2.1 r0.2.2.2.2.2.2.2.2.1 fs9 fq0 (tm + n)) ml_Hb_148 im_Pay_passTo se_Pay_passTo hK fq0 hC_Pay.1 hz hP hD hS hA rfl hl.1 rfl (Nat.le_of_ble_eq_true rfl) ⟨Nat.le_of_ble_eq_true rfl, Nat.le_of_ble_eq_true rfl⟩ ⟨Nat.le_of_ble_eq_true rfl, Nat.le_of_ble_eq_true rfl⟩ d_Hb_ticks_81 (fun v22 M20 H locs hq21 hP hD hS _ hkp => ?_)
              obtain ⟨ev9, g1, g2, g3⟩ := hq21
              subst ev9
              have hst : cR cO e0 M20 x la lp nb ra rp ho pa (tm + n) (hb_tk (tm + n) (Ac, Py) (j + 1)).1 (hb_tk (tm + n) (Ac, Py) (j + 1)).2 := by
                show cR cO e0 M20 x la lp nb ra rp ho pa (tm + n) (hb_tk1 (tm + n) (hb_tk (tm + n) (Ac, Py) j) j).1 (hb_tk1 (tm + n) (hb_tk (tm + n) (Ac, Py) j) j).2
                rw [show (hb_tk (tm + n) (Ac, Py) j) = (Ac9, Py9) by rw [eA9, eP9]]
                rcases hb_tk1_at (n := tm + n) (S := (Ac9, Py9)) hk9 hj0 with ⟨e1, e2⟩ | ⟨k, a, s, hk2, e1, e2, e3⟩
                · obtain ⟨t1, t2⟩ := ht9 _ (List.mem_of_getElem? hj0) e1
                  have t1 : r0.2.2.1 = 2 := t1
                  have t2 : r0.2.2.2.2.2.2.2.1 = 0 := t2
                  have n1 : ¬ (r0.2.2.1 = 1 ∧ r0.2.2.2.2.2.1 ≤ tm + n) := fun z => by rw [t1] at z; exact absurd z.1 (by decide)
                  have n2 : ¬ ((r0.2.2.2.2.2.2.2.1 = 1 ∨ r0.2.2.2.2.2.2.2.1 = 2) ∧ r0.2.2.2.2.2.2.2.2.2 < tm + n) := fun z => by rw [t2] at z; rcases z.1 with y | y <;> exact absurd y (by decide)
                  simp only [if_neg n1, if_neg n2] at g1 g2
                  rw [e2, g3.same (g1.trans fs9.symm) (g2.trans fq0.symm)]
                  exact h9
                · have e4 : a9 = a := by rw [ea9, e1]; exact hb_acc_nI hk2 e2
                  subst e4
                  have e5 := h9.ac e2
                  have e6 : s9 = s := by rw [fs9] at e5; injection e5 with z; injection z with z; injection z with _ z; injection z with _ z; injection z with z1 z; injection z with z2 z; injection z with z3 z; injection z with z4 z; injection z with z5 z; injection z1 with z1; injection z2 with z2; injection z3 with z3; injection z4 with z4; injection z5 with z5; exact Prod.ext z1 (Prod.ext z2 (Prod.ext z3 (Prod.ext z4 z5)))
                  subst e6
                  rw [e1] at g1
                  rw [e3]
                  exact h9.upd hk9 hj0 e1 e2 g1 g2 g3 hb_pass_1 hb_pass_2
              have fx := hst.1
              refine W.eq (g2 := F0 m 84 ls []) rfl ?_
              refine lv_iinc (v := (nI j) + 1) (lv' := [(2, .int ((nI j) + 1)), (0, .ref x), (1, .int n)]) hx hb d_Hb_ticks_84 hl (k := 0) rfl (by rfl) (by decide) rfl (fun ls hl => ?_)
              refine lv_goto (tgt := 55) hx hb d_Hb_ticks_87 (by decide) ?_
              have hl : lv_has ls 3 [(2, .int (nI (j + 1))), (0, .ref x), (1, .int n)] := by rw [← nI_1]; exact lv_sub hl [0, 1, 2] rfl
              exact ih (j + 1) (by omega) (by omega) _ hst _ _ hP hD hS _ hl
        exact loop (Py.length + 1) 0 (by omega) (by omega) _ h1 _ _ hP hD hS _ (lv_sub hl [0, 1, 2] rfl)
      · skip
        have c3n := hb_gti c3
        exact absurd (hb_gti c3) hti
    · skip
      have c2n := hb_gti c2
      exact absurd (hb_gti c2) hn.2
set_option maxHeartbeats 4000000 in
set_option maxRecDepth 100000 in
theorem c_Hb_ticks_iae {l : Launch} {s0 : State} {D : va_G} {cI cJ cO : ClassId} {e0 mi : Nat} (hE : hb_E l s0 D cI cJ cO e0 mi) (M : hb_M) (x la lp nb ra rp : Nat) (ho pa tm : Int32) (Ac : List (Nat × hbA)) (Py : List (Nat × hbY)) (h : cR cO e0 M x la lp nb ra rp ho pa tm Ac Py) (hk : cOK Ac Py) (n : Int32) (hn : n < 1 ∨ 1000 < n) : hb_Thr l D hb_cl s0 y_Hb_ticks b_Hb_ticks 3 (some .int) { frames := 6, cells := 1, slots := 6, locals := 90 } [.ref x, .int n] M "java/lang/IllegalArgumentException" := by
  refine hb_Thr.of (by decide) (Nat.le_of_ble_eq_true rfl) ?_
  intro p e s m below meth c A hAe hX hz hP hD hA hS ls hl
  obtain ⟨hx, hb, hr, hml, hown, hlocks, hnm, hG, hnh⟩ := id hX
  have hown : s.vm.findClass "HoldBook" = some m.cls := hown
  have hts := hE.ts hG ([.ref x, .int n] : List Value).toArray
  have hK := hE.kn hG
  have hl : lv_has ls 3 [(0, .ref x), (1, .int n)] := hl
  have fx := h.1
  obtain ⟨mda, fla⟩ := h.fla
  obtain ⟨mdp, flp⟩ := h.flp
  have hlA := hk.1
  have hlP := hk.2.1
  refine lv_iload_n hx hb d_Hb_ticks_0 rfl (lv_at hl 1 rfl) ?_
  refine lv_iconst (v := 1) hx hb d_Hb_ticks_1 (by decide) ?_
  refine lv_icmp_lt (tgt := 12) hx hb d_Hb_ticks_2 (by decide) (fun c1 => ?_) (fun c1 => ?_)
  · skip
    exact hb_iae hE hAe hX hown hz hP hS hl.1 (List.mem_of_getElem? (i := 484) (by decide +kernel) : Cond.stringRef "HoldBook" 143 "the ticks are not 1 .. 1000" ∈ lw_tbl) d_Hb_ticks_12 d_Hb_ticks_15 d_Hb_ticks_16 d_Hb_ticks_18 d_Hb_ticks_21 (Nat.le_of_ble_eq_true rfl) (Nat.le_of_ble_eq_true rfl) (Nat.le_of_ble_eq_true rfl) (Nat.le_of_ble_eq_true rfl) (Nat.le_of_ble_eq_true rfl) (Nat.le_of_ble_eq_true rfl)
  · skip
    refine lv_iload_n hx hb d_Hb_ticks_5 rfl (lv_at hl 1 rfl) ?_
    refine lv_sipush (v := 1000) hx hb d_Hb_ticks_6 (by decide) ?_
    refine lv_icmp_le (tgt := 22) hx hb d_Hb_ticks_9 (by decide) (fun c2 => ?_) (fun c2 => ?_)
    · skip
      have c2n := hb_ngti c2
      rcases hn with y | y
      · exact absurd y (by assumption)
      · exact absurd y (by assumption)
    · skip
      have c2n := hb_gti c2
      exact hb_iae hE hAe hX hown hz hP hS hl.1 (List.mem_of_getElem? (i := 484) (by decide +kernel) : Cond.stringRef "HoldBook" 143 "the ticks are not 1 .. 1000" ∈ lw_tbl) d_Hb_ticks_12 d_Hb_ticks_15 d_Hb_ticks_16 d_Hb_ticks_18 d_Hb_ticks_21 (Nat.le_of_ble_eq_true rfl) (Nat.le_of_ble_eq_true rfl) (Nat.le_of_ble_eq_true rfl) (Nat.le_of_ble_eq_true rfl) (Nat.le_of_ble_eq_true rfl) (Nat.le_of_ble_eq_true rfl)
set_option maxHeartbeats 4000000 in
set_option maxRecDepth 100000 in
theorem c_Hb_ticks_ise {l : Launch} {s0 : State} {D : va_G} {cI cJ cO : ClassId} {e0 mi : Nat} (hE : hb_E l s0 D cI cJ cO e0 mi) (M : hb_M) (x la lp nb ra rp : Nat) (ho pa tm : Int32) (Ac : List (Nat × hbA)) (Py : List (Nat × hbY)) (h : cR cO e0 M x la lp nb ra rp ho pa tm Ac Py) (hk : cOK Ac Py) (n : Int32) (hn : ¬ n < 1 ∧ ¬ 1000 < n) (hti : 1000000 < tm + n) : hb_Thr l D hb_cl s0 y_Hb_ticks b_Hb_ticks 3 (some .int) { frames := 6, cells := 1, slots := 6, locals := 90 } [.ref x, .int n] M "java/lang/IllegalStateException" := by
  refine hb_Thr.of (by decide) (Nat.le_of_ble_eq_true rfl) ?_
  intro p e s m below meth c A hAe hX hz hP hD hA hS ls hl
  obtain ⟨hx, hb, hr, hml, hown, hlocks, hnm, hG, hnh⟩ := id hX
  have hown : s.vm.findClass "HoldBook" = some m.cls := hown
  have hts := hE.ts hG ([.ref x, .int n] : List Value).toArray
  have hK := hE.kn hG
  have hl : lv_has ls 3 [(0, .ref x), (1, .int n)] := hl
  have fx := h.1
  obtain ⟨mda, fla⟩ := h.fla
  obtain ⟨mdp, flp⟩ := h.flp
  have hlA := hk.1
  have hlP := hk.2.1
  refine lv_iload_n hx hb d_Hb_ticks_0 rfl (lv_at hl 1 rfl) ?_
  refine lv_iconst (v := 1) hx hb d_Hb_ticks_1 (by decide) ?_
  refine lv_icmp_lt (tgt := 12) hx hb d_Hb_ticks_2 (by decide) (fun c1 => ?_) (fun c1 => ?_)
  · skip
    exact absurd c1 hn.1
  · skip
    refine lv_iload_n hx hb d_Hb_ticks_5 rfl (lv_at hl 1 rfl) ?_
    refine lv_sipush (v := 1000) hx hb d_Hb_ticks_6 (by decide) ?_
    refine lv_icmp_le (tgt := 22) hx hb d_Hb_ticks_9 (by decide) (fun c2 => ?_) (fun c2 => ?_)
    · skip
      have c2n := hb_ngti c2
      refine lv_aload_n hx hb d_Hb_ticks_22 rfl (lv_at hl 0 rfl) ?_
      refine hb_get hx hb hts hown hC_Hb hK hP fx 5 (by decide) rfl fl_Hb_28 rfl d_Hb_ticks_23 ?_
      refine lv_iload_n hx hb d_Hb_ticks_26 rfl (lv_at hl 1 rfl) ?_
      refine lv_iadd hx hb d_Hb_ticks_27 ?_
      refine lv_ldc (v := 1000000) hx hb hown (hts _ kc_Hb_145) d_Hb_ticks_28 ?_
      refine lv_icmp_le (tgt := 43) hx hb d_Hb_ticks_30 (by decide) (fun c3 => ?_) (fun c3 => ?_)
      · skip
        have c3n := hb_ngti c3
        exact absurd hti (hb_ngti c3)
      · skip
        have c3n := hb_gti c3
        exact hb_ise hE hAe hX hown hz hP hS hl.1 (List.mem_of_getElem? (i := 485) (by decide +kernel) : Cond.stringRef "HoldBook" 146 "the time would be above 1000000" ∈ lw_tbl) d_Hb_ticks_33 d_Hb_ticks_36 d_Hb_ticks_37 d_Hb_ticks_39 d_Hb_ticks_42 (Nat.le_of_ble_eq_true rfl) (Nat.le_of_ble_eq_true rfl) (Nat.le_of_ble_eq_true rfl) (Nat.le_of_ble_eq_true rfl) (Nat.le_of_ble_eq_true rfl) (Nat.le_of_ble_eq_true rfl)
    · skip
      have c2n := hb_gti c2
      exact absurd (hb_gti c2) hn.2
