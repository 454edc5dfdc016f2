/-! CHECKS: the private checks of HoldBook, in bounds (they return) and out of bounds (they throw) -/
theorem hb_iaeG : ∀ w ∈ Cond.classLink "HoldBook" 46 "java/lang/IllegalArgumentException" :: Cond.initialized "java/lang/IllegalArgumentException" :: vx_atS "HoldBook" 50 "java/lang/IllegalArgumentException" ["java/lang/RuntimeException", "java/lang/Exception"], vx_ot w = true := by decide +kernel
theorem hb_iseG : ∀ w ∈ Cond.classLink "HoldBook" 59 "java/lang/IllegalStateException" :: Cond.initialized "java/lang/IllegalStateException" :: vx_atS "HoldBook" 63 "java/lang/IllegalStateException" ["java/lang/RuntimeException", "java/lang/Exception"], vx_ot w = true := by decide +kernel
section HBTR
variable {p : Program} {l : Launch} {e : Env} {R : Room} {s0 s : State} {m : MethodId} {args : Array Value} {below : List Frame} {meth : Method} {c : Code} {H : Heap} {locs : List Loc} {cells slots : Nat}
variable {pc : Nat} {ls : Array Slot} {rest : List Value} {D : va_G} {A : Nat → Prop} {M : hb_M} {cI cJ cO : ClassId} {e0 mi : Nat} {yo : MethodName} {bo : ByteArray} {no : Nat} {ro : Option FieldType} {mc ms : Nat}
theorem hb_iae {is : Nat} {tx : String} (hE : hb_E l s0 D cI cJ cO e0 mi) (hAe : hb_A M s.heap.size = A) (hX : hb_Cx p s0 s m meth c yo bo no ro) (hown : s.vm.findClass "HoldBook" = some m.cls) (hz : hb_Z s0 A) (hP : hb_P D hb_cl M H) (hS : va_S A s.heap H locs) (hsz : ls.size = no) (hstr : Cond.stringRef "HoldBook" is tx ∈ lw_tbl)
    (d0 : decode bo pc = .ok (.new 46, 3)) (d3 : decode bo (pc + 3) = .ok (.dup, 1)) (d4 : decode bo (pc + 4) = .ok (.ldc is, 2)) (d6 : decode bo (pc + 6) = .ok (.invokespecial 50, 3)) (d9 : decode bo (pc + 9) = .ok (.athrow, 1))
    (hRf : 5 < R.frames) (hRl : (rest.map fun v => v.category).sum + (13 * 3 + 43) ≤ R.locals) (hRc : cells + 1 ≤ R.cells) (hRs : slots + 6 ≤ R.slots) (hc : cells + 1 ≤ mc) (hs : slots + 6 ≤ ms) :
    W p l e R s m args below meth c H locs cells slots (vx_MQ below (fun _ _ _ _ => False) (hb_XC D hb_cl s.heap.size M "java/lang/IllegalArgumentException") args s mc ms A) (F0 m pc ls rest) := by
  obtain ⟨hx, hb, -, hml, -, hlk, -, hG, hnh⟩ := id hX
  obtain ⟨q, hq⟩ := hE.st hG hstr
  have hts := hE.ts hG args
  exact vx_throwS (names := ["java/lang/RuntimeException", "java/lang/Exception"]) (A := A) hx hb hE.1 hown (by decide +kernel) (by decide +kernel) (hts _ kl_Hb_46) (hts _ in_Iae) hq (vx_hat (fun w hw => hts w (hb_in (hb_iaeS w hw) (List.mem_filter.mp hw).2)) hb_iae2 (hE.t2 hG)) hb_iaeG (hE.un hG hz) (hE.su hG hz) hS (by rw [hsz, hml]) d0 d3 d4 d6 d9 (hb_noh hnh _) hRf hRl hRc hRs hlk
    (fun t ht h1 h2 => ⟨rfl, hP.kept (fun a x ha => h2 a (hP.lt ha)), by rw [hAe]; exact ⟨Nat.le_trans hS.1 h1, fun z h3 h4 => by rw [h2 z (Nat.lt_of_lt_of_le h3 hS.1)]; exact hS.2.1 z h3 h4⟩⟩) hS.2.2 hc hs
theorem hb_ise {is : Nat} {tx : String} (hE : hb_E l s0 D cI cJ cO e0 mi) (hAe : hb_A M s.heap.size = A) (hX : hb_Cx p s0 s m meth c yo bo no ro) (hown : s.vm.findClass "HoldBook" = some m.cls) (hz : hb_Z s0 A) (hP : hb_P D hb_cl M H) (hS : va_S A s.heap H locs) (hsz : ls.size = no) (hstr : Cond.stringRef "HoldBook" is tx ∈ lw_tbl)
    (d0 : decode bo pc = .ok (.new 59, 3)) (d3 : decode bo (pc + 3) = .ok (.dup, 1)) (d4 : decode bo (pc + 4) = .ok (.ldc is, 2)) (d6 : decode bo (pc + 6) = .ok (.invokespecial 63, 3)) (d9 : decode bo (pc + 9) = .ok (.athrow, 1))
    (hRf : 5 < R.frames) (hRl : (rest.map fun v => v.category).sum + (13 * 3 + 43) ≤ R.locals) (hRc : cells + 1 ≤ R.cells) (hRs : slots + 6 ≤ R.slots) (hc : cells + 1 ≤ mc) (hs : slots + 6 ≤ ms) :
    W p l e R s m args below meth c H locs cells slots (vx_MQ below (fun _ _ _ _ => False) (hb_XC D hb_cl s.heap.size M "java/lang/IllegalStateException") args s mc ms A) (F0 m pc ls rest) := by
  obtain ⟨hx, hb, -, hml, -, hlk, -, hG, hnh⟩ := id hX
  obtain ⟨q, hq⟩ := hE.st hG hstr
  have hts := hE.ts hG args
  exact vx_throwS (names := ["java/lang/RuntimeException", "java/lang/Exception"]) (A := A) hx hb hE.1 hown (by decide +kernel) (by decide +kernel) (hts _ kl_Hb_59) (hts _ in_Ise) hq (vx_hat (fun w hw => hts w (hb_in (hb_iseS w hw) (List.mem_filter.mp hw).2)) hb_ise2 (hE.t2 hG)) hb_iseG (hE.un hG hz) (hE.su hG hz) hS (by rw [hsz, hml]) d0 d3 d4 d6 d9 (hb_noh hnh _) hRf hRl hRc hRs hlk
    (fun t ht h1 h2 => ⟨rfl, hP.kept (fun a x ha => h2 a (hP.lt ha)), by rw [hAe]; exact ⟨Nat.le_trans hS.1 h1, fun z h3 h4 => by rw [h2 z (Nat.lt_of_lt_of_le h3 hS.1)]; exact hS.2.1 z h3 h4⟩⟩) hS.2.2 hc hs
end HBTR
set_option maxHeartbeats 4000000 in
set_option maxRecDepth 100000 in
/-- Hb_checkKey, in bounds -/
theorem c_Hb_checkKey_ok {l : Launch} {s0 : State} {D : va_G} {cI cJ cO : ClassId} {e0 mi : Nat} (hE : hb_E l s0 D cI cJ cO e0 mi) (M : hb_M) (k : Int32) (h : ¬ k < 0 ∧ ¬ 1000000 < k) : hb_Met l D hb_cl s0 y_Hb_checkKey b_Hb_checkKey 1 none { frames := 0, cells := 0, slots := 0, locals := 0 } [.int k] M (fun v M1 => v = none ∧ M1 = M) := by
  refine hb_Met.of (by decide) (Nat.le_of_ble_eq_true rfl) ?_
  intro p e s m below meth c A hAe hX hz hP hD hA hS ls hl
  obtain ⟨hx, hb, hr, hml, hown, hlocks, hnm, hG, hnh⟩ := id hX
  have hown : s.vm.findClass "HoldBook" = some m.cls := hown
  have hts := hE.ts hG ([.int k] : List Value).toArray
  have hK := hE.kn hG
  have hl : lv_has ls 1 [(0, .int k)] := hl
  refine lv_iload_n hx hb d_Hb_checkKey_0 rfl (lv_at hl 0 rfl) ?_
  refine lv_if_lt (tgt := 10) hx hb d_Hb_checkKey_1 (by decide) (fun c1 => ?_) (fun c1 => ?_)
  · skip
    exact absurd c1 h.1
  · skip
    refine lv_iload_n hx hb d_Hb_checkKey_4 rfl (lv_at hl 0 rfl) ?_
    refine lv_ldc (v := 1000000) hx hb hown (hts _ kc_Hb_145) d_Hb_checkKey_5 ?_
    refine lv_icmp_le (tgt := 20) hx hb d_Hb_checkKey_7 (by decide) (fun c2 => ?_) (fun c2 => ?_)
    · skip
      have c2n := hb_ngti c2
      exact hb_vret hAe hx hb hr hlocks hP hD hS (Nat.le_of_ble_eq_true rfl) (Nat.le_of_ble_eq_true rfl) (⟨rfl, rfl⟩) d_Hb_checkKey_20
    · skip
      have c2n := hb_gti c2
      exact absurd c2 (fun z => h.2 (hb_gti z))
set_option maxHeartbeats 4000000 in
set_option maxRecDepth 100000 in
/-- Hb_checkKey, out of bounds -/
theorem c_Hb_checkKey_bad {l : Launch} {s0 : State} {D : va_G} {cI cJ cO : ClassId} {e0 mi : Nat} (hE : hb_E l s0 D cI cJ cO e0 mi) (M : hb_M) (k : Int32) (h : k < 0 ∨ 1000000 < k) : hb_Thr l D hb_cl s0 y_Hb_checkKey b_Hb_checkKey 1 none { frames := 6, cells := 1, slots := 6, locals := 90 } [.int k] M "java/lang/IllegalArgumentException" := by
  refine hb_Thr.of (by decide) (Nat.le_of_ble_eq_true rfl) ?_
  intro p e s m below meth c A hAe hX hz hP hD hA hS ls hl
  obtain ⟨hx, hb, hr, hml, hown, hlocks, hnm, hG, hnh⟩ := id hX
  have hown : s.vm.findClass "HoldBook" = some m.cls := hown
  have hts := hE.ts hG ([.int k] : List Value).toArray
  have hK := hE.kn hG
  have hl : lv_has ls 1 [(0, .int k)] := hl
  refine lv_iload_n hx hb d_Hb_checkKey_0 rfl (lv_at hl 0 rfl) ?_
  refine lv_if_lt (tgt := 10) hx hb d_Hb_checkKey_1 (by decide) (fun c1 => ?_) (fun c1 => ?_)
  · skip
    exact hb_iae hE hAe hX hown hz hP hS hl.1 (List.mem_of_getElem? (i := 362) (by decide +kernel) : Cond.stringRef "HoldBook" 206 "no key" ∈ lw_tbl) d_Hb_checkKey_10 d_Hb_checkKey_13 d_Hb_checkKey_14 d_Hb_checkKey_16 d_Hb_checkKey_19 (Nat.le_of_ble_eq_true rfl) (Nat.le_of_ble_eq_true rfl) (Nat.le_of_ble_eq_true rfl) (Nat.le_of_ble_eq_true rfl) (Nat.le_of_ble_eq_true rfl) (Nat.le_of_ble_eq_true rfl)
  · skip
    refine lv_iload_n hx hb d_Hb_checkKey_4 rfl (lv_at hl 0 rfl) ?_
    refine lv_ldc (v := 1000000) hx hb hown (hts _ kc_Hb_145) d_Hb_checkKey_5 ?_
    refine lv_icmp_le (tgt := 20) hx hb d_Hb_checkKey_7 (by decide) (fun c2 => ?_) (fun c2 => ?_)
    · skip
      have c2n := hb_ngti c2
      exact absurd h (by intro z; rcases z with z | z; exact absurd z (by assumption); exact absurd z c2n)
    · skip
      have c2n := hb_gti c2
      exact hb_iae hE hAe hX hown hz hP hS hl.1 (List.mem_of_getElem? (i := 362) (by decide +kernel) : Cond.stringRef "HoldBook" 206 "no key" ∈ lw_tbl) d_Hb_checkKey_10 d_Hb_checkKey_13 d_Hb_checkKey_14 d_Hb_checkKey_16 d_Hb_checkKey_19 (Nat.le_of_ble_eq_true rfl) (Nat.le_of_ble_eq_true rfl) (Nat.le_of_ble_eq_true rfl) (Nat.le_of_ble_eq_true rfl) (Nat.le_of_ble_eq_true rfl) (Nat.le_of_ble_eq_true rfl)
set_option maxHeartbeats 4000000 in
set_option maxRecDepth 100000 in
/-- Hb_checkAmount, in bounds -/
theorem c_Hb_checkAmount_ok {l : Launch} {s0 : State} {D : va_G} {cI cJ cO : ClassId} {e0 mi : Nat} (hE : hb_E l s0 D cI cJ cO e0 mi) (M : hb_M) (x : Int64) (h : ¬ x < 1 ∧ ¬ 1000000000000 < x) : hb_Met l D hb_cl s0 y_Hb_checkAmount b_Hb_checkAmount 2 none { frames := 0, cells := 0, slots := 0, locals := 0 } [.long x] M (fun v M1 => v = none ∧ M1 = M) := by
  refine hb_Met.of (by decide) (Nat.le_of_ble_eq_true rfl) ?_
  intro p e s m below meth c A hAe hX hz hP hD hA hS ls hl
  obtain ⟨hx, hb, hr, hml, hown, hlocks, hnm, hG, hnh⟩ := id hX
  have hown : s.vm.findClass "HoldBook" = some m.cls := hown
  have hts := hE.ts hG ([.long x] : List Value).toArray
  have hK := hE.kn hG
  have hl : lv_has ls 2 [(0, .long x)] := hl
  refine lv_lload_n hx hb d_Hb_checkAmount_0 rfl (lv_at hl 0 rfl) ?_
  refine lv_lconst (v := 1) hx hb d_Hb_checkAmount_1 (by decide) ?_
  refine hb_lc_lt (tgt := 14) hx hb d_Hb_checkAmount_2 d_Hb_checkAmount_3 (by decide) (fun c1 => ?_) (fun c1 => ?_)
  · skip
    exact absurd c1 h.1
  · skip
    refine lv_lload_n hx hb d_Hb_checkAmount_6 rfl (lv_at hl 0 rfl) ?_
    refine lv_ldc2 (v := 1000000000000) hx hb hown (hts _ kc_Hb_44) d_Hb_checkAmount_7 ?_
    refine hb_lc_le (tgt := 24) hx hb d_Hb_checkAmount_10 d_Hb_checkAmount_11 (by decide) (fun c2 => ?_) (fun c2 => ?_)
    · skip
      have c2n := hb_ngt c2
      exact hb_vret hAe hx hb hr hlocks hP hD hS (Nat.le_of_ble_eq_true rfl) (Nat.le_of_ble_eq_true rfl) (⟨rfl, rfl⟩) d_Hb_checkAmount_24
    · skip
      have c2n := hb_gt c2
      exact absurd c2 (fun z => h.2 (hb_gt z))
set_option maxHeartbeats 4000000 in
set_option maxRecDepth 100000 in
/-- Hb_checkAmount, out of bounds -/
theorem c_Hb_checkAmount_bad {l : Launch} {s0 : State} {D : va_G} {cI cJ cO : ClassId} {e0 mi : Nat} (hE : hb_E l s0 D cI cJ cO e0 mi) (M : hb_M) (x : Int64) (h : x < 1 ∨ 1000000000000 < x) : hb_Thr l D hb_cl s0 y_Hb_checkAmount b_Hb_checkAmount 2 none { frames := 6, cells := 1, slots := 6, locals := 90 } [.long x] M "java/lang/IllegalArgumentException" := by
  refine hb_Thr.of (by decide) (Nat.le_of_ble_eq_true rfl) ?_
  intro p e s m below meth c A hAe hX hz hP hD hA hS ls hl
  obtain ⟨hx, hb, hr, hml, hown, hlocks, hnm, hG, hnh⟩ := id hX
  have hown : s.vm.findClass "HoldBook" = some m.cls := hown
  have hts := hE.ts hG ([.long x] : List Value).toArray
  have hK := hE.kn hG
  have hl : lv_has ls 2 [(0, .long x)] := hl
  refine lv_lload_n hx hb d_Hb_checkAmount_0 rfl (lv_at hl 0 rfl) ?_
  refine lv_lconst (v := 1) hx hb d_Hb_checkAmount_1 (by decide) ?_
  refine hb_lc_lt (tgt := 14) hx hb d_Hb_checkAmount_2 d_Hb_checkAmount_3 (by decide) (fun c1 => ?_) (fun c1 => ?_)
  · skip
    exact hb_iae hE hAe hX hown hz hP hS hl.1 (List.mem_of_getElem? (i := 371) (by decide +kernel) : Cond.stringRef "HoldBook" 208 "the amount is out of its bounds" ∈ lw_tbl) d_Hb_checkAmount_14 d_Hb_checkAmount_17 d_Hb_checkAmount_18 d_Hb_checkAmount_20 d_Hb_checkAmount_23 (Nat.le_of_ble_eq_true rfl) (Nat.le_of_ble_eq_true rfl) (Nat.le_of_ble_eq_true rfl) (Nat.le_of_ble_eq_true rfl) (Nat.le_of_ble_eq_true rfl) (Nat.le_of_ble_eq_true rfl)
  · skip
    refine lv_lload_n hx hb d_Hb_checkAmount_6 rfl (lv_at hl 0 rfl) ?_
    refine lv_ldc2 (v := 1000000000000) hx hb hown (hts _ kc_Hb_44) d_Hb_checkAmount_7 ?_
    refine hb_lc_le (tgt := 24) hx hb d_Hb_checkAmount_10 d_Hb_checkAmount_11 (by decide) (fun c2 => ?_) (fun c2 => ?_)
    · skip
      have c2n := hb_ngt c2
      exact absurd h (by intro z; rcases z with z | z; exact absurd z (by assumption); exact absurd z c2n)
    · skip
      have c2n := hb_gt c2
      exact hb_iae hE hAe hX hown hz hP hS hl.1 (List.mem_of_getElem? (i := 371) (by decide +kernel) : Cond.stringRef "HoldBook" 208 "the amount is out of its bounds" ∈ lw_tbl) d_Hb_checkAmount_14 d_Hb_checkAmount_17 d_Hb_checkAmount_18 d_Hb_checkAmount_20 d_Hb_checkAmount_23 (Nat.le_of_ble_eq_true rfl) (Nat.le_of_ble_eq_true rfl) (Nat.le_of_ble_eq_true rfl) (Nat.le_of_ble_eq_true rfl) (Nat.le_of_ble_eq_true rfl) (Nat.le_of_ble_eq_true rfl)
set_option maxHeartbeats 4000000 in
set_option maxRecDepth 100000 in
/-- Hb_checkWhat, in bounds -/
theorem c_Hb_checkWhat_ok {l : Launch} {s0 : State} {D : va_G} {cI cJ cO : ClassId} {e0 mi : Nat} (hE : hb_E l s0 D cI cJ cO e0 mi) (M : hb_M) (k n : Int32) (h : ¬ k < 0 ∧ ¬ n < k) : hb_Met l D hb_cl s0 y_Hb_checkWhat b_Hb_checkWhat 2 none { frames := 0, cells := 0, slots := 0, locals := 0 } [.int k, .int n] M (fun v M1 => v = none ∧ M1 = M) := by
  refine hb_Met.of (by decide) (Nat.le_of_ble_eq_true rfl) ?_
  intro p e s m below meth c A hAe hX hz hP hD hA hS ls hl
  obtain ⟨hx, hb, hr, hml, hown, hlocks, hnm, hG, hnh⟩ := id hX
  have hown : s.vm.findClass "HoldBook" = some m.cls := hown
  have hts := hE.ts hG ([.int k, .int n] : List Value).toArray
  have hK := hE.kn hG
  have hl : lv_has ls 2 [(0, .int k), (1, .int n)] := hl
  refine lv_iload_n hx hb d_Hb_checkWhat_0 rfl (lv_at hl 0 rfl) ?_
  refine lv_if_lt (tgt := 9) hx hb d_Hb_checkWhat_1 (by decide) (fun c1 => ?_) (fun c1 => ?_)
  · skip
    exact absurd c1 h.1
  · skip
    refine lv_iload_n hx hb d_Hb_checkWhat_4 rfl (lv_at hl 0 rfl) ?_
    refine lv_iload_n hx hb d_Hb_checkWhat_5 rfl (lv_at hl 1 rfl) ?_
    refine lv_icmp_le (tgt := 19) hx hb d_Hb_checkWhat_6 (by decide) (fun c2 => ?_) (fun c2 => ?_)
    · skip
      have c2n := hb_ngti c2
      exact hb_vret hAe hx hb hr hlocks hP hD hS (Nat.le_of_ble_eq_true rfl) (Nat.le_of_ble_eq_true rfl) (⟨rfl, rfl⟩) d_Hb_checkWhat_19
    · skip
      have c2n := hb_gti c2
      exact absurd c2 (fun z => h.2 (hb_gti z))
set_option maxHeartbeats 4000000 in
set_option maxRecDepth 100000 in
/-- Hb_checkWhat, out of bounds -/
theorem c_Hb_checkWhat_bad {l : Launch} {s0 : State} {D : va_G} {cI cJ cO : ClassId} {e0 mi : Nat} (hE : hb_E l s0 D cI cJ cO e0 mi) (M : hb_M) (k n : Int32) (h : k < 0 ∨ n < k) : hb_Thr l D hb_cl s0 y_Hb_checkWhat b_Hb_checkWhat 2 none { frames := 6, cells := 1, slots := 6, locals := 90 } [.int k, .int n] M "java/lang/IllegalArgumentException" := by
  refine hb_Thr.of (by decide) (Nat.le_of_ble_eq_true rfl) ?_
  intro p e s m below meth c A hAe hX hz hP hD hA hS ls hl
  obtain ⟨hx, hb, hr, hml, hown, hlocks, hnm, hG, hnh⟩ := id hX
  have hown : s.vm.findClass "HoldBook" = some m.cls := hown
  have hts := hE.ts hG ([.int k, .int n] : List Value).toArray
  have hK := hE.kn hG
  have hl : lv_has ls 2 [(0, .int k), (1, .int n)] := hl
  refine lv_iload_n hx hb d_Hb_checkWhat_0 rfl (lv_at hl 0 rfl) ?_
  refine lv_if_lt (tgt := 9) hx hb d_Hb_checkWhat_1 (by decide) (fun c1 => ?_) (fun c1 => ?_)
  · skip
    exact hb_iae hE hAe hX hown hz hP hS hl.1 (List.mem_of_getElem? (i := 536) (by decide +kernel) : Cond.stringRef "HoldBook" 210 "there is no such thing to tell" ∈ lw_tbl) d_Hb_checkWhat_9 d_Hb_checkWhat_12 d_Hb_checkWhat_13 d_Hb_checkWhat_15 d_Hb_checkWhat_18 (Nat.le_of_ble_eq_true rfl) (Nat.le_of_ble_eq_true rfl) (Nat.le_of_ble_eq_true rfl) (Nat.le_of_ble_eq_true rfl) (Nat.le_of_ble_eq_true rfl) (Nat.le_of_ble_eq_true rfl)
  · skip
    refine lv_iload_n hx hb d_Hb_checkWhat_4 rfl (lv_at hl 0 rfl) ?_
    refine lv_iload_n hx hb d_Hb_checkWhat_5 rfl (lv_at hl 1 rfl) ?_
    refine lv_icmp_le (tgt := 19) hx hb d_Hb_checkWhat_6 (by decide) (fun c2 => ?_) (fun c2 => ?_)
    · skip
      have c2n := hb_ngti c2
      exact absurd h (by intro z; rcases z with z | z; exact absurd z (by assumption); exact absurd z c2n)
    · skip
      have c2n := hb_gti c2
      exact hb_iae hE hAe hX hown hz hP hS hl.1 (List.mem_of_getElem? (i := 536) (by decide +kernel) : Cond.stringRef "HoldBook" 210 "there is no such thing to tell" ∈ lw_tbl) d_Hb_checkWhat_9 d_Hb_checkWhat_12 d_Hb_checkWhat_13 d_Hb_checkWhat_15 d_Hb_checkWhat_18 (Nat.le_of_ble_eq_true rfl) (Nat.le_of_ble_eq_true rfl) (Nat.le_of_ble_eq_true rfl) (Nat.le_of_ble_eq_true rfl) (Nat.le_of_ble_eq_true rfl) (Nat.le_of_ble_eq_true rfl)
