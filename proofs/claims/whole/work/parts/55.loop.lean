theorem lb_span (k : Int32) : (if 1 < (if k < 5000 then k else 5000) then (if k < 5000 then k else 5000) else 1) = (if k < 1 then 1 else if 5000 < k then 5000 else k) := by
  by_cases h1 : k < 5000
  · simp only [if_pos h1]
    have g1 := h1
    rw [Int32.lt_iff_toInt_lt, q32_5] at g1
    by_cases h2 : 1 < k
    · have g2 := h2
      rw [Int32.lt_iff_toInt_lt, q32_1] at g2
      rw [if_pos h2, if_neg (by rw [Int32.lt_iff_toInt_lt, q32_1]; omega), if_neg (by rw [Int32.lt_iff_toInt_lt, q32_5]; omega)]
    · have g2 := h2
      rw [Int32.lt_iff_toInt_lt, q32_1] at g2
      rw [if_neg h2]
      by_cases h3 : k < 1
      · rw [if_pos h3]
      · have g3 := h3
        rw [Int32.lt_iff_toInt_lt, q32_1] at g3
        rw [if_neg h3, if_neg (by rw [Int32.lt_iff_toInt_lt, q32_5]; omega), ← Int32.toInt_inj, q32_1]
        omega
  · simp only [if_neg h1]
    have g1 := h1
    rw [Int32.lt_iff_toInt_lt, q32_5] at g1
    rw [if_pos (by decide), if_neg (by rw [Int32.lt_iff_toInt_lt, q32_1]; omega)]
    by_cases h2 : 5000 < k
    · rw [if_pos h2]
    · have g2 := h2
      rw [Int32.lt_iff_toInt_lt, q32_5] at g2
      rw [if_neg h2, ← Int32.toInt_inj, q32_5]
      omega
theorem lb_bd (k : Int32) : 1 ≤ (if k < 1 then 1 else if 5000 < k then 5000 else k).toInt ∧ (if k < 1 then 1 else if 5000 < k then 5000 else k).toInt ≤ 5000 := by
  by_cases h1 : k < 1
  · rw [if_pos h1, q32_1]; omega
  · rw [if_neg h1]
    rw [Int32.lt_iff_toInt_lt, q32_1] at h1
    by_cases h2 : 5000 < k
    · rw [if_pos h2, q32_5]; omega
    · rw [if_neg h2]
      rw [Int32.lt_iff_toInt_lt, q32_5] at h2
      omega
theorem lb_I0 {ho pa : Int32} {bal mi : Nat → Int64} {f : Nat → hbY} (h1 : 1 ≤ ho.toInt ∧ ho.toInt ≤ 5000) (h2 : 1 ≤ pa.toInt ∧ pa.toInt ≤ 5000) : hb_I 0 ho pa 0 [] [] 0 0 bal mi f :=
  ⟨⟨by omega, h1, h2, by rw [q32_z]; omega⟩, ⟨rfl, by omega, by omega, List.Pairwise.nil, List.Perm.refl _⟩, fun r hr => (by cases hr), fun k s hk => (by simp at hk)⟩
theorem lb_S.up {cI cJ cO : ClassId} {e0 x y o n : Nat} {M : hb_M} (h : lb_S cI cJ cO e0 x y o n M) (hn : n < 520) : lb_S cI cJ cO e0 x y o (n + 1) M := by
  obtain ⟨Mx, My, g, ho, pa, tm, cd, A, P, na, np, bal, mi, f, eM, hoM, hdj, hX, hV, hI⟩ := h
  exact ⟨Mx, My, g, ho, pa, tm, cd, A, P, na, np, bal, mi, f, eM, hoM, hdj, hX, hV, hI.same hn⟩
theorem lb_up1 {M : hb_M} {q : Nat} {e : va_E} (h : M q = none) : hb_up M q e = hb_jn (hb_one q e) M := by
  funext a
  by_cases ha : a = q
  · rw [ha, hb_up_self, hb_jn_l hb_one_at]
  · rw [hb_up_ne ha, hb_jn_r (hb_one_ne ha)]
theorem lb_up3 {Mx My : hb_M} {o : Nat} {e : va_E} (h : hb_jn My Mx o = none) (hdj : hb_dj My Mx) : hb_up (hb_jn My Mx) o e = hb_jn (hb_jn Mx (hb_one o e)) My := by
  obtain ⟨hy, hx⟩ := hb_jn_none.mp h
  funext q
  by_cases hq : q = o
  · rw [hq, hb_up_self, hb_jn_l (by rw [hb_jn_r hx]; exact hb_one_at)]
  · rw [hb_up_ne hq]
    cases hm : My q with
    | some z =>
      have hxq : Mx q = none := by
        rcases hdj q with a | a
        · rw [hm] at a; cases a
        · exact a
      rw [hb_jn_l hm, hb_jn_r (hb_jn_none.mpr ⟨hxq, hb_one_ne hq⟩), hm]
    | none =>
      rw [hb_jn_r hm]
      cases hz : Mx q with
      | some z => rw [hb_jn_l (hb_jn_l hz)]
      | none => rw [hb_jn_r (hb_jn_none.mpr ⟨hz, hb_one_ne hq⟩), hm]
theorem lb_ge {i L : Nat} (hi : i ≤ 4000) (hL : L ≤ 3074) (h : ¬ nI L - 6 < nI i) : i + 6 ≤ L := by
  have e6 : (6 : Int32).toInt = 6 := by decide
  rw [Int32.lt_iff_toInt_lt, q32_sub (by rw [nI_toInt (by omega), e6]; omega) (by rw [nI_toInt (by omega), e6]; omega), nI_toInt (by omega), nI_toInt (by omega), e6] at h
  omega
set_option maxHeartbeats 4000000 in
set_option maxRecDepth 100000 in
theorem lb_head {p : Program} {l : Launch} {e : Env} {s : State} {m : MethodId} {below : List Frame} {meth : Method} {c : Code} {H : Heap} {locs : List Loc} {ls : Array Slot} {D : va_G} {cI cJ cO : ClassId} {e0 mi0 b L i x y o n : Nat} {xs : Nat → Int32} {M : hb_M} (C : lb_C p l s m c D cI cJ cO e0 mi0 b L xs) (hr : meth.sig.returnType = ret) (hlocks : meth.locks = false) (hn : n ≤ 512) (hi0 : i ≤ 4000) (hT : lb_S cI cJ cO e0 x y o n M) (hP : hb_P D hb_cl M H) (hD : hb_D (fun q => s.heap.size ≤ q) M) (hS : va_S (fun q => s.heap.size ≤ q) s.heap H locs) (hl : lv_has ls 8 (lb_L b x y o i))
    (kk : i + 6 ≤ L → ∀ (ls : Array Slot) (M : hb_M) (H : Heap) (locs : List Loc), lv_has ls 8 (lb_L b x y o (i + 6)) → lb_S cI cJ cO e0 x y o (n + 1) M → hb_P D hb_cl M H → hb_D (fun q => s.heap.size ≤ q) M → va_S (fun q => s.heap.size ≤ q) s.heap H locs → W p l e room_1 s m #[Value.ref b] below meth c H locs (20 + 2 * n + 2) (1000 + 120 * n + 120) (lw_Z below #[Value.ref b] s) (F0 m 43 ls [])) : W p l e room_1 s m #[Value.ref b] below meth c H locs (20 + 2 * n) (1000 + 120 * n) (lw_Z below #[Value.ref b] s) (F0 m 43 ls []) := by
  obtain ⟨hX2, hE, hXs, hbl, hL⟩ := id C
  obtain ⟨hx, hb, hml, hown, hG⟩ := id hX2
  have hbA : ¬ (fun q => s.heap.size ≤ q) b := fun h => absurd hbl (Nat.not_lt.mpr h)
  have hl : lv_has ls 8 [(4, .int (nI i)), (3, .ref o), (2, .ref y), (1, .ref x), (0, .ref b)] := hl
  obtain ⟨a0, e0'⟩ : ∃ a, xs (nI i).toNatClampNeg = a := ⟨_, rfl⟩
  refine lv_iload hx hb d_Law_law_43 (lv_at hl 0 rfl) ?_
  refine lv_aload_n hx hb d_Law_law_45 rfl (lv_at hl 4 rfl) ?_
  refine va_slen hx hb hXs hbl hbA hS d_Law_law_46 ?_
  refine W.eq (g2 := F0 m 47 ls [.int (nI L), .int (nI i)]) rfl ?_
  refine lv_bipush (v := 6) hx hb d_Law_law_47 (by decide) ?_
  refine lv_isub hx hb d_Law_law_49 ?_
  refine lv_icmp_gt (tgt := 1188) hx hb d_Law_law_50 (by decide) (fun c1 => ?_) (fun c1 => ?_)
  · skip
    refine lv_iconst (v := 1) hx hb d_Law_law_1188 (by decide) ?_
    refine va_forget (fun q hq => hS.2.2 q hq) ?_
    refine W.widen (k := 601024) (n := 7293000) (by omega) (by omega) ?_
    exact lw_ret hx hb hr hlocks d_Law_law_1189
  · skip
    have hi : i + 6 ≤ L := lb_ge hi0 hL c1
    refine lv_aload_n hx hb d_Law_law_53 rfl (lv_at hl 4 rfl) ?_
    refine lv_iload hx hb d_Law_law_54 (lv_at hl 0 rfl) ?_
    refine lb_sld hx hb hXs hbl hbA hS (vp_in_nI (by omega) (by omega)) e0' d_Law_law_56 ?_
    have fin : ∀ (ls : Array Slot) (M : hb_M) (H : Heap) (locs : List Loc), lv_has ls 8 (lb_L b x y o i) → lb_S cI cJ cO e0 x y o (n + 1) M → hb_P D hb_cl M H → hb_D (fun q => s.heap.size ≤ q) M → va_S (fun q => s.heap.size ≤ q) s.heap H locs → W p l e room_1 s m #[Value.ref b] below meth c H locs (20 + 2 * n + 2) (1000 + 120 * n + 120) (lw_Z below #[Value.ref b] s) (F0 m 1182 ls []) := by
      intro ls M H locs hl hT hP hD hS
      refine lv_iinc (v := nI (i + 6)) (lv' := lb_L b x y o (i + 6)) hx hb d_Law_law_1182 hl (k := 0) rfl (by rw [← nI_add]; rfl) (by decide) rfl (fun ls hl => ?_)
      refine lv_goto (tgt := 43) hx hb d_Law_law_1185 (by decide) ?_
      exact kk hi ls M H locs hl hT hP hD hS
    have hn2 : n < 520 := by omega
    have hcs : 20 + 2 * n + 2 ≤ 601024 ∧ 1000 + 120 * n + 120 ≤ 7293000 := ⟨by omega, by omega⟩
    refine lv_bipush (v := 15) hx hb d_Law_law_57 (by decide) ?_
    refine lv_iand hx hb d_Law_law_59 ?_
    by_cases c2 : a0 &&& 15 = 0
    · skip
      refine lv_tableIn (off := 72) (tgt := 132) hx hb d_Law_law_60 (by rw [c2]; decide) (by rw [c2]; decide) (by rw [c2]; decide) (by decide) ?_
      exact k_account C hi hn2 hcs hT hP hD hS hl fin
    by_cases c3 : a0 &&& 15 = 1
    · skip
      refine lv_tableIn (off := 204) (tgt := 264) hx hb d_Law_law_60 (by rw [c3]; decide) (by rw [c3]; decide) (by rw [c3]; decide) (by decide) ?_
      exact k_ask C hi hn2 hcs hT hP hD hS hl fin
    by_cases c4 : a0 &&& 15 = 2
    · skip
      refine lv_tableIn (off := 343) (tgt := 403) hx hb d_Law_law_60 (by rw [c4]; decide) (by rw [c4]; decide) (by rw [c4]; decide) (by decide) ?_
      exact k_clear C hi hn2 hcs hT hP hD hS hl fin
    by_cases c5 : a0 &&& 15 = 3
    · skip
      refine lv_tableIn (off := 470) (tgt := 530) hx hb d_Law_law_60 (by rw [c5]; decide) (by rw [c5]; decide) (by rw [c5]; decide) (by decide) ?_
      exact k_undo C hi hn2 hcs hT hP hD hS hl fin
    by_cases c6 : a0 &&& 15 = 4
    · skip
      refine lv_tableIn (off := 597) (tgt := 657) hx hb d_Law_law_60 (by rw [c6]; decide) (by rw [c6]; decide) (by rw [c6]; decide) (by decide) ?_
      exact k_ticks C hi hn2 hcs hT hP hD hS hl fin
    by_cases c7 : a0 &&& 15 = 5
    · skip
      refine lv_tableIn (off := 653) (tgt := 713) hx hb d_Law_law_60 (by rw [c7]; decide) (by rw [c7]; decide) (by rw [c7]; decide) (by decide) ?_
      exact k_charge C hi hn2 hcs hT hP hD hS hl fin
    by_cases c8 : a0 &&& 15 = 6
    · skip
      refine lv_tableIn (off := 753) (tgt := 813) hx hb d_Law_law_60 (by rw [c8]; decide) (by rw [c8]; decide) (by rw [c8]; decide) (by decide) ?_
      exact k_represent C hi hn2 hcs hT hP hD hS hl fin
    by_cases c9 : a0 &&& 15 = 7
    · skip
      refine lv_tableIn (off := 809) (tgt := 869) hx hb d_Law_law_60 (by rw [c9]; decide) (by rw [c9]; decide) (by rw [c9]; decide) (by decide) ?_
      exact k_decide C hi hn2 hcs hT hP hD hS hl fin
    by_cases c10 : a0 &&& 15 = 8
    · skip
      refine lv_tableIn (off := 893) (tgt := 953) hx hb d_Law_law_60 (by rw [c10]; decide) (by rw [c10]; decide) (by rw [c10]; decide) (by decide) ?_
      exact k_forget C hi hn2 hcs hT hP hD hS hl fin
    by_cases c11 : a0 &&& 15 = 9
    · skip
      refine lv_tableIn (off := 906) (tgt := 966) hx hb d_Law_law_60 (by rw [c11]; decide) (by rw [c11]; decide) (by rw [c11]; decide) (by decide) ?_
      exact k_funds C hi hn2 hcs hT hP hD hS hl fin
    by_cases c12 : a0 &&& 15 = 10
    · skip
      refine lv_tableIn (off := 973) (tgt := 1033) hx hb d_Law_law_60 (by rw [c12]; decide) (by rw [c12]; decide) (by rw [c12]; decide) (by decide) ?_
      exact k_payment C hi hn2 hcs hT hP hD hS hl fin
    by_cases c13 : a0 &&& 15 = 11
    · skip
      refine lv_tableIn (off := 1040) (tgt := 1100) hx hb d_Law_law_60 (by rw [c13]; decide) (by rw [c13]; decide) (by rw [c13]; decide) (by decide) ?_
      exact k_key C hi hn2 hcs hT hP hD hS hl fin
    by_cases c14 : a0 &&& 15 = 12
    · skip
      refine lv_tableIn (off := 1096) (tgt := 1156) hx hb d_Law_law_60 (by rw [c14]; decide) (by rw [c14]; decide) (by rw [c14]; decide) (by decide) ?_
      exact k_payments C hi hn2 hcs hT hP hD hS hl fin
    by_cases c15 : a0 &&& 15 = 13
    · skip
      refine lv_tableIn (off := 1109) (tgt := 1169) hx hb d_Law_law_60 (by rw [c15]; decide) (by rw [c15]; decide) (by rw [c15]; decide) (by decide) ?_
      exact k_audit C hi hn2 hcs hT hP hD hS hl fin
    refine lv_tableOut (tgt := 1182) hx hb d_Law_law_60 (by have n0 := lv_neT (a := 0) c2 (by decide); have n1 := lv_neT (a := 1) c3 (by decide); have n2 := lv_neT (a := 2) c4 (by decide); have n3 := lv_neT (a := 3) c5 (by decide); have n4 := lv_neT (a := 4) c6 (by decide); have n5 := lv_neT (a := 5) c7 (by decide); have n6 := lv_neT (a := 6) c8 (by decide); have n7 := lv_neT (a := 7) c9 (by decide); have n8 := lv_neT (a := 8) c10 (by decide); have n9 := lv_neT (a := 9) c11 (by decide); have n10 := lv_neT (a := 10) c12 (by decide); have n11 := lv_neT (a := 11) c13 (by decide); have n12 := lv_neT (a := 12) c14 (by decide); have n13 := lv_neT (a := 13) c15 (by decide); omega) (by decide) ?_
    refine W.widen (k := 20 + 2 * n + 2) (n := 1000 + 120 * n + 120) (by omega) (by omega) ?_
    exact fin ls M H locs hl (hT.up hn2) hP hD hS
theorem lb_loop {p : Program} {l : Launch} {e : Env} {s : State} {m : MethodId} {below : List Frame} {meth : Method} {c : Code} {D : va_G} {cI cJ cO : ClassId} {e0 mi0 b L x y o : Nat} {xs : Nat → Int32} (C : lb_C p l s m c D cI cJ cO e0 mi0 b L xs) (hr : meth.sig.returnType = ret) (hlocks : meth.locks = false) : ∀ (d n : Nat), L ≤ 2 + 6 * n + d → n ≤ 512 → ∀ (ls : Array Slot) (M : hb_M) (H : Heap) (locs : List Loc), lv_has ls 8 (lb_L b x y o (2 + 6 * n)) → lb_S cI cJ cO e0 x y o n M → hb_P D hb_cl M H → hb_D (fun q => s.heap.size ≤ q) M → va_S (fun q => s.heap.size ≤ q) s.heap H locs → W p l e room_1 s m #[Value.ref b] below meth c H locs (20 + 2 * n) (1000 + 120 * n) (lw_Z below #[Value.ref b] s) (F0 m 43 ls []) := by
  have hL := C.2.2.2.2
  intro d
  induction d with
  | zero =>
    intro n h1 h2 ls M H locs hl hT hP hD hS
    exact lb_head C hr hlocks h2 (by omega) hT hP hD hS hl (fun h => absurd h (by omega))
  | succ d ih =>
    intro n h1 h2 ls M H locs hl hT hP hD hS
    exact lb_head C hr hlocks h2 (by omega) hT hP hD hS hl (fun h ls M H locs hl hT hP hD hS => ih (n + 1) (by omega) (by omega) ls M H locs hl hT hP hD hS)
