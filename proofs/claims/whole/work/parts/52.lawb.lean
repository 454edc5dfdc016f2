/-! THE LAW'S BODY: what its rows stand on -/
def lb_C (p : Program) (l : Launch) (s : State) (m : MethodId) (c : Code) (D : va_G) (cI cJ cO : ClassId) (e0 mi0 b L : Nat) (xs : Nat → Int32) : Prop :=
  hb_Cy p s s m c "HoldBookLaw" code 8 ∧ hb_E l s D cI cJ cO e0 mi0 ∧ va_X b L xs s s.heap ∧ b < s.heap.size ∧ L ≤ 3074
/-- between two calls: the class's cells, the out array, the reference's cells, and that they go together -/
def lb_S (cI cJ cO : ClassId) (e0 x y o n : Nat) (M : hb_M) : Prop := ∃ (Mx My : hb_M) (g : Nat → Int64) (ho pa tm cd : Int32) (A : List hbA) (P : List hbY) (na np : Nat) (bal mi : Nat → Int64) (f : Nat → hbY), M = hb_jn (hb_jn Mx (hb_one o (jE cJ g))) My ∧ Mx o = none ∧ hb_dj (hb_jn Mx (hb_one o (jE cJ g))) My ∧ hb_X cO e0 x ho pa tm A P Mx ∧ hb_V cI cJ y cd ho pa tm na np bal mi f My ∧ hb_I n ho pa tm A P na np bal mi f
abbrev lb_L (b x y o i : Nat) : List (Nat × Value) := [(4, .int (nI i)), (3, .ref o), (2, .ref y), (1, .ref x), (0, .ref b)]
theorem lb_v1 {i L : Nat} (h : i + 6 ≤ L) (hL : L ≤ 3074) : vp_in (nI i + 1) L := by
  rw [show nI i + 1 = nI (i + 1) from nI_add i 1]
  exact vp_in_nI (by omega) (by omega)
theorem lb_v2 {i L : Nat} (h : i + 6 ≤ L) (hL : L ≤ 3074) : vp_in (nI i + 2) L := by
  rw [show nI i + 2 = nI (i + 2) from nI_add i 2]
  exact vp_in_nI (by omega) (by omega)
theorem lb_v3 {i L : Nat} (h : i + 6 ≤ L) (hL : L ≤ 3074) : vp_in (nI i + 3) L := by
  rw [show nI i + 3 = nI (i + 3) from nI_add i 3]
  exact vp_in_nI (by omega) (by omega)
theorem lb_v4 {i L : Nat} (h : i + 6 ≤ L) (hL : L ≤ 3074) : vp_in (nI i + 4) L := by
  rw [show nI i + 4 = nI (i + 4) from nI_add i 4]
  exact vp_in_nI (by omega) (by omega)
theorem lb_v5 {i L : Nat} (h : i + 6 ≤ L) (hL : L ≤ 3074) : vp_in (nI i + 5) L := by
  rw [show nI i + 5 = nI (i + 5) from nI_add i 5]
  exact vp_in_nI (by omega) (by omega)
section LWQ
variable {p : Program} {l : Launch} {e : Env} {R : Room} {s : State} {m : MethodId} {args : Array Value} {below : List Frame} {meth : Method} {c : Code} {H H0 : Heap} {locs : List Loc} {cells slots : Nat} {Q : State → Prop} {cc : ByteArray} {pc : Nat} {ls : Array Slot} {rest : List Value} {A : Nat → Prop}
theorem lb_sld (hx : p.tables.exec = Jvm.exec) (hb : c.code = cc) {b L : Nat} {xs : Nat → Int32} (hX : va_X b L xs s H0) (hbl : b < H0.size) (hbA : ¬ A b) (hS : va_S A H0 H locs) {i v : Int32} (hin : vp_in i L) (hv : xs i.toNatClampNeg = v) (hdg : decode cc pc = .ok (.iaload, 1))
    (kk : W p l e R s m args below meth c H locs cells slots Q (F0 m (pc + 1) ls (.int v :: rest))) : W p l e R s m args below meth c H locs cells slots Q (F0 m pc ls (.int i :: .ref b :: rest)) := by
  subst hv
  exact va_sld hx hb hX hbl hbA hS hin hdg kk
end LWQ
theorem hb_X.x {cO : ClassId} {e0 x : Nat} {ho pa tm : Int32} {A : List hbA} {P : List hbY} {Mx : hb_M} (h : hb_X cO e0 x ho pa tm A P Mx) : ∃ fs, Mx x = some (.inr (2, fs)) := by
  obtain ⟨la, lp, nb, ra, rp, Ac, Py, hc, -, -⟩ := h
  exact ⟨_, hc.1⟩
theorem hb_V.y {cI cJ : ClassId} {y : Nat} {cd ho pa tm : Int32} {na np : Nat} {bal mi : Nat → Int64} {f : Nat → hbY} {My : hb_M} (h : hb_V cI cJ y cd ho pa tm na np bal mi f My) : ∃ fs, My y = some (.inr (4, fs)) := by
  obtain ⟨b0, b1, b2, b3, b4, b5, b6, b7, b8, b9, b10, b11, ky, ac, st, he, cl, un, dn, ds, dd, dl, hm, -⟩ := h
  exact ⟨_, hm.1⟩
theorem s_thrown {l : Launch} {s0 : State} {D : va_G} {cI cJ cO : ClassId} {e0 mi0 : Nat} (hE : hb_E l s0 D cI cJ cO e0 mi0) {n y : Nat} {ho pa tm cd : Int32} {A : List hbA} {P : List hbY} {na np : Nat} {bal mi : Nat → Int64} {f : Nat → hbY} {My : hb_M} (hV : hb_V cI cJ y cd ho pa tm na np bal mi f My) (hI : hb_I n ho pa tm A P na np bal mi f) : hb_Met l D hb_cl s0 y_Md_thrown b_Md_thrown 1 (some .int) { frames := 0, cells := 0, slots := 0, locals := 0 } [.ref y] My (fun v M1 => v = some (.int cd) ∧ M1 = My) := by
  obtain ⟨b0, b1, b2, b3, b4, b5, b6, b7, b8, b9, b10, b11, ky, ac, st, he, cl, un, dn, ds, dd, dl, hm, -⟩ := hV
  exact c_Md_thrown hE My y b0 b1 b2 b3 b4 b5 b6 b7 b8 b9 b10 b11 cd ho pa tm na np bal mi ky ac st he cl un dn ds dd dl hm hI.2.1.2.1 hI.2.1.2.2.1
theorem lb_djX {Mx My F : hb_M} (h1 : hb_dj Mx F) (h2 : hb_dj (hb_jn Mx F) My) : hb_dj Mx (hb_jn F My) := (hb_dj.jn h1.symm h2.l.symm).symm
theorem lb_djY {Mx My F : hb_M} (h : hb_dj Mx (hb_jn F My)) (h2 : hb_dj F My) : hb_dj (hb_jn Mx F) My := hb_dj.jn h.symm.r.symm h2
set_option maxHeartbeats 4000000 in
set_option maxRecDepth 100000 in
/-- cell -/
theorem c_Law_cell {l : Launch} {s0 : State} {D : va_G} {cI cJ cO : ClassId} {e0 mi : Nat} (hE : hb_E l s0 D cI cJ cO e0 mi) (M : hb_M) (b L j : Nat) (xs : Nat → Int32) (hXs : va_X b L xs s0 s0.heap) (hbl : b < s0.heap.size) (hL : L ≤ 3074) (hj : j < 3074) : hb_Met l D hb_cl s0 y_Law_cell b_Law_cell 2 (some .int) { frames := 0, cells := 0, slots := 0, locals := 0 } [.ref b, .int (nI j)] M (fun v M1 => v = some (.int (if j < L then xs j else 0)) ∧ M1 = M) := by
  refine hb_Met.of (by decide) (Nat.le_of_ble_eq_true rfl) ?_
  intro p e s m below meth c A hAe hX hz hP hD hA hS ls hl
  obtain ⟨hx, hb, hr, hml, hown, hlocks, hnm, hG, hnh⟩ := id hX
  have hown : s.vm.findClass "HoldBookLaw" = some m.cls := hown
  have hts := hE.ts hG ([.ref b, .int (nI j)] : List Value).toArray
  have hK := hE.kn hG
  have hl : lv_has ls 2 [(0, .ref b), (1, .int (nI j))] := hl
  have hXs2 : va_X b L xs s s.heap := va_X.kept (va_X.moved hG.1.alike hXs) (hG.2.2 b hbl)
  have hbl2 : b < s.heap.size := Nat.lt_of_lt_of_le hbl hG.2.1
  have hbA : ¬ A b := fun h9 => absurd (hz b h9) (by omega)
  refine lv_iload_n hx hb d_Law_cell_0 rfl (lv_at hl 1 rfl) ?_
  refine lv_aload_n hx hb d_Law_cell_1 rfl (lv_at hl 0 rfl) ?_
  refine va_slen hx hb hXs2 hbl2 hbA hS d_Law_cell_2 ?_
  refine W.eq (g2 := F0 m 3 ls [.int (nI L), .int (nI j)]) rfl ?_
  refine lv_icmp_ge (tgt := 12) hx hb d_Law_cell_3 (by decide) (fun c1 => ?_) (fun c1 => ?_)
  · skip
    have c1n := hb_ngti c1
    refine lv_iconst (v := 0) hx hb d_Law_cell_12 (by decide) ?_
    exact hb_iret hAe hx hb hr hlocks hP hD hS (Nat.le_of_ble_eq_true rfl) (Nat.le_of_ble_eq_true rfl) (⟨by rw [if_neg (fun h9 : j < L => by have h8 := c1; rw [Int32.le_iff_toInt_le, nI_toInt (by omega), nI_toInt (by omega)] at h8; omega)], rfl⟩) d_Law_cell_13
  · skip
    have c1n := hb_gti c1
    refine lv_aload_n hx hb d_Law_cell_6 rfl (lv_at hl 0 rfl) ?_
    refine lv_iload_n hx hb d_Law_cell_7 rfl (lv_at hl 1 rfl) ?_
    have hjL : j < L := by
      have h9 := hb_gti c1
      rw [Int32.lt_iff_toInt_lt, nI_toInt (by omega), nI_toInt (by omega)] at h9
      omega
    refine lb_sld (v := xs j) hx hb hXs2 hbl2 hbA hS (vp_in_nI hjL (by omega)) (by rw [nI_clamp (by omega)]) d_Law_cell_8 ?_
    refine lv_goto (tgt := 13) hx hb d_Law_cell_9 (by decide) ?_
    exact hb_iret hAe hx hb hr hlocks hP hD hS (Nat.le_of_ble_eq_true rfl) (Nat.le_of_ble_eq_true rfl) (⟨by rw [if_pos hjL], rfl⟩) d_Law_cell_13
