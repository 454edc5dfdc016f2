/-! THE TWO SIDES: undo, charge, represent, decide -/
theorem hb_setid {α : Type} {L : List α} {k : Nat} {s : α} (h : L[k]? = some s) : L.set k s = L := by
  apply List.ext_getElem?
  intro i
  rw [List.getElem?_set]
  by_cases hk : k = i
  · rw [if_pos hk, if_pos (List.getElem?_eq_some_iff.mp h).1, ← hk, h]
  · rw [if_neg hk]
theorem s_undo {l : Launch} {s0 : State} {D : va_G} {cI cJ cO : ClassId} {e0 mi0 : Nat} (hE : hb_E l s0 D cI cJ cO e0 mi0) {n x y o : Nat} {ho pa tm cd : Int32} {A : List hbA} {P : List hbY} {na np : Nat} {bal mi : Nat → Int64} {f : Nat → hbY} {Mx My : hb_M} (g : Nat → Int64) (hX : hb_X cO e0 x ho pa tm A P Mx) (hV : hb_V cI cJ y cd ho pa tm na np bal mi f My) (hI : hb_I n ho pa tm A P na np bal mi f) (hn : n < 520) (hoM : Mx o = none) (p0 : Int32) (p1 : Int64) (p2 : Int32) : ∃ (k : Int32) (z : Int64) (w : Int64) (tm1 : Int32) (A1 : List hbA) (P1 : List hbY) (na1 np1 : Nat) (bal1 mi1 : Nat → Int64) (f1 : Nat → hbY), hb_I (n + 1) ho pa tm1 A1 P1 na1 np1 bal1 mi1 f1 ∧ (k = 0 → z = w) ∧
    hb_MetW l D hb_cl s0 y_Law_undo b_Law_undo 7 (some .int) hh_undo hb_RH [.ref x, .int p0, .long p1, .int p2, .ref o] (hb_jn Mx (hb_one o (jE cJ g))) (hb_HP cJ o k z (hb_X cO e0 x ho pa tm1 A1 P1)) ∧
    hb_Met l D hb_cl s0 y_Md_undo b_Md_undo 6 (some .long) { frames := 3, cells := 0, slots := 0, locals := 100 } [.ref y, .int p0, .long p1, .int p2] My (fun v M1 => v = some (.long w) ∧ hb_V cI cJ y k ho pa tm1 na1 np1 bal1 mi1 f1 M1) := by
  have hXX := hX
  obtain ⟨la, lp, nb, ra, rp, Ac, Py, hc, rfl, rfl⟩ := hX
  obtain ⟨b0, b1, b2, b3, b4, b5, b6, b7, b8, b9, b10, b11, ky, ac, st, he, cl, un, dn, ds, dd, dl, hm, rfl⟩ := hV
  obtain ⟨rfl, rfl, hk, htb⟩ := hI.ok
  have hna := hk.1
  have hnp := hk.2.1
  by_cases hb : (p0 < 0 ∨ 1000000 < p0) ∨ p1 < 0
  · exact ⟨1, 0, 0, tm, _, _, _, _, bal, mi, _, hI.same hn, fun z => absurd z (by decide), h_undo_bad hE Mx x o _ g hc.1 hoM _ _ _ _ _ (hb_rmoI (by decide) (by decide) (by decide) (by decide)) (c_Hb_undo_bad hE Mx x la lp nb ra rp ho pa tm Ac Py hc hk p0 p1 p2 hb) hXX, hb_Met.mono (c_Md_undo_bad hE My y b0 b1 b2 b3 b4 b5 b6 b7 b8 b9 b10 b11 cd ho pa tm Ac.length Py.length bal mi ky ac st he cl un dn ds dd dl hm hna hnp p0 p1 p2 hb) (fun v M1 q => ⟨q.1, _, _, _, _, _, _, _, _, _, _, _, _, _, _, _, _, _, _, _, _, _, _, q.2, rfl⟩)⟩
  · have hl0 : ¬ p1 < 0 := fun z => hb (Or.inr z)
    have hkc : ¬ p0 < 0 ∧ ¬ 1000000 < p0 := ⟨fun z => hb (Or.inl (Or.inl z)), fun z => hb (Or.inl (Or.inr z))⟩
    have hkm : ¬ (p0 < 0 ∨ 1000000 < p0) := fun z => z.elim hkc.1 hkc.2
    rcases hI.look p0 with ⟨i, r, j, hiP, hkey, hj, er, hpl⟩ | ⟨hno, hpl⟩
    · skip
      obtain ⟨q, hi⟩ := hb_snd hiP
      subst hkey
      subst er
      obtain ⟨s9, fa⟩ := hc.acE hk hi
      have hir := hI.2.2.1 _ (List.mem_of_getElem? hiP)
      by_cases hs : st j = 3 ∨ 0 < cl j
      · exact ⟨0, _, _, tm, _, _, _, _, bal, mi, _, hI.same hn, fun _ => rfl, h_undo_ok hE Mx x o _ g hc.1 hoM _ _ _ _ _ (hb_rmoI (by decide) (by decide) (by decide) (by decide)) _ (hb_Met.mono (c_Hb_undo_st hE Mx x la lp nb ra rp ho pa tm Ac Py hc hk i q _ hi _ _ s9 rfl fa hkc p1 hl0 p2 hs) (fun v M1 q => ⟨q.1, by rw [q.2]; exact hXX⟩)), hb_Met.mono (c_Md_undo_st hE My y b0 b1 b2 b3 b4 b5 b6 b7 b8 b9 b10 b11 cd ho pa tm Ac.length Py.length bal mi ky ac st he cl un dn ds dd dl hm hna hnp _ j hj hpl hkm p1 hl0 p2 hs) (fun v M1 q => ⟨q.1, _, _, _, _, _, _, _, _, _, _, _, _, _, _, _, _, _, _, _, _, _, _, q.2, rfl⟩)⟩
      · by_cases h1 : st j = 1
        · skip
          obtain ⟨k9, hk9, ea⟩ := hir.ac (Or.inl (by rw [show yS (hb_row ky ac st he cl un dn ds dd dl j) = 1 from h1]; decide))
          have ea : ac j = nI k9 := ea
          obtain ⟨a, s, ha⟩ := hb_get2 hk9
          have fa9 := hc.ac ha
          have hacc : hb_acc nb Ac (ac j) = a := by rw [ea]; exact hb_acc_nI (by omega) ha
          have hsA : (Ac.map Prod.snd)[k9]? = some s := by rw [List.getElem?_map, ha]; rfl
          obtain ⟨-, hbal, hmi⟩ := hI.2.2.2 k9 s hsA
          have hfr := hI.free hsA
          have hB9 : -2000000000000 ≤ (s.2.2.1).toInt ∧ (s.2.2.1).toInt ≤ 521000000000000 := hfr.2.2
          have hbal : bal k9 = s.2.2.1 := hbal
          obtain ⟨h_ac, h_st, h_1, h_n1, h_3, h_d, h_d3, h_op, h_am, h_dd⟩ := id hir
          have h_am : 0 ≤ (he j).toInt ∧ 0 ≤ (cl j).toInt ∧ (he j).toInt + (cl j).toInt ≤ 1000000000000 := h_am
          have hd0 : ds j = 0 := (h_1 h1).2.2
          have hN0 : dn j = -1 := (h_1 h1).2.1
          have hcl : ¬ 0 < (hb_row ky ac st he cl un dn ds dd dl j).2.2.2.2.1 := fun z => hs (Or.inr z)
          have hcl2 : ¬ 0 < cl j := hcl
          by_cases h2 : 0 < p1 ∧ p1 < he j
          · have hp1 : 0 < p1.toInt ∧ p1.toInt < (he j).toInt := by have h3 := h2; simp only [Int64.lt_iff_toInt_lt, q64_z] at h3; exact h3
            have hri : hb_ri Ac.length tm (ky j, ac j, st j, p1, cl j, un j, dn j, ds j, dd j, dl j) := ⟨h_ac, h_st, h_1, fun z => absurd h1 z, h_3, h_d, h_d3, h_op, ⟨by show 0 ≤ p1.toInt; omega, h_am.2.1, by show p1.toInt + (cl j).toInt ≤ _; omega⟩, h_dd⟩
            have hI1 := hI.upd hn (r' := (ky j, ac j, st j, p1, cl j, un j, dn j, ds j, dd j, dl j)) (s' := (s.1, s.2.1, s.2.2.1, s.2.2.2.1 + (p1 - he j), s.2.2.2.2)) hiP hj rfl ea hsA rfl rfl hri rfl rfl rfl (hb_self _ _) (by show (s.2.2.1).toInt ≤ (s.2.2.1).toInt + _; omega) (by show 0 ≤ ((s.2.2.1).toInt - (s.2.2.1).toInt) + ((he j).toInt - p1.toInt) + ((lk (hb_row ky ac st he cl un dn ds dd dl j)).toInt - (lk (hb_row ky ac st he cl un dn ds dd dl j)).toInt); omega)
            rw [hb_updsame (show bal k9 = aB (s.1, s.2.1, s.2.2.1, s.2.2.2.1 + (p1 - he j), s.2.2.2.2) from hbal)] at hI1
            exact ⟨0, _, _, tm, ((Ac.map Prod.snd).set k9 (s.1, s.2.1, s.2.2.1, s.2.2.2.1 + (p1 - he j), s.2.2.2.2)), ((Py.map Prod.snd).set i (ky j, ac j, st j, p1, cl j, un j, dn j, ds j, dd j, dl j)), _, _, bal, mi, _, hI1, fun _ => rfl, h_undo_ok hE Mx x o _ g hc.1 hoM _ _ _ _ _ (hb_rmoI (by decide) (by decide) (by decide) (by decide)) _ (hb_Met.mono (c_Hb_undo_keep hE Mx x la lp nb ra rp ho pa tm Ac Py hc hk i q _ hi a (nI k9) s hacc fa9 hkc p1 hl0 p2 hs h1 h2) (fun v M1 q9 => ⟨q9.1, la, lp, nb, ra, rp, _, _, hc.upd (s' := (s.1, s.2.1, s.2.2.1, s.2.2.2.1 + (p1 - he j), s.2.2.2.2)) (r' := (ky j, ac j, st j, p1, cl j, un j, dn j, ds j, dd j, dl j)) hk hi ea ha q9.2.1 q9.2.2.1 q9.2.2.2 rfl rfl, by rw [List.map_set], by rw [List.map_set]⟩)), hb_Met.mono (c_Md_undo_keep hE My y b0 b1 b2 b3 b4 b5 b6 b7 b8 b9 b10 b11 cd ho pa tm Ac.length Py.length bal mi ky ac st he cl un dn ds dd dl hm hna hnp _ j hj hpl hkm p1 hl0 p2 hs h1 h2) (fun v M1 q9 => ⟨q9.1, _, _, _, _, _, _, _, _, _, _, _, _, _, _, _, _, _, _, _, _, _, _, q9.2, by funext q9; by_cases hq : q9 = j <;> simp [hb_row, hb_uY, upd, vp_updL, hq]⟩)⟩
          · skip
            have hri : hb_ri Ac.length tm (ky j, ac j, 2, 0, cl j, 0, dn j, ds j, dd j, dl j) := ⟨Or.inr ⟨k9, hk9, ea⟩, Or.inr (Or.inl rfl), fun z => absurd z (by decide : (2 : Int32) ≠ 1), fun _ => rfl, fun z => absurd z (by decide : (2 : Int32) ≠ 3), h_d, fun z => absurd hd0 z, h_op, ⟨(by decide : 0 ≤ (0 : Int64).toInt), h_am.2.1, by show (0 : Int64).toInt + (cl j).toInt ≤ _; rw [q64_z]; omega⟩, h_dd⟩
            have hI1 := hI.upd hn (r' := (ky j, ac j, 2, 0, cl j, 0, dn j, ds j, dd j, dl j)) (s' := (s.1, s.2.1, s.2.2.1, s.2.2.2.1 + (0 - he j), s.2.2.2.2)) hiP hj rfl ea hsA rfl rfl hri rfl rfl rfl (hb_self _ _) (by show (s.2.2.1).toInt ≤ (s.2.2.1).toInt + _; omega) (by show 0 ≤ ((s.2.2.1).toInt - (s.2.2.1).toInt) + ((he j).toInt - (0 : Int64).toInt) + ((lk (hb_row ky ac st he cl un dn ds dd dl j)).toInt - (lk (hb_row ky ac st he cl un dn ds dd dl j)).toInt); rw [q64_z]; omega)
            rw [hb_updsame (show bal k9 = aB (s.1, s.2.1, s.2.2.1, s.2.2.2.1 + (0 - he j), s.2.2.2.2) from hbal)] at hI1
            exact ⟨0, _, _, tm, ((Ac.map Prod.snd).set k9 (s.1, s.2.1, s.2.2.1, s.2.2.2.1 + (0 - he j), s.2.2.2.2)), ((Py.map Prod.snd).set i (ky j, ac j, 2, 0, cl j, 0, dn j, ds j, dd j, dl j)), _, _, bal, mi, _, hI1, fun _ => rfl, h_undo_ok hE Mx x o _ g hc.1 hoM _ _ _ _ _ (hb_rmoI (by decide) (by decide) (by decide) (by decide)) _ (hb_Met.mono (c_Hb_undo_end hE Mx x la lp nb ra rp ho pa tm Ac Py hc hk i q _ hi a (nI k9) s hacc fa9 hkc p1 hl0 p2 hs h1 h2) (fun v M1 q9 => by
          simp only [if_neg hcl] at q9
          exact ⟨q9.1, la, lp, nb, ra, rp, _, _, hc.upd (s' := (s.1, s.2.1, s.2.2.1, s.2.2.2.1 + (0 - he j), s.2.2.2.2)) (r' := (ky j, ac j, 2, 0, cl j, 0, dn j, ds j, dd j, dl j)) hk hi ea ha q9.2.1 q9.2.2.1 q9.2.2.2 rfl rfl, by rw [List.map_set], by rw [List.map_set]⟩)), hb_Met.mono (c_Md_undo_end hE My y b0 b1 b2 b3 b4 b5 b6 b7 b8 b9 b10 b11 cd ho pa tm Ac.length Py.length bal mi ky ac st he cl un dn ds dd dl hm hna hnp _ j hj hpl hkm p1 hl0 p2 hs h1 h2) (fun v M1 q9 => ⟨q9.1, _, _, _, _, _, _, _, _, _, _, _, _, _, _, _, _, _, _, _, _, _, _, q9.2, by funext q9; by_cases hq : q9 = j <;> simp [hb_row, hb_uY, upd, vp_updL, hq, hcl2, hN0]⟩)⟩
        · exact ⟨0, _, _, tm, _, _, _, _, bal, mi, _, hI.same hn, fun _ => rfl, h_undo_ok hE Mx x o _ g hc.1 hoM _ _ _ _ _ (hb_rmoI (by decide) (by decide) (by decide) (by decide)) _ (hb_Met.mono (c_Hb_undo_rel hE Mx x la lp nb ra rp ho pa tm Ac Py hc hk i q _ hi _ _ s9 rfl fa hkc p1 hl0 p2 hs h1) (fun v M1 q => ⟨q.1, by rw [q.2]; exact hXX⟩)), hb_Met.mono (c_Md_undo_rel hE My y b0 b1 b2 b3 b4 b5 b6 b7 b8 b9 b10 b11 cd ho pa tm Ac.length Py.length bal mi ky ac st he cl un dn ds dd dl hm hna hnp _ j hj hpl hkm p1 hl0 p2 hs h1) (fun v M1 q => ⟨q.1, _, _, _, _, _, _, _, _, _, _, _, _, _, _, _, _, _, _, _, _, _, _, q.2, rfl⟩)⟩
    · by_cases hto : p2 = 0 ∨ 60 ≤ Py.length
      · exact ⟨0, _, _, tm, _, _, _, _, bal, mi, _, hI.same hn, fun _ => rfl, h_undo_ok hE Mx x o _ g hc.1 hoM _ _ _ _ _ (hb_rmoI (by decide) (by decide) (by decide) (by decide)) _ (hb_Met.mono (c_Hb_undo_no hE Mx x la lp nb ra rp ho pa tm Ac Py hc hk p0 (hb_snd2 hno) hkc p1 hl0 p2 hto) (fun v M1 q => ⟨q.1, by rw [q.2]; exact hXX⟩)), hb_Met.mono (c_Md_undo_no hE My y b0 b1 b2 b3 b4 b5 b6 b7 b8 b9 b10 b11 cd ho pa tm Ac.length Py.length bal mi ky ac st he cl un dn ds dd dl hm hna hnp p0 hpl hkm p1 hl0 p2 hto) (fun v M1 q => ⟨q.1, _, _, _, _, _, _, _, _, _, _, _, _, _, _, _, _, _, _, _, _, _, _, q.2, rfl⟩)⟩
      · have ht0 : p2 ≠ 0 := fun z => hto (Or.inl z)
        have hl9 : Py.length < 60 := Nat.lt_of_not_le (fun z => hto (Or.inr z))
        exact ⟨0, _, _, tm, _, ((Py.map Prod.snd).insertIdx (hb_ps (Py.map Prod.snd) p0) (p0, -1, 2, 0, 0, 0, -1, 0, 0, -1)), _, (Py.length + 1), bal, mi, _, hI.tomb hn hl9 hno, fun _ => rfl, h_undo_ok hE Mx x o _ g hc.1 hoM _ _ _ _ _ (hb_rmoI (by decide) (by decide) (by decide) (by decide)) _ (hb_Met.mono (c_Hb_undo_tomb hE Mx x la lp nb ra rp ho pa tm Ac Py hc hk p0 (hb_snd2 hno) hkc p1 hl0 p2 ht0 hl9) (fun v M1 q9 => ⟨q9.1, by obtain ⟨p9, rp1, h9⟩ := q9.2; exact ⟨la, lp, nb, ra, rp1, _, _, h9, rfl, by rw [hb_map_ins2, hb_pos_ps]⟩⟩)), hb_Met.mono (c_Md_undo_tomb hE My y b0 b1 b2 b3 b4 b5 b6 b7 b8 b9 b10 b11 cd ho pa tm Ac.length Py.length bal mi ky ac st he cl un dn ds dd dl hm hna hnp p0 hpl hkm p1 hl0 p2 ht0 hl9) (fun v M1 q9 => ⟨q9.1, _, _, _, _, _, _, _, _, _, _, _, _, _, _, _, _, _, _, _, _, _, _, q9.2, by funext q9; by_cases hq : q9 = Py.length <;> simp [hb_row, hb_uY, upd, vp_updL, hq]⟩)⟩

theorem s_charge {l : Launch} {s0 : State} {D : va_G} {cI cJ cO : ClassId} {e0 mi0 : Nat} (hE : hb_E l s0 D cI cJ cO e0 mi0) {n x y o : Nat} {ho pa tm cd : Int32} {A : List hbA} {P : List hbY} {na np : Nat} {bal mi : Nat → Int64} {f : Nat → hbY} {Mx My : hb_M} (g : Nat → Int64) (hX : hb_X cO e0 x ho pa tm A P Mx) (hV : hb_V cI cJ y cd ho pa tm na np bal mi f My) (hI : hb_I n ho pa tm A P na np bal mi f) (hn : n < 520) (hoM : Mx o = none) (p0 : Int32) (p1 : Int64) : ∃ (k : Int32) (z : Int64) (w : Int32) (tm1 : Int32) (A1 : List hbA) (P1 : List hbY) (na1 np1 : Nat) (bal1 mi1 : Nat → Int64) (f1 : Nat → hbY), hb_I (n + 1) ho pa tm1 A1 P1 na1 np1 bal1 mi1 f1 ∧ (k = 0 → z = w.toInt64) ∧
    hb_MetW l D hb_cl s0 y_Law_charge b_Law_charge 6 (some .int) hh_charge hb_RH [.ref x, .int p0, .long p1, .ref o] (hb_jn Mx (hb_one o (jE cJ g))) (hb_HP cJ o k z (hb_X cO e0 x ho pa tm1 A1 P1)) ∧
    hb_Met l D hb_cl s0 y_Md_charge b_Md_charge 5 (some .int) { frames := 3, cells := 0, slots := 0, locals := 100 } [.ref y, .int p0, .long p1] My (fun v M1 => v = some (.int w) ∧ hb_V cI cJ y k ho pa tm1 na1 np1 bal1 mi1 f1 M1) := by
  have hXX := hX
  obtain ⟨la, lp, nb, ra, rp, Ac, Py, hc, rfl, rfl⟩ := hX
  obtain ⟨b0, b1, b2, b3, b4, b5, b6, b7, b8, b9, b10, b11, ky, ac, st, he, cl, un, dn, ds, dd, dl, hm, rfl⟩ := hV
  obtain ⟨rfl, rfl, hk, htb⟩ := hI.ok
  have hna := hk.1
  have hnp := hk.2.1
  by_cases hb : (p0 < 0 ∨ 1000000 < p0) ∨ p1 < 1
  · exact ⟨1, 0, 0, tm, _, _, _, _, bal, mi, _, hI.same hn, fun z => absurd z (by decide), h_charge_bad hE Mx x o _ g hc.1 hoM _ _ _ _ (hb_rmoI (by decide) (by decide) (by decide) (by decide)) (c_Hb_charge_bad hE Mx x la lp nb ra rp ho pa tm Ac Py hc hk p0 p1 hb) hXX, hb_Met.mono (c_Md_charge_bad hE My y b0 b1 b2 b3 b4 b5 b6 b7 b8 b9 b10 b11 cd ho pa tm Ac.length Py.length bal mi ky ac st he cl un dn ds dd dl hm hna hnp p0 p1 hb) (fun v M1 q => ⟨q.1, _, _, _, _, _, _, _, _, _, _, _, _, _, _, _, _, _, _, _, _, _, _, q.2, rfl⟩)⟩
  · have hm1 : ¬ p1 < 1 := fun z => hb (Or.inr z)
    have hkc : ¬ p0 < 0 ∧ ¬ 1000000 < p0 := ⟨fun z => hb (Or.inl (Or.inl z)), fun z => hb (Or.inl (Or.inr z))⟩
    have hkm : ¬ (p0 < 0 ∨ 1000000 < p0) := fun z => z.elim hkc.1 hkc.2
    rcases hI.look p0 with ⟨i, r, j, hiP, hkey, hj, er, hpl⟩ | ⟨hno, hpl⟩
    · skip
      obtain ⟨q, hi⟩ := hb_snd hiP
      subst hkey
      subst er
      obtain ⟨s9, fa⟩ := hc.acE hk hi
      have hir := hI.2.2.1 _ (List.mem_of_getElem? hiP)
      by_cases hs : st j = 3 ∧ ds j = 0
      · skip
        have hlt := hb_late hI.1.2.2.1 hI.1.2.2.2.2 (hir.2.2.2.2.1 hs.1).1 (hir.2.2.2.2.1 hs.1).2
        have hlt : (pa < tm - dn j) ↔ (dn j + pa < tm) := hlt
        by_cases hld : dn j + pa < tm
        · exact ⟨0, _, _, tm, _, _, _, _, bal, mi, _, hI.same hn, fun _ => rfl, h_charge_ok hE Mx x o _ g hc.1 hoM _ _ _ _ (hb_rmoI (by decide) (by decide) (by decide) (by decide)) _ (hb_Met.mono (c_Hb_charge_late hE Mx x la lp nb ra rp ho pa tm Ac Py hc hk i q _ hi _ _ s9 rfl fa hkc p1 hm1 hs.1 hs.2 ⟨hs.1, hlt.mpr hld⟩) (fun v M1 q => ⟨q.1, by rw [q.2]; exact hXX⟩)), hb_Met.mono (c_Md_charge_late hE My y b0 b1 b2 b3 b4 b5 b6 b7 b8 b9 b10 b11 cd ho pa tm Ac.length Py.length bal mi ky ac st he cl un dn ds dd dl hm hna hnp _ j hj hpl hkm p1 hm1 hs.1 hs.2 hld) (fun v M1 q => ⟨q.1, _, _, _, _, _, _, _, _, _, _, _, _, _, _, _, _, _, _, _, _, _, _, q.2, rfl⟩)⟩
        · have hld2 : ¬ (st j = 3 ∧ pa < tm - dn j) := fun z => hld (hlt.mp z.2)
          by_cases hmu : cl j < p1
          · exact ⟨0, _, _, tm, _, _, _, _, bal, mi, _, hI.same hn, fun _ => rfl, h_charge_ok hE Mx x o _ g hc.1 hoM _ _ _ _ (hb_rmoI (by decide) (by decide) (by decide) (by decide)) _ (hb_Met.mono (c_Hb_charge_mu hE Mx x la lp nb ra rp ho pa tm Ac Py hc hk i q _ hi _ _ s9 rfl fa hkc p1 hm1 hs.1 hs.2 hld2 hmu) (fun v M1 q => ⟨q.1, by rw [q.2]; exact hXX⟩)), hb_Met.mono (c_Md_charge_mu hE My y b0 b1 b2 b3 b4 b5 b6 b7 b8 b9 b10 b11 cd ho pa tm Ac.length Py.length bal mi ky ac st he cl un dn ds dd dl hm hna hnp _ j hj hpl hkm p1 hm1 hs.1 hs.2 hld hmu) (fun v M1 q => ⟨q.1, _, _, _, _, _, _, _, _, _, _, _, _, _, _, _, _, _, _, _, _, _, _, q.2, rfl⟩)⟩
          · skip
            obtain ⟨k9, hk9, ea⟩ := hir.ac (Or.inl (by rw [show yS (hb_row ky ac st he cl un dn ds dd dl j) = 3 from hs.1]; decide))
            have ea : ac j = nI k9 := ea
            obtain ⟨a, s, ha⟩ := hb_get2 hk9
            have fa9 := hc.ac ha
            have hacc : hb_acc nb Ac (ac j) = a := by rw [ea]; exact hb_acc_nI (by omega) ha
            have hsA : (Ac.map Prod.snd)[k9]? = some s := by rw [List.getElem?_map, ha]; rfl
            obtain ⟨-, hbal, hmi⟩ := hI.2.2.2 k9 s hsA
            have hfr := hI.free hsA
            have hB9 : -2000000000000 ≤ (s.2.2.1).toInt ∧ (s.2.2.1).toInt ≤ 521000000000000 := hfr.2.2
            have hbal : bal k9 = s.2.2.1 := hbal
            obtain ⟨h_ac, h_st, h_1, h_n1, h_3, h_d, h_d3, h_op, h_am, h_dd⟩ := id hir
            have h_am : 0 ≤ (he j).toInt ∧ 0 ≤ (cl j).toInt ∧ (he j).toInt + (cl j).toInt ≤ 1000000000000 := h_am
            have hp1 : 1 ≤ p1.toInt ∧ p1.toInt ≤ (cl j).toInt := by have h3 := hm1; have h4 := hmu; simp only [Int64.lt_iff_toInt_lt, q64_1] at h3 h4; omega
            have i3 : (s.2.2.1 + p1).toInt = (s.2.2.1).toInt + p1.toInt := q64_add (by omega) (by omega)
            have i4 : (tm + pa).toInt = tm.toInt + pa.toInt := q32_add (by have := hI.1; omega) (by have := hI.1; omega)
            have l1 : lk (ky j, ac j, st j, he j, cl j, un j, dn j, 1, p1, tm + pa) = p1 := if_pos (Or.inl rfl)
            have l0 : lk (hb_row ky ac st he cl un dn ds dd dl j) = 0 := if_neg (by show ¬ (ds j = 1 ∨ ds j = 2); rw [hs.2]; decide)
            have hri : hb_ri Ac.length tm (ky j, ac j, st j, he j, cl j, un j, dn j, 1, p1, tm + pa) := ⟨Or.inr ⟨k9, hk9, ea⟩, h_st, fun z => absurd (hs.1.symm.trans z) (by decide), h_n1, h_3, Or.inr (Or.inl rfl), fun _ => hs.1, fun _ => by show tm.toInt ≤ (tm + pa).toInt; have := hI.1; omega, h_am, by show 0 ≤ p1.toInt; omega, by show p1.toInt ≤ _; omega⟩
            have hI1 := hI.upd hn (r' := (ky j, ac j, st j, he j, cl j, un j, dn j, 1, p1, tm + pa)) (s' := (s.1, s.2.1, s.2.2.1 + p1, s.2.2.2.1, s.2.2.2.2 + p1)) hiP hj rfl ea hsA rfl rfl hri rfl rfl (hb_self _ _) (by rw [l1, l0]; show s.2.2.2.2 + p1 = s.2.2.2.2 + (p1 - 0); grind) (by show (s.2.2.1 + p1).toInt ≤ (s.2.2.1).toInt + _; omega) (by rw [l1, l0, q64_z]; show 0 ≤ ((s.2.2.1 + p1).toInt - (s.2.2.1).toInt) + ((he j).toInt - (he j).toInt) + (0 - p1.toInt); omega)
            rw [show aB (s.1, s.2.1, s.2.2.1 + p1, s.2.2.2.1, s.2.2.2.2 + p1) = bal k9 + p1 from by rw [hbal]] at hI1
            exact ⟨0, _, _, tm, ((Ac.map Prod.snd).set k9 (s.1, s.2.1, s.2.2.1 + p1, s.2.2.2.1, s.2.2.2.2 + p1)), ((Py.map Prod.snd).set i (ky j, ac j, st j, he j, cl j, un j, dn j, 1, p1, tm + pa)), _, _, (vp_updL bal k9 (bal k9 + p1)), mi, _, hI1, fun _ => rfl, h_charge_ok hE Mx x o _ g hc.1 hoM _ _ _ _ (hb_rmoI (by decide) (by decide) (by decide) (by decide)) _ (hb_Met.mono (c_Hb_charge_ok hE Mx x la lp nb ra rp ho pa tm Ac Py hc hk i q _ hi a (nI k9) s hacc fa9 hkc p1 hm1 hs.1 hs.2 hld2 hmu) (fun v M1 q9 => ⟨q9.1, la, lp, nb, ra, rp, _, _, hc.upd (s' := (s.1, s.2.1, s.2.2.1 + p1, s.2.2.2.1, s.2.2.2.2 + p1)) (r' := (ky j, ac j, st j, he j, cl j, un j, dn j, 1, p1, tm + pa)) hk hi ea ha q9.2.1 q9.2.2.1 q9.2.2.2 rfl rfl, by rw [List.map_set], by rw [List.map_set]⟩)), hb_Met.mono (c_Md_charge_ok hE My y b0 b1 b2 b3 b4 b5 b6 b7 b8 b9 b10 b11 cd ho pa tm Ac.length Py.length bal mi ky ac st he cl un dn ds dd dl hm hna hnp _ j hj hpl hkm p1 hm1 hs.1 hs.2 hld hmu k9 (by omega) ea) (fun v M1 q9 => ⟨q9.1, _, _, _, _, _, _, _, _, _, _, _, _, _, _, _, _, _, _, _, _, _, _, q9.2, by funext q9; by_cases hq : q9 = j <;> simp [hb_row, hb_uY, upd, vp_updL, hq]⟩)⟩
      · have hs2 : st j ≠ 3 ∨ ds j ≠ 0 := by
          by_cases z1 : st j = 3
          · exact Or.inr (fun z2 => hs ⟨z1, z2⟩)
          · exact Or.inl z1
        exact ⟨0, _, _, tm, _, _, _, _, bal, mi, _, hI.same hn, fun _ => rfl, h_charge_ok hE Mx x o _ g hc.1 hoM _ _ _ _ (hb_rmoI (by decide) (by decide) (by decide) (by decide)) _ (hb_Met.mono (c_Hb_charge_st hE Mx x la lp nb ra rp ho pa tm Ac Py hc hk i q _ hi _ _ s9 rfl fa hkc p1 hm1 hs2) (fun v M1 q => ⟨q.1, by rw [q.2]; exact hXX⟩)), hb_Met.mono (c_Md_charge_st hE My y b0 b1 b2 b3 b4 b5 b6 b7 b8 b9 b10 b11 cd ho pa tm Ac.length Py.length bal mi ky ac st he cl un dn ds dd dl hm hna hnp _ j hj hpl hkm p1 hm1 hs2) (fun v M1 q => ⟨q.1, _, _, _, _, _, _, _, _, _, _, _, _, _, _, _, _, _, _, _, _, _, _, q.2, rfl⟩)⟩
    · exact ⟨0, _, _, tm, _, _, _, _, bal, mi, _, hI.same hn, fun _ => rfl, h_charge_ok hE Mx x o _ g hc.1 hoM _ _ _ _ (hb_rmoI (by decide) (by decide) (by decide) (by decide)) _ (hb_Met.mono (c_Hb_charge_no hE Mx x la lp nb ra rp ho pa tm Ac Py hc hk p0 (hb_snd2 hno) hkc p1 hm1) (fun v M1 q => ⟨q.1, by rw [q.2]; exact hXX⟩)), hb_Met.mono (c_Md_charge_no hE My y b0 b1 b2 b3 b4 b5 b6 b7 b8 b9 b10 b11 cd ho pa tm Ac.length Py.length bal mi ky ac st he cl un dn ds dd dl hm hna hnp p0 hpl hkm p1 hm1) (fun v M1 q => ⟨q.1, _, _, _, _, _, _, _, _, _, _, _, _, _, _, _, _, _, _, _, _, _, _, q.2, rfl⟩)⟩

theorem s_represent {l : Launch} {s0 : State} {D : va_G} {cI cJ cO : ClassId} {e0 mi0 : Nat} (hE : hb_E l s0 D cI cJ cO e0 mi0) {n x y o : Nat} {ho pa tm cd : Int32} {A : List hbA} {P : List hbY} {na np : Nat} {bal mi : Nat → Int64} {f : Nat → hbY} {Mx My : hb_M} (g : Nat → Int64) (hX : hb_X cO e0 x ho pa tm A P Mx) (hV : hb_V cI cJ y cd ho pa tm na np bal mi f My) (hI : hb_I n ho pa tm A P na np bal mi f) (hn : n < 520) (hoM : Mx o = none) (p0 : Int32) : ∃ (k : Int32) (z : Int64) (w : Int32) (tm1 : Int32) (A1 : List hbA) (P1 : List hbY) (na1 np1 : Nat) (bal1 mi1 : Nat → Int64) (f1 : Nat → hbY), hb_I (n + 1) ho pa tm1 A1 P1 na1 np1 bal1 mi1 f1 ∧ (k = 0 → z = w.toInt64) ∧
    hb_MetW l D hb_cl s0 y_Law_represent b_Law_represent 4 (some .int) hh_represent hb_RH [.ref x, .int p0, .ref o] (hb_jn Mx (hb_one o (jE cJ g))) (hb_HP cJ o k z (hb_X cO e0 x ho pa tm1 A1 P1)) ∧
    hb_Met l D hb_cl s0 y_Md_represent b_Md_represent 3 (some .int) { frames := 3, cells := 0, slots := 0, locals := 100 } [.ref y, .int p0] My (fun v M1 => v = some (.int w) ∧ hb_V cI cJ y k ho pa tm1 na1 np1 bal1 mi1 f1 M1) := by
  have hXX := hX
  obtain ⟨la, lp, nb, ra, rp, Ac, Py, hc, rfl, rfl⟩ := hX
  obtain ⟨b0, b1, b2, b3, b4, b5, b6, b7, b8, b9, b10, b11, ky, ac, st, he, cl, un, dn, ds, dd, dl, hm, rfl⟩ := hV
  obtain ⟨rfl, rfl, hk, htb⟩ := hI.ok
  have hna := hk.1
  have hnp := hk.2.1
  by_cases hb : p0 < 0 ∨ 1000000 < p0
  · exact ⟨1, 0, 0, tm, _, _, _, _, bal, mi, _, hI.same hn, fun z => absurd z (by decide), h_represent_bad hE Mx x o _ g hc.1 hoM _ _ _ (hb_rmoI (by decide) (by decide) (by decide) (by decide)) (c_Hb_represent_bad hE Mx x la lp nb ra rp ho pa tm Ac Py hc hk p0 hb) hXX, hb_Met.mono (c_Md_represent_bad hE My y b0 b1 b2 b3 b4 b5 b6 b7 b8 b9 b10 b11 cd ho pa tm Ac.length Py.length bal mi ky ac st he cl un dn ds dd dl hm hna hnp p0 hb) (fun v M1 q => ⟨q.1, _, _, _, _, _, _, _, _, _, _, _, _, _, _, _, _, _, _, _, _, _, _, q.2, rfl⟩)⟩
  · skip
    have hkc : ¬ p0 < 0 ∧ ¬ 1000000 < p0 := ⟨fun z => hb (Or.inl z), fun z => hb (Or.inr z)⟩
    have hkm : ¬ (p0 < 0 ∨ 1000000 < p0) := fun z => z.elim hkc.1 hkc.2
    rcases hI.look p0 with ⟨i, r, j, hiP, hkey, hj, er, hpl⟩ | ⟨hno, hpl⟩
    · skip
      obtain ⟨q, hi⟩ := hb_snd hiP
      subst hkey
      subst er
      obtain ⟨s9, fa⟩ := hc.acE hk hi
      have hir := hI.2.2.1 _ (List.mem_of_getElem? hiP)
      by_cases hs : ds j = 1
      · skip
        obtain ⟨k9, hk9, ea⟩ := hir.ac (Or.inr (by rw [show yD (hb_row ky ac st he cl un dn ds dd dl j) = 1 from hs]; decide))
        have ea : ac j = nI k9 := ea
        obtain ⟨a, s, ha⟩ := hb_get2 hk9
        have fa9 := hc.ac ha
        have hacc : hb_acc nb Ac (ac j) = a := by rw [ea]; exact hb_acc_nI (by omega) ha
        have hsA : (Ac.map Prod.snd)[k9]? = some s := by rw [List.getElem?_map, ha]; rfl
        obtain ⟨-, hbal, hmi⟩ := hI.2.2.2 k9 s hsA
        have hfr := hI.free hsA
        have hB9 : -2000000000000 ≤ (s.2.2.1).toInt ∧ (s.2.2.1).toInt ≤ 521000000000000 := hfr.2.2
        have hbal : bal k9 = s.2.2.1 := hbal
        obtain ⟨h_ac, h_st, h_1, h_n1, h_3, h_d, h_d3, h_op, h_am, h_dd⟩ := id hir
        have i4 : (tm + pa).toInt = tm.toInt + pa.toInt := q32_add (by have := hI.1; omega) (by have := hI.1; omega)
        have s3 : st j = 3 := h_d3 (by rw [show yD (hb_row ky ac st he cl un dn ds dd dl j) = 1 from hs]; decide)
        have l1 : lk (ky j, ac j, st j, he j, cl j, un j, dn j, 2, dd j, tm + pa) = dd j := if_pos (Or.inr rfl)
        have l0 : lk (hb_row ky ac st he cl un dn ds dd dl j) = dd j := if_pos (Or.inl hs)
        have hri : hb_ri Ac.length tm (ky j, ac j, st j, he j, cl j, un j, dn j, 2, dd j, tm + pa) := ⟨Or.inr ⟨k9, hk9, ea⟩, h_st, fun z => absurd (s3.symm.trans z) (by decide), h_n1, h_3, Or.inr (Or.inr (Or.inl rfl)), fun _ => s3, fun _ => by show tm.toInt ≤ (tm + pa).toInt; have := hI.1; omega, h_am, h_dd⟩
        have hI1 := hI.upd hn (r' := (ky j, ac j, st j, he j, cl j, un j, dn j, 2, dd j, tm + pa)) (s' := s) hiP hj rfl ea hsA rfl rfl hri rfl rfl (hb_self _ _) (by rw [l1, l0]; exact hb_self _ _) (by omega) (by rw [l1, l0]; show 0 ≤ ((aB s).toInt - (aB s).toInt) + ((he j).toInt - (he j).toInt) + _; omega)
        rw [hb_updsame (show bal k9 = aB s from hbal)] at hI1
        rw [hb_setid hsA] at hI1
        exact ⟨0, _, _, tm, _, ((Py.map Prod.snd).set i (ky j, ac j, st j, he j, cl j, un j, dn j, 2, dd j, tm + pa)), _, _, bal, mi, _, hI1, fun _ => rfl, h_represent_ok hE Mx x o _ g hc.1 hoM _ _ _ (hb_rmoI (by decide) (by decide) (by decide) (by decide)) _ (hb_Met.mono (c_Hb_represent_ok hE Mx x la lp nb ra rp ho pa tm Ac Py hc hk i q _ hi _ _ s9 rfl fa hkc hs) (fun v M1 q9 => ⟨q9.1, la, lp, nb, ra, rp, _, _, hc.updP (r' := (ky j, ac j, st j, he j, cl j, un j, dn j, 2, dd j, tm + pa)) hk hi q9.2.1 q9.2.2 rfl rfl, rfl, by rw [List.map_set]⟩)), hb_Met.mono (c_Md_represent_ok hE My y b0 b1 b2 b3 b4 b5 b6 b7 b8 b9 b10 b11 cd ho pa tm Ac.length Py.length bal mi ky ac st he cl un dn ds dd dl hm hna hnp _ j hj hpl hkm hs) (fun v M1 q9 => ⟨q9.1, _, _, _, _, _, _, _, _, _, _, _, _, _, _, _, _, _, _, _, _, _, _, q9.2, by funext q9; by_cases hq : q9 = j <;> simp [hb_row, hb_uY, upd, vp_updL, hq]⟩)⟩
      · exact ⟨0, _, _, tm, _, _, _, _, bal, mi, _, hI.same hn, fun _ => rfl, h_represent_ok hE Mx x o _ g hc.1 hoM _ _ _ (hb_rmoI (by decide) (by decide) (by decide) (by decide)) _ (hb_Met.mono (c_Hb_represent_st hE Mx x la lp nb ra rp ho pa tm Ac Py hc hk i q _ hi _ _ s9 rfl fa hkc hs) (fun v M1 q => ⟨q.1, by rw [q.2]; exact hXX⟩)), hb_Met.mono (c_Md_represent_st hE My y b0 b1 b2 b3 b4 b5 b6 b7 b8 b9 b10 b11 cd ho pa tm Ac.length Py.length bal mi ky ac st he cl un dn ds dd dl hm hna hnp _ j hj hpl hkm hs) (fun v M1 q => ⟨q.1, _, _, _, _, _, _, _, _, _, _, _, _, _, _, _, _, _, _, _, _, _, _, q.2, rfl⟩)⟩
    · exact ⟨0, _, _, tm, _, _, _, _, bal, mi, _, hI.same hn, fun _ => rfl, h_represent_ok hE Mx x o _ g hc.1 hoM _ _ _ (hb_rmoI (by decide) (by decide) (by decide) (by decide)) _ (hb_Met.mono (c_Hb_represent_no hE Mx x la lp nb ra rp ho pa tm Ac Py hc hk p0 (hb_snd2 hno) hkc) (fun v M1 q => ⟨q.1, by rw [q.2]; exact hXX⟩)), hb_Met.mono (c_Md_represent_no hE My y b0 b1 b2 b3 b4 b5 b6 b7 b8 b9 b10 b11 cd ho pa tm Ac.length Py.length bal mi ky ac st he cl un dn ds dd dl hm hna hnp p0 hpl hkm) (fun v M1 q => ⟨q.1, _, _, _, _, _, _, _, _, _, _, _, _, _, _, _, _, _, _, _, _, _, _, q.2, rfl⟩)⟩

theorem s_decide {l : Launch} {s0 : State} {D : va_G} {cI cJ cO : ClassId} {e0 mi0 : Nat} (hE : hb_E l s0 D cI cJ cO e0 mi0) {n x y o : Nat} {ho pa tm cd : Int32} {A : List hbA} {P : List hbY} {na np : Nat} {bal mi : Nat → Int64} {f : Nat → hbY} {Mx My : hb_M} (g : Nat → Int64) (hX : hb_X cO e0 x ho pa tm A P Mx) (hV : hb_V cI cJ y cd ho pa tm na np bal mi f My) (hI : hb_I n ho pa tm A P na np bal mi f) (hn : n < 520) (hoM : Mx o = none) (p0 : Int32) (p1 : Int32) : ∃ (k : Int32) (z : Int64) (w : Int32) (tm1 : Int32) (A1 : List hbA) (P1 : List hbY) (na1 np1 : Nat) (bal1 mi1 : Nat → Int64) (f1 : Nat → hbY), hb_I (n + 1) ho pa tm1 A1 P1 na1 np1 bal1 mi1 f1 ∧ (k = 0 → z = w.toInt64) ∧
    hb_MetW l D hb_cl s0 y_Law_decide b_Law_decide 5 (some .int) hh_decide hb_RH [.ref x, .int p0, .int p1, .ref o] (hb_jn Mx (hb_one o (jE cJ g))) (hb_HP cJ o k z (hb_X cO e0 x ho pa tm1 A1 P1)) ∧
    hb_Met l D hb_cl s0 y_Md_decide b_Md_decide 4 (some .int) { frames := 3, cells := 0, slots := 0, locals := 100 } [.ref y, .int p0, .int p1] My (fun v M1 => v = some (.int w) ∧ hb_V cI cJ y k ho pa tm1 na1 np1 bal1 mi1 f1 M1) := by
  have hXX := hX
  obtain ⟨la, lp, nb, ra, rp, Ac, Py, hc, rfl, rfl⟩ := hX
  obtain ⟨b0, b1, b2, b3, b4, b5, b6, b7, b8, b9, b10, b11, ky, ac, st, he, cl, un, dn, ds, dd, dl, hm, rfl⟩ := hV
  obtain ⟨rfl, rfl, hk, htb⟩ := hI.ok
  have hna := hk.1
  have hnp := hk.2.1
  by_cases hb : p0 < 0 ∨ 1000000 < p0
  · exact ⟨1, 0, 0, tm, _, _, _, _, bal, mi, _, hI.same hn, fun z => absurd z (by decide), h_decide_bad hE Mx x o _ g hc.1 hoM _ _ _ _ (hb_rmoI (by decide) (by decide) (by decide) (by decide)) (c_Hb_decide_bad hE Mx x la lp nb ra rp ho pa tm Ac Py hc hk p0 p1 hb) hXX, hb_Met.mono (c_Md_decide_bad hE My y b0 b1 b2 b3 b4 b5 b6 b7 b8 b9 b10 b11 cd ho pa tm Ac.length Py.length bal mi ky ac st he cl un dn ds dd dl hm hna hnp p0 p1 hb) (fun v M1 q => ⟨q.1, _, _, _, _, _, _, _, _, _, _, _, _, _, _, _, _, _, _, _, _, _, _, q.2, rfl⟩)⟩
  · skip
    have hkc : ¬ p0 < 0 ∧ ¬ 1000000 < p0 := ⟨fun z => hb (Or.inl z), fun z => hb (Or.inr z)⟩
    have hkm : ¬ (p0 < 0 ∨ 1000000 < p0) := fun z => z.elim hkc.1 hkc.2
    rcases hI.look p0 with ⟨i, r, j, hiP, hkey, hj, er, hpl⟩ | ⟨hno, hpl⟩
    · skip
      obtain ⟨q, hi⟩ := hb_snd hiP
      subst hkey
      subst er
      obtain ⟨s9, fa⟩ := hc.acE hk hi
      have hir := hI.2.2.1 _ (List.mem_of_getElem? hiP)
      by_cases hs : ds j = 2
      · skip
        obtain ⟨k9, hk9, ea⟩ := hir.ac (Or.inr (by rw [show yD (hb_row ky ac st he cl un dn ds dd dl j) = 2 from hs]; decide))
        have ea : ac j = nI k9 := ea
        obtain ⟨a, s, ha⟩ := hb_get2 hk9
        have fa9 := hc.ac ha
        have hacc : hb_acc nb Ac (ac j) = a := by rw [ea]; exact hb_acc_nI (by omega) ha
        have hsA : (Ac.map Prod.snd)[k9]? = some s := by rw [List.getElem?_map, ha]; rfl
        obtain ⟨-, hbal, hmi⟩ := hI.2.2.2 k9 s hsA
        have hfr := hI.free hsA
        have hB9 : -2000000000000 ≤ (s.2.2.1).toInt ∧ (s.2.2.1).toInt ≤ 521000000000000 := hfr.2.2
        have hbal : bal k9 = s.2.2.1 := hbal
        obtain ⟨h_ac, h_st, h_1, h_n1, h_3, h_d, h_d3, h_op, h_am, h_dd⟩ := id hir
        have s3 : st j = 3 := h_d3 (by rw [show yD (hb_row ky ac st he cl un dn ds dd dl j) = 2 from hs]; decide)
        have h_dd : 0 ≤ (dd j).toInt ∧ (dd j).toInt ≤ 1000000000000 := h_dd
        have l0 : lk (hb_row ky ac st he cl un dn ds dd dl j) = dd j := if_pos (Or.inr hs)
        have i3 : (s.2.2.1 - dd j).toInt = (s.2.2.1).toInt - (dd j).toInt := q64_sub (by omega) (by omega)
        by_cases hw0 : p1 = 0
        · skip
          have l1 : lk (ky j, ac j, st j, he j, cl j, un j, dn j, 4, dd j, -1) = 0 := if_neg (by decide : ¬ ((4 : Int32) = 1 ∨ (4 : Int32) = 2))
          have hri : hb_ri Ac.length tm (ky j, ac j, st j, he j, cl j, un j, dn j, 4, dd j, -1) := ⟨Or.inr ⟨k9, hk9, ea⟩, h_st, fun z => absurd (s3.symm.trans z) (by decide), h_n1, h_3, Or.inr (Or.inr (Or.inr (Or.inr rfl))), fun _ => s3, fun z => absurd z (by decide : ¬ ((4 : Int32) = 1 ∨ (4 : Int32) = 2)), h_am, h_dd⟩
          have hI1 := hI.upd hn (r' := (ky j, ac j, st j, he j, cl j, un j, dn j, 4, dd j, -1)) (s' := (s.1, s.2.1, s.2.2.1 - dd j, s.2.2.2.1, s.2.2.2.2 - dd j)) hiP hj rfl ea hsA rfl rfl hri rfl rfl (hb_self _ _) (by rw [l1, l0]; show s.2.2.2.2 - dd j = s.2.2.2.2 + (0 - dd j); grind) (by show (s.2.2.1 - dd j).toInt ≤ (s.2.2.1).toInt + _; omega) (by rw [l1, l0, q64_z]; show 0 ≤ ((s.2.2.1 - dd j).toInt - (s.2.2.1).toInt) + ((he j).toInt - (he j).toInt) + ((dd j).toInt - 0); omega)
          rw [show aB (s.1, s.2.1, s.2.2.1 - dd j, s.2.2.2.1, s.2.2.2.2 - dd j) = bal k9 - (if p1 = 0 then dd j else 0) from by rw [if_pos hw0, hbal]] at hI1
          exact ⟨0, _, _, tm, ((Ac.map Prod.snd).set k9 (s.1, s.2.1, s.2.2.1 - dd j, s.2.2.2.1, s.2.2.2.2 - dd j)), ((Py.map Prod.snd).set i (ky j, ac j, st j, he j, cl j, un j, dn j, 4, dd j, -1)), _, _, (vp_updL bal k9 (bal k9 - (if p1 = 0 then dd j else 0))), mi, _, hI1, fun _ => rfl, h_decide_ok hE Mx x o _ g hc.1 hoM _ _ _ _ (hb_rmoI (by decide) (by decide) (by decide) (by decide)) _ (hb_Met.mono (c_Hb_decide_ok hE Mx x la lp nb ra rp ho pa tm Ac Py hc hk i q _ hi a (nI k9) s hacc fa9 hkc p1 hs) (fun v M1 q9 => by
          simp only [if_pos hw0] at q9
          exact ⟨q9.1, la, lp, nb, ra, rp, _, _, hc.upd (s' := (s.1, s.2.1, s.2.2.1 - dd j, s.2.2.2.1, s.2.2.2.2 - dd j)) (r' := (ky j, ac j, st j, he j, cl j, un j, dn j, 4, dd j, -1)) hk hi ea ha q9.2.1 q9.2.2.1 q9.2.2.2 rfl rfl, by rw [List.map_set], by rw [List.map_set]⟩)), hb_Met.mono (c_Md_decide_ok hE My y b0 b1 b2 b3 b4 b5 b6 b7 b8 b9 b10 b11 cd ho pa tm Ac.length Py.length bal mi ky ac st he cl un dn ds dd dl hm hna hnp _ j hj hpl hkm p1 hs k9 (by omega) ea) (fun v M1 q9 => ⟨q9.1, _, _, _, _, _, _, _, _, _, _, _, _, _, _, _, _, _, _, _, _, _, _, q9.2, by funext q9; by_cases hq : q9 = j <;> simp [hb_row, hb_uY, upd, vp_updL, hq, hw0]⟩)⟩
        · skip
          have l1 : lk (ky j, ac j, st j, he j, cl j, un j, dn j, 3, dd j, -1) = 0 := if_neg (by decide : ¬ ((3 : Int32) = 1 ∨ (3 : Int32) = 2))
          have hri : hb_ri Ac.length tm (ky j, ac j, st j, he j, cl j, un j, dn j, 3, dd j, -1) := ⟨Or.inr ⟨k9, hk9, ea⟩, h_st, fun z => absurd (s3.symm.trans z) (by decide), h_n1, h_3, Or.inr (Or.inr (Or.inr (Or.inl rfl))), fun _ => s3, fun z => absurd z (by decide : ¬ ((3 : Int32) = 1 ∨ (3 : Int32) = 2)), h_am, h_dd⟩
          have hI1 := hI.upd hn (r' := (ky j, ac j, st j, he j, cl j, un j, dn j, 3, dd j, -1)) (s' := (s.1, s.2.1, s.2.2.1, s.2.2.2.1, s.2.2.2.2 - dd j)) hiP hj rfl ea hsA rfl rfl hri rfl rfl (hb_self _ _) (by rw [l1, l0]; show s.2.2.2.2 - dd j = s.2.2.2.2 + (0 - dd j); grind) (by show (s.2.2.1).toInt ≤ (s.2.2.1).toInt + _; omega) (by rw [l1, l0, q64_z]; show 0 ≤ ((s.2.2.1).toInt - (s.2.2.1).toInt) + ((he j).toInt - (he j).toInt) + ((dd j).toInt - 0); omega)
          rw [show aB (s.1, s.2.1, s.2.2.1, s.2.2.2.1, s.2.2.2.2 - dd j) = bal k9 - (if p1 = 0 then dd j else 0) from by rw [if_neg hw0, hbal]; show s.2.2.1 = s.2.2.1 - 0; grind] at hI1
          exact ⟨0, _, _, tm, ((Ac.map Prod.snd).set k9 (s.1, s.2.1, s.2.2.1, s.2.2.2.1, s.2.2.2.2 - dd j)), ((Py.map Prod.snd).set i (ky j, ac j, st j, he j, cl j, un j, dn j, 3, dd j, -1)), _, _, (vp_updL bal k9 (bal k9 - (if p1 = 0 then dd j else 0))), mi, _, hI1, fun _ => rfl, h_decide_ok hE Mx x o _ g hc.1 hoM _ _ _ _ (hb_rmoI (by decide) (by decide) (by decide) (by decide)) _ (hb_Met.mono (c_Hb_decide_ok hE Mx x la lp nb ra rp ho pa tm Ac Py hc hk i q _ hi a (nI k9) s hacc fa9 hkc p1 hs) (fun v M1 q9 => by
          simp only [if_neg hw0] at q9
          exact ⟨q9.1, la, lp, nb, ra, rp, _, _, hc.upd (s' := (s.1, s.2.1, s.2.2.1, s.2.2.2.1, s.2.2.2.2 - dd j)) (r' := (ky j, ac j, st j, he j, cl j, un j, dn j, 3, dd j, -1)) hk hi ea ha q9.2.1 q9.2.2.1 q9.2.2.2 rfl rfl, by rw [List.map_set], by rw [List.map_set]⟩)), hb_Met.mono (c_Md_decide_ok hE My y b0 b1 b2 b3 b4 b5 b6 b7 b8 b9 b10 b11 cd ho pa tm Ac.length Py.length bal mi ky ac st he cl un dn ds dd dl hm hna hnp _ j hj hpl hkm p1 hs k9 (by omega) ea) (fun v M1 q9 => ⟨q9.1, _, _, _, _, _, _, _, _, _, _, _, _, _, _, _, _, _, _, _, _, _, _, q9.2, by funext q9; by_cases hq : q9 = j <;> simp [hb_row, hb_uY, upd, vp_updL, hq, hw0]⟩)⟩
      · exact ⟨0, _, _, tm, _, _, _, _, bal, mi, _, hI.same hn, fun _ => rfl, h_decide_ok hE Mx x o _ g hc.1 hoM _ _ _ _ (hb_rmoI (by decide) (by decide) (by decide) (by decide)) _ (hb_Met.mono (c_Hb_decide_st hE Mx x la lp nb ra rp ho pa tm Ac Py hc hk i q _ hi _ _ s9 rfl fa hkc p1 hs) (fun v M1 q => ⟨q.1, by rw [q.2]; exact hXX⟩)), hb_Met.mono (c_Md_decide_st hE My y b0 b1 b2 b3 b4 b5 b6 b7 b8 b9 b10 b11 cd ho pa tm Ac.length Py.length bal mi ky ac st he cl un dn ds dd dl hm hna hnp _ j hj hpl hkm p1 hs) (fun v M1 q => ⟨q.1, _, _, _, _, _, _, _, _, _, _, _, _, _, _, _, _, _, _, _, _, _, _, q.2, rfl⟩)⟩
    · exact ⟨0, _, _, tm, _, _, _, _, bal, mi, _, hI.same hn, fun _ => rfl, h_decide_ok hE Mx x o _ g hc.1 hoM _ _ _ _ (hb_rmoI (by decide) (by decide) (by decide) (by decide)) _ (hb_Met.mono (c_Hb_decide_no hE Mx x la lp nb ra rp ho pa tm Ac Py hc hk p0 (hb_snd2 hno) hkc p1) (fun v M1 q => ⟨q.1, by rw [q.2]; exact hXX⟩)), hb_Met.mono (c_Md_decide_no hE My y b0 b1 b2 b3 b4 b5 b6 b7 b8 b9 b10 b11 cd ho pa tm Ac.length Py.length bal mi ky ac st he cl un dn ds dd dl hm hna hnp p0 hpl hkm p1) (fun v M1 q => ⟨q.1, _, _, _, _, _, _, _, _, _, _, _, _, _, _, _, _, _, _, _, _, _, _, q.2, rfl⟩)⟩
