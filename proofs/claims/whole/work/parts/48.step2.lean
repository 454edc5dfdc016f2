/-! THE TWO SIDES: calls that change a payment -/
theorem hb_ri.ac {na : Nat} {tm : Int32} {r : hbY} (h : hb_ri na tm r) (h1 : yS r ≠ 2 ∨ yD r ≠ 0) : ∃ k, k < na ∧ yA r = nI k := by
  rcases h.1 with ⟨-, z2, z3⟩ | z
  · rcases h1 with y | y
    · exact absurd z2 y
    · exact absurd z3 y
  · exact z
theorem hb_self (x y : Int64) : x = x + (y - y) := by grind
theorem hb_amt {p : Int64} (h : ¬ p < 1 ∧ ¬ 1000000000000 < p) : 1 ≤ p.toInt ∧ p.toInt ≤ 1000000000000 := by
  simp only [Int64.lt_iff_toInt_lt, q64_1, q64_m] at h
  omega
theorem s_clear {l : Launch} {s0 : State} {D : va_G} {cI cJ cO : ClassId} {e0 mi0 : Nat} (hE : hb_E l s0 D cI cJ cO e0 mi0) {n x y o : Nat} {ho pa tm cd : Int32} {A : List hbA} {P : List hbY} {na np : Nat} {bal mi : Nat → Int64} {f : Nat → hbY} {Mx My : hb_M} (g : Nat → Int64) (hX : hb_X cO e0 x ho pa tm A P Mx) (hV : hb_V cI cJ y cd ho pa tm na np bal mi f My) (hI : hb_I n ho pa tm A P na np bal mi f) (hn : n < 520) (hoM : Mx o = none) (p0 : Int32) (p1 : Int64) (p2 : Int32) : ∃ (k : Int32) (z : Int64) (w : Int64) (tm1 : Int32) (A1 : List hbA) (P1 : List hbY) (na1 np1 : Nat) (bal1 mi1 : Nat → Int64) (f1 : Nat → hbY), hb_I (n + 1) ho pa tm1 A1 P1 na1 np1 bal1 mi1 f1 ∧ (k = 0 → z = w) ∧
    hb_MetW l D hb_cl s0 y_Law_clear b_Law_clear 7 (some .int) hh_clear hb_RH [.ref x, .int p0, .long p1, .int p2, .ref o] (hb_jn Mx (hb_one o (jE cJ g))) (hb_HP cJ o k z (hb_X cO e0 x ho pa tm1 A1 P1)) ∧
    hb_Met l D hb_cl s0 y_Md_clear b_Md_clear 6 (some .long) { frames := 3, cells := 0, slots := 0, locals := 100 } [.ref y, .int p0, .long p1, .int p2] My (fun v M1 => v = some (.long w) ∧ hb_V cI cJ y k ho pa tm1 na1 np1 bal1 mi1 f1 M1) := by
  have hXX := hX
  obtain ⟨la, lp, nb, ra, rp, Ac, Py, hc, rfl, rfl⟩ := hX
  obtain ⟨b0, b1, b2, b3, b4, b5, b6, b7, b8, b9, b10, b11, ky, ac, st, he, cl, un, dn, ds, dd, dl, hm, rfl⟩ := hV
  obtain ⟨rfl, rfl, hk, htb⟩ := hI.ok
  have hna := hk.1
  have hnp := hk.2.1
  by_cases hb : (p0 < 0 ∨ 1000000 < p0) ∨ (p1 < 1 ∨ 1000000000000 < p1)
  · exact ⟨1, 0, 0, tm, _, _, _, _, bal, mi, _, hI.same hn, fun z => absurd z (by decide), h_clear_bad hE Mx x o _ g hc.1 hoM _ _ _ _ _ (hb_rmoI (by decide) (by decide) (by decide) (by decide)) (c_Hb_clear_bad hE Mx x la lp nb ra rp ho pa tm Ac Py hc hk p0 p1 p2 hb) hXX, hb_Met.mono (c_Md_clear_bad hE My y b0 b1 b2 b3 b4 b5 b6 b7 b8 b9 b10 b11 cd ho pa tm Ac.length Py.length bal mi ky ac st he cl un dn ds dd dl hm hna hnp p0 p1 p2 hb) (fun v M1 q => ⟨q.1, _, _, _, _, _, _, _, _, _, _, _, _, _, _, _, _, _, _, _, _, _, _, q.2, rfl⟩)⟩
  · have hm1 : ¬ p1 < 1 ∧ ¬ 1000000000000 < p1 := ⟨fun z => hb (Or.inr (Or.inl z)), fun z => hb (Or.inr (Or.inr z))⟩
    have hm2 : ¬ (p1 < 1 ∨ 1000000000000 < p1) := fun z => z.elim hm1.1 hm1.2
    have hp1 := hb_amt hm1
    have hkc : ¬ p0 < 0 ∧ ¬ 1000000 < p0 := ⟨fun z => hb (Or.inl (Or.inl z)), fun z => hb (Or.inl (Or.inr z))⟩
    have hkm : ¬ (p0 < 0 ∨ 1000000 < p0) := fun z => z.elim hkc.1 hkc.2
    rcases hI.look p0 with ⟨i, r, j, hiP, hkey, hj, er, hpl⟩ | ⟨hno, hpl⟩
    · skip
      obtain ⟨q, hi⟩ := hb_snd hiP
      subst hkey
      subst er
      obtain ⟨s9, fa⟩ := hc.acE hk hi
      have hir := hI.2.2.1 _ (List.mem_of_getElem? hiP)
      by_cases hs : st j = 1
      · by_cases hmu : he j < p1
        · exact ⟨0, _, _, tm, _, _, _, _, bal, mi, _, hI.same hn, fun _ => rfl, h_clear_ok hE Mx x o _ g hc.1 hoM _ _ _ _ _ (hb_rmoI (by decide) (by decide) (by decide) (by decide)) _ (hb_Met.mono (c_Hb_clear_mu hE Mx x la lp nb ra rp ho pa tm Ac Py hc hk i q _ hi _ _ s9 rfl fa hkc p1 hm1 p2 hs hmu) (fun v M1 q => ⟨q.1, by rw [q.2]; exact hXX⟩)), hb_Met.mono (c_Md_clear_mu hE My y b0 b1 b2 b3 b4 b5 b6 b7 b8 b9 b10 b11 cd ho pa tm Ac.length Py.length bal mi ky ac st he cl un dn ds dd dl hm hna hnp _ j hj hpl hkm p1 hm2 p2 hs hmu) (fun v M1 q => ⟨q.1, _, _, _, _, _, _, _, _, _, _, _, _, _, _, _, _, _, _, _, _, _, _, q.2, rfl⟩)⟩
        · skip
          obtain ⟨k9, hk9, ea⟩ := hir.ac (Or.inl (by rw [show yS (hb_row ky ac st he cl un dn ds dd dl j) = 1 from hs]; decide))
          have ea : ac j = nI k9 := ea
          obtain ⟨a, s, ha⟩ := hb_get2 hk9
          have fa9 := hc.ac ha
          have hacc : hb_acc nb Ac (ac j) = a := by rw [ea]; exact hb_acc_nI (by omega) ha
          have hsA : (Ac.map Prod.snd)[k9]? = some s := by rw [List.getElem?_map, ha]; rfl
          obtain ⟨-, hbal, hmi⟩ := hI.2.2.2 k9 s hsA
          have hfr := hI.free hsA
          have hB9 : -2000000000000 ≤ (s.2.2.1).toInt ∧ (s.2.2.1).toInt ≤ 521000000000000 := hfr.2.2
          have hbal : bal k9 = s.2.2.1 := hbal
          obtain ⟨h_ac, h_st, h_1, h_n1, h_3, h_d, h_d3, h_op, h_am, h_dd⟩ := id hir
          have h_am : 0 ≤ (he j).toInt ∧ 0 ≤ (cl j).toInt ∧ (he j).toInt + (cl j).toInt ≤ 1000000000000 := h_am
          have hmu1 : p1.toInt ≤ (he j).toInt := by rw [Int64.lt_iff_toInt_lt] at hmu; omega
          have i1 : (he j - p1).toInt = (he j).toInt - p1.toInt := q64_sub (by omega) (by omega)
          have i2 : (cl j + p1).toInt = (cl j).toInt + p1.toInt := q64_add (by omega) (by omega)
          have i3 : (s.2.2.1 - p1).toInt = (s.2.2.1).toInt - p1.toInt := q64_sub (by omega) (by omega)
          have hd0 : ds j = 0 := (h_1 hs).2.2
          have hu0 := (h_1 hs).1
          have hN0 : dn j = -1 := (h_1 hs).2.1
          by_cases hpt : p2 ≠ 0 ∧ he j - p1 ≠ 0
          · skip
            have hri : hb_ri Ac.length tm (ky j, ac j, st j, he j - p1, cl j + p1, un j, dn j, ds j, dd j, dl j) := ⟨h_ac, h_st, h_1, fun z => absurd hs z, h_3, h_d, h_d3, h_op, ⟨by show 0 ≤ (he j - p1).toInt; omega, by show 0 ≤ (cl j + p1).toInt; omega, by show (he j - p1).toInt + (cl j + p1).toInt ≤ _; omega⟩, h_dd⟩
            have hI1 := hI.upd hn (r' := (ky j, ac j, st j, he j - p1, cl j + p1, un j, dn j, ds j, dd j, dl j)) (s' := (s.1, s.2.1, s.2.2.1 - p1, s.2.2.2.1 + ((he j - p1) - he j), s.2.2.2.2)) hiP hj rfl ea hsA rfl rfl hri rfl rfl rfl (hb_self _ _) (by show (s.2.2.1 - p1).toInt ≤ (s.2.2.1).toInt + _; omega) (by show 0 ≤ ((s.2.2.1 - p1).toInt - (s.2.2.1).toInt) + ((he j).toInt - (he j - p1).toInt) + ((lk (hb_row ky ac st he cl un dn ds dd dl j)).toInt - (lk (hb_row ky ac st he cl un dn ds dd dl j)).toInt); omega)
            rw [show aB (s.1, s.2.1, s.2.2.1 - p1, s.2.2.2.1 + ((he j - p1) - he j), s.2.2.2.2) = bal k9 - p1 from by rw [hbal]] at hI1
            exact ⟨0, _, _, tm, ((Ac.map Prod.snd).set k9 (s.1, s.2.1, s.2.2.1 - p1, s.2.2.2.1 + ((he j - p1) - he j), s.2.2.2.2)), ((Py.map Prod.snd).set i (ky j, ac j, st j, he j - p1, cl j + p1, un j, dn j, ds j, dd j, dl j)), _, _, (vp_updL bal k9 (bal k9 - p1)), mi, _, hI1, fun _ => rfl, h_clear_ok hE Mx x o _ g hc.1 hoM _ _ _ _ _ (hb_rmoI (by decide) (by decide) (by decide) (by decide)) _ (hb_Met.mono (c_Hb_clear_part hE Mx x la lp nb ra rp ho pa tm Ac Py hc hk i q _ hi a (nI k9) s hacc fa9 hkc p1 hm1 p2 hs hmu hpt.1 hpt.2) (fun v M1 q9 => ⟨q9.1, la, lp, nb, ra, rp, _, _, hc.upd (s' := (s.1, s.2.1, s.2.2.1 - p1, s.2.2.2.1 + ((he j - p1) - he j), s.2.2.2.2)) (r' := (ky j, ac j, st j, he j - p1, cl j + p1, un j, dn j, ds j, dd j, dl j)) hk hi ea ha q9.2.1 q9.2.2.1 q9.2.2.2 rfl rfl, by rw [List.map_set], by rw [List.map_set]⟩)), hb_Met.mono (c_Md_clear_part hE My y b0 b1 b2 b3 b4 b5 b6 b7 b8 b9 b10 b11 cd ho pa tm Ac.length Py.length bal mi ky ac st he cl un dn ds dd dl hm hna hnp _ j hj hpl hkm p1 hm2 p2 hs hmu hpt.1 hpt.2 k9 (by omega) ea) (fun v M1 q9 => ⟨q9.1, _, _, _, _, _, _, _, _, _, _, _, _, _, _, _, _, _, _, _, _, _, _, q9.2, by funext q9; by_cases hq : q9 = j <;> simp [hb_row, hb_uY, upd, vp_updL, hq]⟩)⟩
          · have hfi : p2 = 0 ∨ he j - p1 = 0 := by
              by_cases z1 : p2 = 0
              · exact Or.inl z1
              · exact Or.inr (Classical.byContradiction (fun z2 => hpt ⟨z1, z2⟩))
            have hpos : 0 < (hb_row ky ac st he cl un dn ds dd dl j).2.2.2.2.1 + p1 := by rw [Int64.lt_iff_toInt_lt, q64_z]; show 0 < (cl j + p1).toInt; omega
            have hpos2 : 0 < cl j + p1 := hpos
            have hri : hb_ri Ac.length tm (ky j, ac j, 3, 0, cl j + p1, 0, tm, ds j, dd j, dl j) := ⟨Or.inr ⟨k9, hk9, ea⟩, Or.inr (Or.inr rfl), fun z => absurd z (by decide : (3 : Int32) ≠ 1), fun _ => rfl, fun _ => ⟨hI.1.2.2.2.1, Int.le_refl _⟩, h_d, fun z => absurd hd0 z, h_op, ⟨(by decide : 0 ≤ (0 : Int64).toInt), by show 0 ≤ (cl j + p1).toInt; omega, by show (0 : Int64).toInt + (cl j + p1).toInt ≤ _; rw [q64_z]; omega⟩, h_dd⟩
            have hI1 := hI.upd hn (r' := (ky j, ac j, 3, 0, cl j + p1, 0, tm, ds j, dd j, dl j)) (s' := (s.1, s.2.1, s.2.2.1 - p1, (s.2.2.2.1 + ((he j - p1) - he j)) + (0 - (he j - p1)), s.2.2.2.2)) hiP hj rfl ea hsA rfl rfl hri rfl rfl (by show (s.2.2.2.1 + ((he j - p1) - he j)) + (0 - (he j - p1)) = s.2.2.2.1 + (0 - he j); grind) (hb_self _ _) (by show (s.2.2.1 - p1).toInt ≤ (s.2.2.1).toInt + _; omega) (by show 0 ≤ ((s.2.2.1 - p1).toInt - (s.2.2.1).toInt) + ((he j).toInt - (0 : Int64).toInt) + ((lk (hb_row ky ac st he cl un dn ds dd dl j)).toInt - (lk (hb_row ky ac st he cl un dn ds dd dl j)).toInt); rw [q64_z]; omega)
            rw [show aB (s.1, s.2.1, s.2.2.1 - p1, (s.2.2.2.1 + ((he j - p1) - he j)) + (0 - (he j - p1)), s.2.2.2.2) = bal k9 - p1 from by rw [hbal]] at hI1
            exact ⟨0, _, _, tm, ((Ac.map Prod.snd).set k9 (s.1, s.2.1, s.2.2.1 - p1, (s.2.2.2.1 + ((he j - p1) - he j)) + (0 - (he j - p1)), s.2.2.2.2)), ((Py.map Prod.snd).set i (ky j, ac j, 3, 0, cl j + p1, 0, tm, ds j, dd j, dl j)), _, _, (vp_updL bal k9 (bal k9 - p1)), mi, _, hI1, fun _ => rfl, h_clear_ok hE Mx x o _ g hc.1 hoM _ _ _ _ _ (hb_rmoI (by decide) (by decide) (by decide) (by decide)) _ (hb_Met.mono (c_Hb_clear_end hE Mx x la lp nb ra rp ho pa tm Ac Py hc hk i q _ hi a (nI k9) s hacc fa9 hkc p1 hm1 p2 hs hmu hfi) (fun v M1 q9 => by
          simp only [if_pos hpos] at q9
          exact ⟨q9.1, la, lp, nb, ra, rp, _, _, hc.upd (s' := (s.1, s.2.1, s.2.2.1 - p1, (s.2.2.2.1 + ((he j - p1) - he j)) + (0 - (he j - p1)), s.2.2.2.2)) (r' := (ky j, ac j, 3, 0, cl j + p1, 0, tm, ds j, dd j, dl j)) hk hi ea ha q9.2.1 q9.2.2.1 q9.2.2.2 rfl rfl, by rw [List.map_set], by rw [List.map_set]⟩)), hb_Met.mono (c_Md_clear_end hE My y b0 b1 b2 b3 b4 b5 b6 b7 b8 b9 b10 b11 cd ho pa tm Ac.length Py.length bal mi ky ac st he cl un dn ds dd dl hm hna hnp _ j hj hpl hkm p1 hm2 p2 hs hmu hfi k9 (by omega) ea) (fun v M1 q9 => ⟨q9.1, _, _, _, _, _, _, _, _, _, _, _, _, _, _, _, _, _, _, _, _, _, _, q9.2, by funext q9; by_cases hq : q9 = j <;> simp [hb_row, hb_uY, upd, vp_updL, hq, hpos2]⟩)⟩
      · exact ⟨0, _, _, tm, _, _, _, _, bal, mi, _, hI.same hn, fun _ => rfl, h_clear_ok hE Mx x o _ g hc.1 hoM _ _ _ _ _ (hb_rmoI (by decide) (by decide) (by decide) (by decide)) _ (hb_Met.mono (c_Hb_clear_st hE Mx x la lp nb ra rp ho pa tm Ac Py hc hk i q _ hi _ _ s9 rfl fa hkc p1 hm1 p2 hs) (fun v M1 q => ⟨q.1, by rw [q.2]; exact hXX⟩)), hb_Met.mono (c_Md_clear_st hE My y b0 b1 b2 b3 b4 b5 b6 b7 b8 b9 b10 b11 cd ho pa tm Ac.length Py.length bal mi ky ac st he cl un dn ds dd dl hm hna hnp _ j hj hpl hkm p1 hm2 p2 hs) (fun v M1 q => ⟨q.1, _, _, _, _, _, _, _, _, _, _, _, _, _, _, _, _, _, _, _, _, _, _, q.2, rfl⟩)⟩
    · exact ⟨0, _, _, tm, _, _, _, _, bal, mi, _, hI.same hn, fun _ => rfl, h_clear_ok hE Mx x o _ g hc.1 hoM _ _ _ _ _ (hb_rmoI (by decide) (by decide) (by decide) (by decide)) _ (hb_Met.mono (c_Hb_clear_no hE Mx x la lp nb ra rp ho pa tm Ac Py hc hk p0 (hb_snd2 hno) hkc p1 hm1 p2) (fun v M1 q => ⟨q.1, by rw [q.2]; exact hXX⟩)), hb_Met.mono (c_Md_clear_no hE My y b0 b1 b2 b3 b4 b5 b6 b7 b8 b9 b10 b11 cd ho pa tm Ac.length Py.length bal mi ky ac st he cl un dn ds dd dl hm hna hnp p0 hpl hkm p1 hm2 p2) (fun v M1 q => ⟨q.1, _, _, _, _, _, _, _, _, _, _, _, _, _, _, _, _, _, _, _, _, _, _, q.2, rfl⟩)⟩
