/-! THE TWO SIDES: funds, ask, ticks, forget, payments, audit -/
theorem hb_tn {p : Int32} (h : ¬ p < 1 ∧ ¬ 1000 < p) : ∃ nn : Nat, (1 ≤ nn ∧ nn ≤ 1000) ∧ p = nI nn := by
  simp only [Int32.lt_iff_toInt_lt, q32_1, q32_k] at h
  refine ⟨p.toInt.toNat, by omega, ?_⟩
  rw [← Int32.toInt_inj, nI_toInt (by omega)]
  omega
theorem s_funds {l : Launch} {s0 : State} {D : va_G} {cI cJ cO : ClassId} {e0 mi0 : Nat} (hE : hb_E l s0 D cI cJ cO e0 mi0) {n x y o : Nat} {ho pa tm cd : Int32} {A : List hbA} {P : List hbY} {na np : Nat} {bal mi : Nat → Int64} {f : Nat → hbY} {Mx My : hb_M} (g : Nat → Int64) (hX : hb_X cO e0 x ho pa tm A P Mx) (hV : hb_V cI cJ y cd ho pa tm na np bal mi f My) (hI : hb_I n ho pa tm A P na np bal mi f) (hn : n < 520) (hoM : Mx o = none) (p0 : Int32) (p1 : Int32) : ∃ (k : Int32) (z : Int64) (w : Int64) (tm1 : Int32) (A1 : List hbA) (P1 : List hbY) (na1 np1 : Nat) (bal1 mi1 : Nat → Int64) (f1 : Nat → hbY), hb_I (n + 1) ho pa tm1 A1 P1 na1 np1 bal1 mi1 f1 ∧ (k = 0 → z = w) ∧
    hb_MetW l D hb_cl s0 y_Law_funds b_Law_funds 5 (some .int) hh_funds hb_RH [.ref x, .int p0, .int p1, .ref o] (hb_jn Mx (hb_one o (jE cJ g))) (hb_HP cJ o k z (hb_X cO e0 x ho pa tm1 A1 P1)) ∧
    hb_Met l D hb_cl s0 y_Md_funds b_Md_funds 3 (some .long) { frames := 3, cells := 0, slots := 0, locals := 100 } [.ref y, .int p0, .int p1] My (fun v M1 => v = some (.long w) ∧ hb_V cI cJ y k ho pa tm1 na1 np1 bal1 mi1 f1 M1) := by
  have hXX := hX
  obtain ⟨la, lp, nb, ra, rp, Ac, Py, hc, rfl, rfl⟩ := hX
  obtain ⟨b0, b1, b2, b3, b4, b5, b6, b7, b8, b9, b10, b11, ky, ac, st, he, cl, un, dn, ds, dd, dl, hm, rfl⟩ := hV
  obtain ⟨rfl, rfl, hk, htb⟩ := hI.ok
  have hna := hk.1
  have hnp := hk.2.1
  by_cases hb : (p0 < 0 ∨ nI Ac.length ≤ p0) ∨ (p1 < 0 ∨ 3 < p1)
  · exact ⟨1, 0, 0, tm, _, _, _, _, bal, mi, _, hI.same hn, fun z => absurd z (by decide), h_funds_bad hE Mx x o _ g hc.1 hoM _ _ _ _ (hb_rmoI (by decide) (by decide) (by decide) (by decide)) (c_Hb_funds_bad hE Mx x la lp nb ra rp ho pa tm Ac Py hc hk p0 p1 hb) hXX, hb_Met.mono (c_Md_funds_bad hE My y b0 b1 b2 b3 b4 b5 b6 b7 b8 b9 b10 b11 cd ho pa tm Ac.length Py.length bal mi ky ac st he cl un dn ds dd dl hm hna hnp p0 p1 hb) (fun v M1 q => ⟨q.1, _, _, _, _, _, _, _, _, _, _, _, _, _, _, _, _, _, _, _, _, _, _, q.2, rfl⟩)⟩
  · obtain ⟨k9, hk9, rfl⟩ := hb_ix (p := p0) (n := Ac.length) (fun z => hb (Or.inl z)) (by omega)
    have hw : ¬ p1 < 0 ∧ ¬ 3 < p1 := ⟨fun z => hb (Or.inr (Or.inl z)), fun z => hb (Or.inr (Or.inr z))⟩
    obtain ⟨a, s, ha⟩ := hb_get2 hk9
    have hsA : (Ac.map Prod.snd)[k9]? = some s := by rw [List.getElem?_map, ha]; rfl
    obtain ⟨hai, hbal, hmi⟩ := hI.2.2.2 k9 s hsA
    have eH : hb_sm (fun p => if ac p = nI k9 then he p else 0) Py.length = s.2.2.2.1 := (hI.sumH (nI k9)).trans hai.1.symm
    have eL : hb_sm (fun p => if ac p = nI k9 ∧ (ds p = 1 ∨ ds p = 2) then dd p else 0) Py.length = s.2.2.2.2 := (hI.sumL (nI k9)).trans hai.2.1.symm
    have eB : bal k9 = s.2.2.1 := hbal
    have eM : mi k9 = s.1 := hmi
    have hM9 := c_Md_funds_ok hE My y b0 b1 b2 b3 b4 b5 b6 b7 b8 b9 b10 b11 cd ho pa tm Ac.length Py.length bal mi ky ac st he cl un dn ds dd dl hm hna hnp k9 hk9 p1 hw
    rw [eH, eL, eB, eM] at hM9
    exact ⟨0, _, _, tm, _, _, _, _, bal, mi, _, hI.same hn, fun _ => rfl, h_funds_ok hE Mx x o _ g hc.1 hoM _ _ _ _ (hb_rmoI (by decide) (by decide) (by decide) (by decide)) _ (hb_Met.mono (c_Hb_funds_ok hE Mx x la lp nb ra rp ho pa tm Ac Py hc hk k9 a s ha p1 hw) (fun v M1 q => ⟨q.1, by rw [q.2]; exact hXX⟩)), hb_Met.mono (hM9) (fun v M1 q => ⟨q.1, _, _, _, _, _, _, _, _, _, _, _, _, _, _, _, _, _, _, _, _, _, _, q.2, rfl⟩)⟩

theorem s_ask {l : Launch} {s0 : State} {D : va_G} {cI cJ cO : ClassId} {e0 mi0 : Nat} (hE : hb_E l s0 D cI cJ cO e0 mi0) {n x y o : Nat} {ho pa tm cd : Int32} {A : List hbA} {P : List hbY} {na np : Nat} {bal mi : Nat → Int64} {f : Nat → hbY} {Mx My : hb_M} (g : Nat → Int64) (hX : hb_X cO e0 x ho pa tm A P Mx) (hV : hb_V cI cJ y cd ho pa tm na np bal mi f My) (hI : hb_I n ho pa tm A P na np bal mi f) (hn : n < 520) (hoM : Mx o = none) (p0 : Int32) (p1 : Int32) (p2 : Int64) (p3 : Int32) : ∃ (k : Int32) (z : Int64) (w : Int64) (tm1 : Int32) (A1 : List hbA) (P1 : List hbY) (na1 np1 : Nat) (bal1 mi1 : Nat → Int64) (f1 : Nat → hbY), hb_I (n + 1) ho pa tm1 A1 P1 na1 np1 bal1 mi1 f1 ∧ (k = 0 → z = w) ∧
    hb_MetW l D hb_cl s0 y_Law_ask b_Law_ask 8 (some .int) hh_ask hb_RH [.ref x, .int p0, .int p1, .long p2, .int p3, .ref o] (hb_jn Mx (hb_one o (jE cJ g))) (hb_HP cJ o k z (hb_X cO e0 x ho pa tm1 A1 P1)) ∧
    hb_Met l D hb_cl s0 y_Md_ask b_Md_ask 10 (some .long) { frames := 3, cells := 0, slots := 0, locals := 100 } [.ref y, .int p0, .int p1, .long p2, .int p3] My (fun v M1 => v = some (.long w) ∧ hb_V cI cJ y k ho pa tm1 na1 np1 bal1 mi1 f1 M1) := by
  have hXX := hX
  obtain ⟨la, lp, nb, ra, rp, Ac, Py, hc, rfl, rfl⟩ := hX
  obtain ⟨b0, b1, b2, b3, b4, b5, b6, b7, b8, b9, b10, b11, ky, ac, st, he, cl, un, dn, ds, dd, dl, hm, rfl⟩ := hV
  obtain ⟨rfl, rfl, hk, htb⟩ := hI.ok
  have hna := hk.1
  have hnp := hk.2.1
  by_cases hb : (p0 < 0 ∨ 1000000 < p0) ∨ (p1 < 0 ∨ nI Ac.length ≤ p1) ∨ (p2 < 1 ∨ 1000000000000 < p2)
  · exact ⟨1, 0, 0, tm, _, _, _, _, bal, mi, _, hI.same hn, fun z => absurd z (by decide), h_ask_bad hE Mx x o _ g hc.1 hoM _ _ _ _ _ _ (hb_rmoI (by decide) (by decide) (by decide) (by decide)) (c_Hb_ask_bad hE Mx x la lp nb ra rp ho pa tm Ac Py hc hk p0 p1 p2 p3 hb) hXX, hb_Met.mono (c_Md_ask_bad hE My y b0 b1 b2 b3 b4 b5 b6 b7 b8 b9 b10 b11 cd ho pa tm Ac.length Py.length bal mi ky ac st he cl un dn ds dd dl hm hna hnp p0 p1 p2 p3 hb) (fun v M1 q => ⟨q.1, _, _, _, _, _, _, _, _, _, _, _, _, _, _, _, _, _, _, _, _, _, _, q.2, rfl⟩)⟩
  · obtain ⟨k9, hk9, rfl⟩ := hb_ix (p := p1) (n := Ac.length) (fun z => hb (Or.inr (Or.inl z))) (by omega)
    have hm1 : ¬ p2 < 1 ∧ ¬ 1000000000000 < p2 := ⟨fun z => hb (Or.inr (Or.inr (Or.inl z))), fun z => hb (Or.inr (Or.inr (Or.inr z)))⟩
    have hm2 : ¬ (p2 < 1 ∨ 1000000000000 < p2) := fun z => z.elim hm1.1 hm1.2
    have hp1 := hb_amt hm1
    have hkc : ¬ p0 < 0 ∧ ¬ 1000000 < p0 := ⟨fun z => hb (Or.inl (Or.inl z)), fun z => hb (Or.inl (Or.inr z))⟩
    have hkm : ¬ (p0 < 0 ∨ 1000000 < p0) := fun z => z.elim hkc.1 hkc.2
    obtain ⟨a, s, ha⟩ := hb_get2 hk9
    have hsA : (Ac.map Prod.snd)[k9]? = some s := by rw [List.getElem?_map, ha]; rfl
    obtain ⟨hai, hbal, hmi⟩ := hI.2.2.2 k9 s hsA
    have eH : hb_sm (fun p => if ac p = nI k9 then he p else 0) Py.length = s.2.2.2.1 := (hI.sumH (nI k9)).trans hai.1.symm
    have eL : hb_sm (fun p => if ac p = nI k9 ∧ (ds p = 1 ∨ ds p = 2) then dd p else 0) Py.length = s.2.2.2.2 := (hI.sumL (nI k9)).trans hai.2.1.symm
    have eB : bal k9 = s.2.2.1 := hbal
    have eM : mi k9 = s.1 := hmi
    rcases hI.look p0 with ⟨i, r, j, hiP, hkey, hj, er, hpl⟩ | ⟨hno, hpl⟩
    · skip
      obtain ⟨q, hi⟩ := hb_snd hiP
      subst hkey
      subst er
      obtain ⟨s9, fa⟩ := hc.acE hk hi
      have hir := hI.2.2.1 _ (List.mem_of_getElem? hiP)
      exact ⟨0, _, _, tm, _, _, _, _, bal, mi, _, hI.same hn, fun _ => rfl, h_ask_ok hE Mx x o _ g hc.1 hoM _ _ _ _ _ _ (hb_rmoI (by decide) (by decide) (by decide) (by decide)) _ (hb_Met.mono (c_Hb_ask_dbl hE Mx x la lp nb ra rp ho pa tm Ac Py hc hk i q _ hi hkc k9 a s ha p2 hm1 p3) (fun v M1 q => ⟨q.1, by rw [q.2]; exact hXX⟩)), hb_Met.mono (c_Md_ask_dbl hE My y b0 b1 b2 b3 b4 b5 b6 b7 b8 b9 b10 b11 cd ho pa tm Ac.length Py.length bal mi ky ac st he cl un dn ds dd dl hm hna hnp _ j hj hpl hkm k9 hk9 p2 hm2 p3) (fun v M1 q => ⟨q.1, _, _, _, _, _, _, _, _, _, _, _, _, _, _, _, _, _, _, _, _, _, _, q.2, rfl⟩)⟩
    · by_cases hfu : 60 ≤ Py.length
      · exact ⟨0, _, _, tm, _, _, _, _, bal, mi, _, hI.same hn, fun _ => rfl, h_ask_ok hE Mx x o _ g hc.1 hoM _ _ _ _ _ _ (hb_rmoI (by decide) (by decide) (by decide) (by decide)) _ (hb_Met.mono (c_Hb_ask_full hE Mx x la lp nb ra rp ho pa tm Ac Py hc hk p0 (hb_snd2 hno) hkc k9 a s ha p2 hm1 p3 hfu) (fun v M1 q => ⟨q.1, by rw [q.2]; exact hXX⟩)), hb_Met.mono (c_Md_ask_full hE My y b0 b1 b2 b3 b4 b5 b6 b7 b8 b9 b10 b11 cd ho pa tm Ac.length Py.length bal mi ky ac st he cl un dn ds dd dl hm hna hnp p0 hpl hkm k9 hk9 p2 hm2 p3 hfu) (fun v M1 q => ⟨q.1, _, _, _, _, _, _, _, _, _, _, _, _, _, _, _, _, _, _, _, _, _, _, q.2, rfl⟩)⟩
      · skip
        have hl9 : Py.length < 60 := by omega
        have eF : bal k9 - mi k9 - hb_sm (fun p => if ac p = nI k9 then he p else 0) Py.length - hb_sm (fun p => if ac p = nI k9 ∧ (ds p = 1 ∨ ds p = 2) then dd p else 0) Py.length = s.2.2.1 - s.1 - s.2.2.2.1 - s.2.2.2.2 := by rw [eH, eL, eB, eM]
        have hfr := hI.free hsA
        have hf1 : (s.2.2.1 - s.1 - s.2.2.2.1 - s.2.2.2.2).toInt = hb_fi (Py.map Prod.snd) (nI k9) s := hfr.1
        by_cases hok : p2 ≤ s.2.2.1 - s.1 - s.2.2.2.1 - s.2.2.2.2 ∨ (p3 ≠ 0 ∧ 0 < s.2.2.1 - s.1 - s.2.2.2.1 - s.2.2.2.2)
        · skip
          have hG : 0 ≤ (if s.2.2.1 - s.1 - s.2.2.2.1 - s.2.2.2.2 < p2 then s.2.2.1 - s.1 - s.2.2.2.1 - s.2.2.2.2 else p2).toInt ∧ (if s.2.2.1 - s.1 - s.2.2.2.1 - s.2.2.2.2 < p2 then s.2.2.1 - s.1 - s.2.2.2.1 - s.2.2.2.2 else p2).toInt ≤ 1000000000000 ∧ (if s.2.2.1 - s.1 - s.2.2.2.1 - s.2.2.2.2 < p2 then s.2.2.1 - s.1 - s.2.2.2.1 - s.2.2.2.2 else p2).toInt ≤ hb_fi (Py.map Prod.snd) (nI k9) s := by
            by_cases hlt : s.2.2.1 - s.1 - s.2.2.2.1 - s.2.2.2.2 < p2
            · rw [if_pos hlt]
              rcases hok with h1 | ⟨-, h1⟩
              · rw [Int64.le_iff_toInt_le] at h1; rw [Int64.lt_iff_toInt_lt] at hlt; omega
              · rw [Int64.lt_iff_toInt_lt, q64_z] at h1; rw [Int64.lt_iff_toInt_lt] at hlt; omega
            · rw [if_neg hlt]; rw [Int64.lt_iff_toInt_lt] at hlt; omega
          have hM9 := c_Md_ask_ok hE My y b0 b1 b2 b3 b4 b5 b6 b7 b8 b9 b10 b11 cd ho pa tm Ac.length Py.length bal mi ky ac st he cl un dn ds dd dl hm hna hnp p0 hpl hkm k9 hk9 p2 hm2 p3 hl9 (by rw [eF]; exact hok)
          rw [eF] at hM9
          exact ⟨0, _, _, tm, ((Ac.map Prod.snd).set k9 (s.1, s.2.1, s.2.2.1, s.2.2.2.1 + ((if s.2.2.1 - s.1 - s.2.2.2.1 - s.2.2.2.2 < p2 then s.2.2.1 - s.1 - s.2.2.2.1 - s.2.2.2.2 else p2) - 0), s.2.2.2.2)), ((Py.map Prod.snd).insertIdx (hb_ps (Py.map Prod.snd) p0) (p0, nI k9, 1, (if s.2.2.1 - s.1 - s.2.2.2.1 - s.2.2.2.2 < p2 then s.2.2.1 - s.1 - s.2.2.2.1 - s.2.2.2.2 else p2), 0, tm + ho, -1, 0, 0, -1)), _, (Py.length + 1), bal, mi, _, hI.ask hn hl9 hno hsA hG.1 hG.2.1 hG.2.2, fun _ => rfl, h_ask_ok hE Mx x o _ g hc.1 hoM _ _ _ _ _ _ (hb_rmoI (by decide) (by decide) (by decide) (by decide)) _ (hb_Met.mono (c_Hb_ask_ok hE Mx x la lp nb ra rp ho pa tm Ac Py hc hk p0 (hb_snd2 hno) hkc k9 a s ha p2 hm1 p3 hl9 hok) (fun v M1 q9 => ⟨q9.1, by obtain ⟨p9, rp1, h9⟩ := q9.2; exact ⟨la, lp, nb, ra, rp1, _, _, h9, by rw [List.map_set], by rw [hb_map_ins2, hb_pos_ps]⟩⟩)), hb_Met.mono (hM9) (fun v M1 q9 => ⟨q9.1, _, _, _, _, _, _, _, _, _, _, _, _, _, _, _, _, _, _, _, _, _, _, q9.2, by funext q9; by_cases hq : q9 = Py.length <;> simp [hb_row, hb_uY, upd, vp_updL, hq]⟩)⟩
        · have hpo : ¬ p2 ≤ s.2.2.1 - s.1 - s.2.2.2.1 - s.2.2.2.2 := fun z => hok (Or.inl z)
          have hpp : p3 = 0 ∨ ¬ 0 < s.2.2.1 - s.1 - s.2.2.2.1 - s.2.2.2.2 := by
            by_cases z : p3 = 0
            · exact Or.inl z
            · exact Or.inr (fun w => hok (Or.inr ⟨z, w⟩))
          exact ⟨0, _, _, tm, _, _, _, _, bal, mi, _, hI.same hn, fun _ => rfl, h_ask_ok hE Mx x o _ g hc.1 hoM _ _ _ _ _ _ (hb_rmoI (by decide) (by decide) (by decide) (by decide)) _ (hb_Met.mono (c_Hb_ask_poor hE Mx x la lp nb ra rp ho pa tm Ac Py hc hk p0 (hb_snd2 hno) hkc k9 a s ha p2 hm1 p3 hl9 hpo hpp) (fun v M1 q => ⟨q.1, by rw [q.2]; exact hXX⟩)), hb_Met.mono (c_Md_ask_poor hE My y b0 b1 b2 b3 b4 b5 b6 b7 b8 b9 b10 b11 cd ho pa tm Ac.length Py.length bal mi ky ac st he cl un dn ds dd dl hm hna hnp p0 hpl hkm k9 hk9 p2 hm2 p3 hl9 (by rw [eF]; exact hpo) (by rw [eF]; exact hpp)) (fun v M1 q => ⟨q.1, _, _, _, _, _, _, _, _, _, _, _, _, _, _, _, _, _, _, _, _, _, _, q.2, rfl⟩)⟩

theorem s_ticks {l : Launch} {s0 : State} {D : va_G} {cI cJ cO : ClassId} {e0 mi0 : Nat} (hE : hb_E l s0 D cI cJ cO e0 mi0) {n x y o : Nat} {ho pa tm cd : Int32} {A : List hbA} {P : List hbY} {na np : Nat} {bal mi : Nat → Int64} {f : Nat → hbY} {Mx My : hb_M} (g : Nat → Int64) (hX : hb_X cO e0 x ho pa tm A P Mx) (hV : hb_V cI cJ y cd ho pa tm na np bal mi f My) (hI : hb_I n ho pa tm A P na np bal mi f) (hn : n < 520) (hoM : Mx o = none) (p0 : Int32) : ∃ (k : Int32) (z : Int64) (w : Int32) (tm1 : Int32) (A1 : List hbA) (P1 : List hbY) (na1 np1 : Nat) (bal1 mi1 : Nat → Int64) (f1 : Nat → hbY), hb_I (n + 1) ho pa tm1 A1 P1 na1 np1 bal1 mi1 f1 ∧ (k = 0 → z = w.toInt64) ∧
    hb_MetW l D hb_cl s0 y_Law_ticks b_Law_ticks 4 (some .int) hh_ticks hb_RH [.ref x, .int p0, .ref o] (hb_jn Mx (hb_one o (jE cJ g))) (hb_HP cJ o k z (hb_X cO e0 x ho pa tm1 A1 P1)) ∧
    hb_Met l D hb_cl s0 y_Md_ticks b_Md_ticks 5 (some .int) { frames := 3, cells := 0, slots := 0, locals := 100 } [.ref y, .int p0] My (fun v M1 => v = some (.int w) ∧ hb_V cI cJ y k ho pa tm1 na1 np1 bal1 mi1 f1 M1) := by
  have hXX := hX
  obtain ⟨la, lp, nb, ra, rp, Ac, Py, hc, rfl, rfl⟩ := hX
  obtain ⟨b0, b1, b2, b3, b4, b5, b6, b7, b8, b9, b10, b11, ky, ac, st, he, cl, un, dn, ds, dd, dl, hm, rfl⟩ := hV
  obtain ⟨rfl, rfl, hk, htb⟩ := hI.ok
  have hna := hk.1
  have hnp := hk.2.1
  by_cases hb : p0 < 1 ∨ 1000 < p0
  · exact ⟨1, 0, 0, tm, _, _, _, _, bal, mi, _, hI.same hn, fun z => absurd z (by decide), h_ticks_bad hE Mx x o _ g hc.1 hoM _ _ _ (hb_rmoI (by decide) (by decide) (by decide) (by decide)) (c_Hb_ticks_iae hE Mx x la lp nb ra rp ho pa tm Ac Py hc hk p0 hb) hXX, hb_Met.mono (c_Md_ticks_bad hE My y b0 b1 b2 b3 b4 b5 b6 b7 b8 b9 b10 b11 cd ho pa tm Ac.length Py.length bal mi ky ac st he cl un dn ds dd dl hm hna hnp p0 hb) (fun v M1 q => ⟨q.1, _, _, _, _, _, _, _, _, _, _, _, _, _, _, _, _, _, _, _, _, _, _, q.2, rfl⟩)⟩
  · have hn1 : ¬ p0 < 1 ∧ ¬ 1000 < p0 := ⟨fun z => hb (Or.inl z), fun z => hb (Or.inr z)⟩
    obtain ⟨nn, hnn, e9⟩ := hb_tn hn1
    subst e9
    by_cases hti : 1000000 < tm + nI nn
    · exact ⟨2, 0, 0, tm, _, _, _, _, bal, mi, _, hI.same hn, fun z => absurd z (by decide), h_ticks_ise hE Mx x o _ g hc.1 hoM _ _ _ (hb_rmoI (by decide) (by decide) (by decide) (by decide)) (c_Hb_ticks_ise hE Mx x la lp nb ra rp ho pa tm Ac Py hc hk (nI nn) hn1 hti) hXX, hb_Met.mono (c_Md_ticks_ise hE My y b0 b1 b2 b3 b4 b5 b6 b7 b8 b9 b10 b11 cd ho pa tm Ac.length Py.length bal mi ky ac st he cl un dn ds dd dl hm hna hnp nn hnn.1 hnn.2 hti) (fun v M1 q => ⟨q.1, _, _, _, _, _, _, _, _, _, _, _, _, _, _, _, _, _, _, _, _, _, _, q.2, rfl⟩)⟩
    · skip
      have hT : tm.toInt + nn ≤ 1000000 := by
        have h1 := hti
        have e1 := nI_toInt (n := nn) (by omega)
        rw [Int32.lt_iff_toInt_lt, q32_m, q32_add (by rw [e1]; have := hI.1; omega) (by rw [e1]; have := hI.1; omega), e1] at h1
        omega
      obtain ⟨t1, t2, t3⟩ := hb_tk_run (T := tm + nI nn) hk htb Py.length (Nat.le_refl _)
      rw [List.take_of_length_le (by rw [List.length_map]; exact Nat.le_refl _), List.drop_of_length_le (by rw [List.length_map]; exact Nat.le_refl _), List.append_nil] at t1
      have hA1 : ∀ c s', ((hb_tk (tm + nI nn) (Ac, Py) Py.length).1.map Prod.snd)[c]? = some s' → ∃ s, (Ac.map Prod.snd)[c]? = some s ∧ s' = hb_ta (tm + nI nn) (nI c) (Py.map Prod.snd) s := by
        intro c s' hc'
        have hcl : c < Ac.length := by
          have h1 := (List.getElem?_eq_some_iff.mp hc').1
          rw [List.length_map, t2] at h1
          exact h1
        obtain ⟨a, s, ha⟩ := hb_get2 hcl
        have h9 := t3 c a s ha
        rw [List.take_of_length_le (by rw [List.length_map]; exact Nat.le_refl _)] at h9
        rw [List.getElem?_map, h9] at hc'
        exact ⟨s, by rw [List.getElem?_map, ha]; rfl, (Option.some.inj hc').symm⟩
      have hfd : hb_fd Py.length (bal, hb_row ky ac st he cl un dn ds dd dl) := fun p hp hd => by
        have hm9 := hI.2.1.2.2.2.2.mem_iff.mpr (List.mem_of_getElem? (hb_rl_at hp))
        have hne : yD (hb_row ky ac st he cl un dn ds dd dl p) ≠ 0 := fun z => by
          rcases hd with y | y
          · exact absurd (z.symm.trans y) (by decide)
          · exact absurd (z.symm.trans y) (by decide)
        obtain ⟨k, h1, h2⟩ := (hI.2.2.1 _ hm9).ac (Or.inr hne)
        exact ⟨k, by omega, h2⟩
      exact ⟨0, _, _, (tm + nI nn), ((hb_tk (tm + nI nn) (Ac, Py) Py.length).1.map Prod.snd), ((Py.map Prod.snd).map (hb_pr (tm + nI nn))), Ac.length, Py.length, (hb_rn tm (bal, hb_row ky ac st he cl un dn ds dd dl) Py.length nn).1, mi, (hb_rn tm (bal, hb_row ky ac st he cl un dn ds dd dl) Py.length nn).2, hI.ticks hn hT (by rw [List.length_map, t2]) hA1, fun _ => rfl, h_ticks_ok hE Mx x o _ g hc.1 hoM _ _ _ (hb_rmoI (by decide) (by decide) (by decide) (by decide)) _ (hb_Met.mono (c_Hb_ticks_ok hE Mx x la lp nb ra rp ho pa tm Ac Py hc hk htb (nI nn) hn1 hti) (fun v M1 q9 => ⟨q9.1, la, lp, nb, ra, rp, _, _, q9.2, rfl, t1⟩)), hb_Met.mono (c_Md_ticks_ok hE My y b0 b1 b2 b3 b4 b5 b6 b7 b8 b9 b10 b11 cd ho pa tm Ac.length Py.length bal mi ky ac st he cl un dn ds dd dl hm hna hnp nn hnn.1 hnn.2 hti hfd) (fun v M1 q9 => by obtain ⟨q1, bal1, st1, he1, un1, dn1, ds1, dl1, q2, q3⟩ := q9; exact ⟨q1, b0, b1, b2, b3, b4, b5, b6, b7, b8, b9, b10, b11, ky, ac, st1, he1, cl, un1, dn1, ds1, dd, dl1, by rw [← q3]; exact q2, by rw [← q3]⟩)⟩

theorem s_forget {l : Launch} {s0 : State} {D : va_G} {cI cJ cO : ClassId} {e0 mi0 : Nat} (hE : hb_E l s0 D cI cJ cO e0 mi0) {n x y : Nat} {ho pa tm cd : Int32} {A : List hbA} {P : List hbY} {na np : Nat} {bal mi : Nat → Int64} {f : Nat → hbY} {Mx My : hb_M} (hX : hb_X cO e0 x ho pa tm A P Mx) (hV : hb_V cI cJ y cd ho pa tm na np bal mi f My) (hI : hb_I n ho pa tm A P na np bal mi f) (hn : n < 520) : ∃ (w : Int32) (P1 : List hbY) (np1 : Nat) (f1 : Nat → hbY), hb_I (n + 1) ho pa tm A P1 na np1 bal mi f1 ∧
    hb_Met l D hb_cl s0 y_Hb_forget b_Hb_forget 3 (some .int) { frames := 3, cells := 0, slots := 0, locals := 106 } [.ref x] Mx (fun v M1 => v = some (.int w) ∧ hb_X cO e0 x ho pa tm A P1 M1) ∧
    hb_Met l D hb_cl s0 y_Md_forget b_Md_forget 3 (some .int) { frames := 3, cells := 0, slots := 0, locals := 100 } [.ref y] My (fun v M1 => v = some (.int w) ∧ hb_V cI cJ y 0 ho pa tm na np1 bal mi f1 M1) := by
  have hXX := hX
  obtain ⟨la, lp, nb, ra, rp, Ac, Py, hc, rfl, rfl⟩ := hX
  obtain ⟨b0, b1, b2, b3, b4, b5, b6, b7, b8, b9, b10, b11, ky, ac, st, he, cl, un, dn, ds, dd, dl, hm, rfl⟩ := hV
  obtain ⟨rfl, rfl, hk, htb⟩ := hI.ok
  have hna := hk.1
  have hnp := hk.2.1
  obtain ⟨g1, g2, g3⟩ := hI.forget hn
  have e1 : (hb_kl pa tm Py).map Prod.snd = (Py.map Prod.snd).filter (fun r => !decide (hb_over pa tm r)) := by
    rw [List.filter_map]
    rfl
  have e2 : (hb_kl pa tm Py).length = (hb_fn pa tm (hb_row ky ac st he cl un dn ds dd dl, 0) Py.length).2 := by
    rw [← g2, ← e1, List.length_map]
  refine ⟨_, _, _, _, g1, hb_Met.mono (c_Hb_forget hE Mx x la lp nb ra rp ho pa tm Ac Py hc hk) (fun v M1 q9 => ⟨q9.1, la, lp, nb, ra, rp, _, _, q9.2, rfl, e1⟩), hb_Met.mono (c_Md_forget hE My y b0 b1 b2 b3 b4 b5 b6 b7 b8 b9 b10 b11 cd ho pa tm Ac.length Py.length bal mi ky ac st he cl un dn ds dd dl hm hna hnp) (fun v M1 q9 => ?_)⟩
  obtain ⟨lf, ky1, ac1, st1, he1, cl1, un1, dn1, ds1, dd1, dl1, q1, q2, q3⟩ := q9
  have e3 : lf = (hb_fn pa tm (hb_row ky ac st he cl un dn ds dd dl, 0) Py.length).2 := congrArg Prod.snd q3
  have e4 : hb_row ky1 ac1 st1 he1 cl1 un1 dn1 ds1 dd1 dl1 = (hb_fn pa tm (hb_row ky ac st he cl un dn ds dd dl, 0) Py.length).1 := congrArg Prod.fst q3
  refine ⟨?_, b0, b1, b2, b3, b4, b5, b6, b7, b8, b9, b10, b11, ky1, ac1, st1, he1, cl1, un1, dn1, ds1, dd1, dl1, by rw [← e3]; exact q2, e4⟩
  rw [q1, e2, ← e3, hb_nI_sub (by rw [e3]; exact g3)]

theorem s_payments {l : Launch} {s0 : State} {D : va_G} {cI cJ cO : ClassId} {e0 mi0 : Nat} (hE : hb_E l s0 D cI cJ cO e0 mi0) {n x y : Nat} {ho pa tm cd : Int32} {A : List hbA} {P : List hbY} {na np : Nat} {bal mi : Nat → Int64} {f : Nat → hbY} {Mx My : hb_M} (hX : hb_X cO e0 x ho pa tm A P Mx) (hV : hb_V cI cJ y cd ho pa tm na np bal mi f My) (hI : hb_I n ho pa tm A P na np bal mi f) (hn : n < 520) : ∃ (w : Int32) (P1 : List hbY) (np1 : Nat) (f1 : Nat → hbY), hb_I (n + 1) ho pa tm A P1 na np1 bal mi f1 ∧
    hb_Met l D hb_cl s0 y_Hb_payments b_Hb_payments 1 (some .int) { frames := 1, cells := 0, slots := 0, locals := 20 } [.ref x] Mx (fun v M1 => v = some (.int w) ∧ hb_X cO e0 x ho pa tm A P1 M1) ∧
    hb_Met l D hb_cl s0 y_Md_payments b_Md_payments 1 (some .int) { frames := 0, cells := 0, slots := 0, locals := 0 } [.ref y] My (fun v M1 => v = some (.int w) ∧ hb_V cI cJ y 0 ho pa tm na np1 bal mi f1 M1) := by
  have hXX := hX
  obtain ⟨la, lp, nb, ra, rp, Ac, Py, hc, rfl, rfl⟩ := hX
  obtain ⟨b0, b1, b2, b3, b4, b5, b6, b7, b8, b9, b10, b11, ky, ac, st, he, cl, un, dn, ds, dd, dl, hm, rfl⟩ := hV
  obtain ⟨rfl, rfl, hk, htb⟩ := hI.ok
  have hna := hk.1
  have hnp := hk.2.1
  exact ⟨_, _, _, _, hI.same hn, hb_Met.mono (c_Hb_payments hE Mx x la lp nb ra rp ho pa tm Ac Py hc hk) (fun v M1 q => ⟨q.1, by rw [q.2]; exact hXX⟩), hb_Met.mono (c_Md_payments hE My y b0 b1 b2 b3 b4 b5 b6 b7 b8 b9 b10 b11 cd ho pa tm Ac.length Py.length bal mi ky ac st he cl un dn ds dd dl hm hna hnp) (fun v M1 q => ⟨q.1, _, _, _, _, _, _, _, _, _, _, _, _, _, _, _, _, _, _, _, _, _, _, q.2, rfl⟩)⟩

theorem s_audit {l : Launch} {s0 : State} {D : va_G} {cI cJ cO : ClassId} {e0 mi0 : Nat} (hE : hb_E l s0 D cI cJ cO e0 mi0) {n x y : Nat} {ho pa tm cd : Int32} {A : List hbA} {P : List hbY} {na np : Nat} {bal mi : Nat → Int64} {f : Nat → hbY} {Mx My : hb_M} (hX : hb_X cO e0 x ho pa tm A P Mx) (hV : hb_V cI cJ y cd ho pa tm na np bal mi f My) (hI : hb_I n ho pa tm A P na np bal mi f) (hn : n < 520) : ∃ (w : Int32) (P1 : List hbY) (np1 : Nat) (f1 : Nat → hbY), hb_I (n + 1) ho pa tm A P1 na np1 bal mi f1 ∧
    hb_Met l D hb_cl s0 y_Hb_audit b_Hb_audit 4 (some .int) { frames := 4, cells := 0, slots := 0, locals := 91 } [.ref x] Mx (fun v M1 => v = some (.int w) ∧ hb_X cO e0 x ho pa tm A P1 M1) ∧
    hb_Met l D hb_cl s0 y_Md_audit b_Md_audit 1 (some .int) { frames := 0, cells := 0, slots := 0, locals := 0 } [.ref y] My (fun v M1 => v = some (.int w) ∧ hb_V cI cJ y 0 ho pa tm na np1 bal mi f1 M1) := by
  have hXX := hX
  obtain ⟨la, lp, nb, ra, rp, Ac, Py, hc, rfl, rfl⟩ := hX
  obtain ⟨b0, b1, b2, b3, b4, b5, b6, b7, b8, b9, b10, b11, ky, ac, st, he, cl, un, dn, ds, dd, dl, hm, rfl⟩ := hV
  obtain ⟨rfl, rfl, hk, htb⟩ := hI.ok
  have hna := hk.1
  have hnp := hk.2.1
  have hall : ∀ (i a : Nat) (s : hbA), Ac[i]? = some (a, s) → (hb_sm (hb_fh Py (nI i)) Py.length = s.2.2.2.1 ∧ hb_sm (hb_fl Py (nI i)) Py.length = s.2.2.2.2) ∧ ¬ ((s.2.2.1 - s.1 - s.2.2.2.1 - s.2.2.2.2) < 0 ∧ (s.2.2.1 - s.1 - s.2.2.2.1 - s.2.2.2.2) < s.2.1) := by
    intro i a s ha
    have hsA : (Ac.map Prod.snd)[i]? = some s := by rw [List.getElem?_map, ha]; rfl
    obtain ⟨hai, -, -⟩ := hI.2.2.2 i s hsA
    exact ⟨⟨(hb_cls_sumH (nI i)).trans hai.1.symm, (hb_cls_sumL (nI i)).trans hai.2.1.symm⟩, hI.audit hsA⟩
  exact ⟨_, _, _, _, hI.same hn, hb_Met.mono (c_Hb_audit hE Mx x la lp nb ra rp ho pa tm Ac Py hc hk hall) (fun v M1 q => ⟨q.1, by rw [q.2]; exact hXX⟩), hb_Met.mono (c_Md_audit hE My y b0 b1 b2 b3 b4 b5 b6 b7 b8 b9 b10 b11 cd ho pa tm Ac.length Py.length bal mi ky ac st he cl un dn ds dd dl hm hna hnp) (fun v M1 q => ⟨q.1, _, _, _, _, _, _, _, _, _, _, _, _, _, _, _, _, _, _, _, _, _, _, q.2, rfl⟩)⟩
