/-! THE TWO SIDES, CALL BY CALL -/
def hb_X (cO : ClassId) (e0 x : Nat) (ho pa tm : Int32) (A : List hbA) (P : List hbY) (Mx : hb_M) : Prop := ∃ (la lp nb ra rp : Nat) (Ac : List (Nat × hbA)) (Py : List (Nat × hbY)), cR cO e0 Mx x la lp nb ra rp ho pa tm Ac Py ∧ Ac.map Prod.snd = A ∧ Py.map Prod.snd = P
def hb_V (cI cJ : ClassId) (y : Nat) (cd ho pa tm : Int32) (na np : Nat) (bal mi : Nat → Int64) (f : Nat → hbY) (My : hb_M) : Prop := ∃ (b0 b1 b2 b3 b4 b5 b6 b7 b8 b9 b10 b11 : Nat) (ky ac st : Nat → Int32) (he cl : Nat → Int64) (un dn ds : Nat → Int32) (dd : Nat → Int64) (dl : Nat → Int32), mR cI cJ My y b0 b1 b2 b3 b4 b5 b6 b7 b8 b9 b10 b11 cd ho pa tm na np bal mi ky ac st he cl un dn ds dd dl ∧ hb_row ky ac st he cl un dn ds dd dl = f
theorem hb_I.ok {n : Nat} {ho pa tm : Int32} {Ac : List (Nat × hbA)} {Py : List (Nat × hbY)} {na np : Nat} {bal mi : Nat → Int64} {f : Nat → hbY} (h : hb_I n ho pa tm (Ac.map Prod.snd) (Py.map Prod.snd) na np bal mi f) : na = Ac.length ∧ np = Py.length ∧ cOK Ac Py ∧ hb_tomb Py := by
  have h1 := h.2.1.1
  have h2 := h.len
  rw [List.length_map] at h1 h2
  refine ⟨h1.symm, h2.symm, ⟨by rw [h1]; exact h.2.1.2.1, by rw [h2]; exact h.2.1.2.2.1, ?_, ?_⟩, ?_⟩
  · have := h.2.1.2.2.2.1
    rw [List.pairwise_map] at this
    exact this
  · intro q hq
    rcases (h.2.2.1 q.2 (List.mem_map_of_mem hq)).1 with z | ⟨k, z1, z2⟩
    · exact Or.inl z.1
    · exact Or.inr ⟨k, by omega, z2⟩
  · intro q hq hm
    rcases (h.2.2.1 q.2 (List.mem_map_of_mem hq)).1 with z | ⟨k, z1, z2⟩
    · exact z.2
    · exact absurd (z2.symm.trans hm) (hb_m1 (by have := h.2.1.2.1; omega))
theorem hb_snd {L : List (Nat × hbY)} {i : Nat} {r : hbY} (h : (L.map Prod.snd)[i]? = some r) : ∃ q, L[i]? = some (q, r) := by
  rw [List.getElem?_map] at h
  cases hp : L[i]? with
  | none => rw [hp] at h; cases h
  | some q => rw [hp] at h; cases h; exact ⟨q.1, rfl⟩
theorem hb_snd2 {L : List (Nat × hbY)} {k : Int32} (h : ∀ r ∈ L.map Prod.snd, r.1 ≠ k) : ∀ (i q : Nat) (r : hbY), L[i]? = some (q, r) → r.1 ≠ k := fun i q r hi => h r (by
  have := List.mem_map_of_mem (f := Prod.snd) (List.mem_of_getElem? hi)
  exact this)
theorem hb_ix {p : Int32} {n : Nat} (h : ¬ (p < 0 ∨ nI n ≤ p)) (hn : n ≤ 100) : ∃ k, k < n ∧ p = nI k := by
  have h1 : ¬ p < 0 := fun z => h (Or.inl z)
  have h2 : ¬ nI n ≤ p := fun z => h (Or.inr z)
  rw [Int32.lt_iff_toInt_lt, q32_z] at h1
  rw [Int32.le_iff_toInt_le, nI_toInt (by omega)] at h2
  refine ⟨p.toInt.toNat, by omega, ?_⟩
  rw [← Int32.toInt_inj, nI_toInt (by omega)]
  omega
theorem hb_updsame {f : Nat → Int64} {k : Nat} {v : Int64} (h : f k = v) : vp_updL f k v = f := by
  funext q
  unfold vp_updL
  by_cases hq : q = k
  · rw [if_pos hq, hq, h]
  · rw [if_neg hq]
theorem hb_rmoI {a b c d : Nat} (h1 : a ≤ 9) (h2 : b ≤ 2) (h3 : c ≤ 120) (h4 : d ≤ 315) : hb_rmo { frames := a, cells := b, slots := c, locals := d } := ⟨h1, h2, h3, h4⟩
theorem s_account {l : Launch} {s0 : State} {D : va_G} {cI cJ cO : ClassId} {e0 mi0 : Nat} (hE : hb_E l s0 D cI cJ cO e0 mi0) {n x y o : Nat} {ho pa tm cd : Int32} {A : List hbA} {P : List hbY} {na np : Nat} {bal mi : Nat → Int64} {f : Nat → hbY} {Mx My : hb_M} (g : Nat → Int64) (hX : hb_X cO e0 x ho pa tm A P Mx) (hV : hb_V cI cJ y cd ho pa tm na np bal mi f My) (hI : hb_I n ho pa tm A P na np bal mi f) (hn : n < 520) (hoM : Mx o = none) (p0 : Int64) (p1 : Int64) : ∃ (k : Int32) (z : Int64) (w : Int32) (tm1 : Int32) (A1 : List hbA) (P1 : List hbY) (na1 np1 : Nat) (bal1 mi1 : Nat → Int64) (f1 : Nat → hbY), hb_I (n + 1) ho pa tm1 A1 P1 na1 np1 bal1 mi1 f1 ∧ (k = 0 → z = w.toInt64) ∧
    hb_MetW l D hb_cl s0 y_Law_account b_Law_account 7 (some .int) hh_account hb_RH [.ref x, .long p0, .long p1, .ref o] (hb_jn Mx (hb_one o (jE cJ g))) (hb_HP cJ o k z (hb_X cO e0 x ho pa tm1 A1 P1)) ∧
    hb_Met l D hb_cl s0 y_Md_account b_Md_account 6 (some .int) { frames := 3, cells := 0, slots := 0, locals := 100 } [.ref y, .long p0, .long p1] My (fun v M1 => v = some (.int w) ∧ hb_V cI cJ y k ho pa tm1 na1 np1 bal1 mi1 f1 M1) := by
  have hXX := hX
  obtain ⟨la, lp, nb, ra, rp, Ac, Py, hc, rfl, rfl⟩ := hX
  obtain ⟨b0, b1, b2, b3, b4, b5, b6, b7, b8, b9, b10, b11, ky, ac, st, he, cl, un, dn, ds, dd, dl, hm, rfl⟩ := hV
  obtain ⟨rfl, rfl, hk, htb⟩ := hI.ok
  have hna := hk.1
  have hnp := hk.2.1
  by_cases hg : (¬ p0 < -1000000000000 ∧ ¬ 1000000000000 < p0) ∧ (¬ p1 < -1000000000000 ∧ ¬ 0 < p1)
  · by_cases hl : Ac.length < 16
    · exact ⟨0, _, (nI Ac.length), tm, (Ac.map Prod.snd ++ [(p1, p0 - p1, p0, 0, 0)]), _, (Ac.length + 1), _, (vp_updL bal Ac.length p0), (vp_updL mi Ac.length p1), _, hI.acc hn hl hg.1 hg.2, fun _ => rfl, h_account_ok hE Mx x o _ g hc.1 hoM _ _ _ _ (hb_rmoI (by decide) (by decide) (by decide) (by decide)) _ (hb_Met.mono (c_Hb_account_ok hE Mx x la lp nb ra rp ho pa tm Ac Py hc hk p0 p1 hg.1 hg.2 hl) (fun v M1 q => ⟨q.1, by obtain ⟨a0, ra1, h9⟩ := q.2; exact ⟨la, lp, nb, ra1, rp, _, _, h9, by rw [List.map_append]; rfl, rfl⟩⟩)), hb_Met.mono (c_Md_account_ok hE My y b0 b1 b2 b3 b4 b5 b6 b7 b8 b9 b10 b11 cd ho pa tm Ac.length Py.length bal mi ky ac st he cl un dn ds dd dl hm hna hnp p0 p1 hg.1 hg.2 hl) (fun v M1 q => ⟨q.1, _, _, _, _, _, _, _, _, _, _, _, _, _, _, _, _, _, _, _, _, _, _, q.2, rfl⟩)⟩
    · exact ⟨2, 0, 0, tm, _, _, _, _, bal, mi, _, hI.same hn, fun z => absurd z (by decide), h_account_ise hE Mx x o _ g hc.1 hoM _ _ _ _ (hb_rmoI (by decide) (by decide) (by decide) (by decide)) (c_Hb_account_ise hE Mx x la lp nb ra rp ho pa tm Ac Py hc hk p0 p1 hg.1 hg.2 (by omega)) hXX, hb_Met.mono (c_Md_account_ise hE My y b0 b1 b2 b3 b4 b5 b6 b7 b8 b9 b10 b11 cd ho pa tm Ac.length Py.length bal mi ky ac st he cl un dn ds dd dl hm hna hnp p0 p1 hg.1 hg.2 (by omega)) (fun v M1 q => ⟨q.1, _, _, _, _, _, _, _, _, _, _, _, _, _, _, _, _, _, _, _, _, _, _, q.2, rfl⟩)⟩
  · exact ⟨1, 0, 0, tm, _, _, _, _, bal, mi, _, hI.same hn, fun z => absurd z (by decide), h_account_bad hE Mx x o _ g hc.1 hoM _ _ _ _ (hb_rmoI (by decide) (by decide) (by decide) (by decide)) (c_Hb_account_iae hE Mx x la lp nb ra rp ho pa tm Ac Py hc hk p0 p1 hg) hXX, hb_Met.mono (c_Md_account_bad hE My y b0 b1 b2 b3 b4 b5 b6 b7 b8 b9 b10 b11 cd ho pa tm Ac.length Py.length bal mi ky ac st he cl un dn ds dd dl hm hna hnp p0 p1 hg) (fun v M1 q => ⟨q.1, _, _, _, _, _, _, _, _, _, _, _, _, _, _, _, _, _, _, _, _, _, _, q.2, rfl⟩)⟩

theorem s_payment {l : Launch} {s0 : State} {D : va_G} {cI cJ cO : ClassId} {e0 mi0 : Nat} (hE : hb_E l s0 D cI cJ cO e0 mi0) {n x y o : Nat} {ho pa tm cd : Int32} {A : List hbA} {P : List hbY} {na np : Nat} {bal mi : Nat → Int64} {f : Nat → hbY} {Mx My : hb_M} (g : Nat → Int64) (hX : hb_X cO e0 x ho pa tm A P Mx) (hV : hb_V cI cJ y cd ho pa tm na np bal mi f My) (hI : hb_I n ho pa tm A P na np bal mi f) (hn : n < 520) (hoM : Mx o = none) (p0 : Int32) (p1 : Int32) : ∃ (k : Int32) (z : Int64) (w : Int64) (tm1 : Int32) (A1 : List hbA) (P1 : List hbY) (na1 np1 : Nat) (bal1 mi1 : Nat → Int64) (f1 : Nat → hbY), hb_I (n + 1) ho pa tm1 A1 P1 na1 np1 bal1 mi1 f1 ∧ (k = 0 → z = w) ∧
    hb_MetW l D hb_cl s0 y_Law_payment b_Law_payment 5 (some .int) hh_payment hb_RH [.ref x, .int p0, .int p1, .ref o] (hb_jn Mx (hb_one o (jE cJ g))) (hb_HP cJ o k z (hb_X cO e0 x ho pa tm1 A1 P1)) ∧
    hb_Met l D hb_cl s0 y_Md_payment b_Md_payment 4 (some .long) { frames := 3, cells := 0, slots := 0, locals := 100 } [.ref y, .int p0, .int p1] My (fun v M1 => v = some (.long w) ∧ hb_V cI cJ y k ho pa tm1 na1 np1 bal1 mi1 f1 M1) := by
  have hXX := hX
  obtain ⟨la, lp, nb, ra, rp, Ac, Py, hc, rfl, rfl⟩ := hX
  obtain ⟨b0, b1, b2, b3, b4, b5, b6, b7, b8, b9, b10, b11, ky, ac, st, he, cl, un, dn, ds, dd, dl, hm, rfl⟩ := hV
  obtain ⟨rfl, rfl, hk, htb⟩ := hI.ok
  have hna := hk.1
  have hnp := hk.2.1
  by_cases hb : (p0 < 0 ∨ 1000000 < p0) ∨ (p1 < 0 ∨ 8 < p1)
  · exact ⟨1, 0, 0, tm, _, _, _, _, bal, mi, _, hI.same hn, fun z => absurd z (by decide), h_payment_bad hE Mx x o _ g hc.1 hoM _ _ _ _ (hb_rmoI (by decide) (by decide) (by decide) (by decide)) (c_Hb_payment_bad hE Mx x la lp nb ra rp ho pa tm Ac Py hc hk p0 p1 hb) hXX, hb_Met.mono (c_Md_payment_bad hE My y b0 b1 b2 b3 b4 b5 b6 b7 b8 b9 b10 b11 cd ho pa tm Ac.length Py.length bal mi ky ac st he cl un dn ds dd dl hm hna hnp p0 p1 hb) (fun v M1 q => ⟨q.1, _, _, _, _, _, _, _, _, _, _, _, _, _, _, _, _, _, _, _, _, _, _, q.2, rfl⟩)⟩
  · have hw : ¬ p1 < 0 ∧ ¬ 8 < p1 := ⟨fun z => hb (Or.inr (Or.inl z)), fun z => hb (Or.inr (Or.inr z))⟩
    have hkc : ¬ p0 < 0 ∧ ¬ 1000000 < p0 := ⟨fun z => hb (Or.inl (Or.inl z)), fun z => hb (Or.inl (Or.inr z))⟩
    have hkm : ¬ (p0 < 0 ∨ 1000000 < p0) := fun z => z.elim hkc.1 hkc.2
    rcases hI.look p0 with ⟨i, r, j, hiP, hkey, hj, er, hpl⟩ | ⟨hno, hpl⟩
    · skip
      obtain ⟨q, hi⟩ := hb_snd hiP
      subst hkey
      subst er
      obtain ⟨s9, fa⟩ := hc.acE hk hi
      have hir := hI.2.2.1 _ (List.mem_of_getElem? hiP)
      exact ⟨0, _, _, tm, _, _, _, _, bal, mi, _, hI.same hn, fun _ => rfl, h_payment_ok hE Mx x o _ g hc.1 hoM _ _ _ _ (hb_rmoI (by decide) (by decide) (by decide) (by decide)) _ (hb_Met.mono (c_Hb_payment_at hE Mx x la lp nb ra rp ho pa tm Ac Py hc hk i q _ hi _ _ s9 rfl fa hkc p1 hw) (fun v M1 q => ⟨q.1, by rw [q.2]; exact hXX⟩)), hb_Met.mono (c_Md_payment_at hE My y b0 b1 b2 b3 b4 b5 b6 b7 b8 b9 b10 b11 cd ho pa tm Ac.length Py.length bal mi ky ac st he cl un dn ds dd dl hm hna hnp _ j hj hpl hkm p1 hw) (fun v M1 q => ⟨q.1, _, _, _, _, _, _, _, _, _, _, _, _, _, _, _, _, _, _, _, _, _, _, q.2, rfl⟩)⟩
    · exact ⟨0, _, _, tm, _, _, _, _, bal, mi, _, hI.same hn, fun _ => rfl, h_payment_ok hE Mx x o _ g hc.1 hoM _ _ _ _ (hb_rmoI (by decide) (by decide) (by decide) (by decide)) _ (hb_Met.mono (c_Hb_payment_no hE Mx x la lp nb ra rp ho pa tm Ac Py hc hk p0 (hb_snd2 hno) hkc p1 hw) (fun v M1 q => ⟨q.1, by rw [q.2]; exact hXX⟩)), hb_Met.mono (c_Md_payment_no hE My y b0 b1 b2 b3 b4 b5 b6 b7 b8 b9 b10 b11 cd ho pa tm Ac.length Py.length bal mi ky ac st he cl un dn ds dd dl hm hna hnp p0 hpl hkm p1 hw) (fun v M1 q => ⟨q.1, _, _, _, _, _, _, _, _, _, _, _, _, _, _, _, _, _, _, _, _, _, _, q.2, rfl⟩)⟩

theorem s_key {l : Launch} {s0 : State} {D : va_G} {cI cJ cO : ClassId} {e0 mi0 : Nat} (hE : hb_E l s0 D cI cJ cO e0 mi0) {n x y o : Nat} {ho pa tm cd : Int32} {A : List hbA} {P : List hbY} {na np : Nat} {bal mi : Nat → Int64} {f : Nat → hbY} {Mx My : hb_M} (g : Nat → Int64) (hX : hb_X cO e0 x ho pa tm A P Mx) (hV : hb_V cI cJ y cd ho pa tm na np bal mi f My) (hI : hb_I n ho pa tm A P na np bal mi f) (hn : n < 520) (hoM : Mx o = none) (p0 : Int32) : ∃ (k : Int32) (z : Int64) (w : Int32) (tm1 : Int32) (A1 : List hbA) (P1 : List hbY) (na1 np1 : Nat) (bal1 mi1 : Nat → Int64) (f1 : Nat → hbY), hb_I (n + 1) ho pa tm1 A1 P1 na1 np1 bal1 mi1 f1 ∧ (k = 0 → z = w.toInt64) ∧
    hb_MetW l D hb_cl s0 y_Law_key b_Law_key 4 (some .int) hh_key hb_RH [.ref x, .int p0, .ref o] (hb_jn Mx (hb_one o (jE cJ g))) (hb_HP cJ o k z (hb_X cO e0 x ho pa tm1 A1 P1)) ∧
    hb_Met l D hb_cl s0 y_Md_key b_Md_key 5 (some .int) { frames := 3, cells := 0, slots := 0, locals := 100 } [.ref y, .int p0] My (fun v M1 => v = some (.int w) ∧ hb_V cI cJ y k ho pa tm1 na1 np1 bal1 mi1 f1 M1) := by
  have hXX := hX
  obtain ⟨la, lp, nb, ra, rp, Ac, Py, hc, rfl, rfl⟩ := hX
  obtain ⟨b0, b1, b2, b3, b4, b5, b6, b7, b8, b9, b10, b11, ky, ac, st, he, cl, un, dn, ds, dd, dl, hm, rfl⟩ := hV
  obtain ⟨rfl, rfl, hk, htb⟩ := hI.ok
  have hna := hk.1
  have hnp := hk.2.1
  by_cases hb : p0 < 0
  · exact ⟨1, 0, 0, tm, _, _, _, _, bal, mi, _, hI.same hn, fun z => absurd z (by decide), h_key_bad hE Mx x o _ g hc.1 hoM _ _ _ (hb_rmoI (by decide) (by decide) (by decide) (by decide)) (c_Hb_key_bad hE Mx x la lp nb ra rp ho pa tm Ac Py hc hk p0 hb) hXX, hb_Met.mono (c_Md_key_bad hE My y b0 b1 b2 b3 b4 b5 b6 b7 b8 b9 b10 b11 cd ho pa tm Ac.length Py.length bal mi ky ac st he cl un dn ds dd dl hm hna hnp p0 hb) (fun v M1 q => ⟨q.1, _, _, _, _, _, _, _, _, _, _, _, _, _, _, _, _, _, _, _, _, _, _, q.2, rfl⟩)⟩
  · by_cases hl : nI Py.length ≤ p0
    · exact ⟨0, _, _, tm, _, _, _, _, bal, mi, _, hI.same hn, fun _ => rfl, h_key_ok hE Mx x o _ g hc.1 hoM _ _ _ (hb_rmoI (by decide) (by decide) (by decide) (by decide)) _ (hb_Met.mono (c_Hb_key_no hE Mx x la lp nb ra rp ho pa tm Ac Py hc hk p0 hb hl) (fun v M1 q => ⟨q.1, by rw [q.2]; exact hXX⟩)), hb_Met.mono (c_Md_key_no hE My y b0 b1 b2 b3 b4 b5 b6 b7 b8 b9 b10 b11 cd ho pa tm Ac.length Py.length bal mi ky ac st he cl un dn ds dd dl hm hna hnp p0 hb (hI.key_no hl)) (fun v M1 q => ⟨q.1, _, _, _, _, _, _, _, _, _, _, _, _, _, _, _, _, _, _, _, _, _, _, q.2, rfl⟩)⟩
    · obtain ⟨i, hil, rfl⟩ := hb_ix (p := p0) (n := Py.length) (fun z => z.elim hb hl) (by omega)
      obtain ⟨q, r, hi⟩ := hb_get2 hil
      have hiP : (Py.map Prod.snd)[i]? = some r := by rw [List.getElem?_map, hi]; rfl
      obtain ⟨j, hj, er, hrk, hbf⟩ := hI.key_at hiP
      subst er
      exact ⟨0, _, _, tm, _, _, _, _, bal, mi, _, hI.same hn, fun _ => rfl, h_key_ok hE Mx x o _ g hc.1 hoM _ _ _ (hb_rmoI (by decide) (by decide) (by decide) (by decide)) _ (hb_Met.mono (c_Hb_key_at hE Mx x la lp nb ra rp ho pa tm Ac Py hc hk i q _ hi) (fun v M1 q => ⟨q.1, by rw [q.2]; exact hXX⟩)), hb_Met.mono (c_Md_key_at hE My y b0 b1 b2 b3 b4 b5 b6 b7 b8 b9 b10 b11 cd ho pa tm Ac.length Py.length bal mi ky ac st he cl un dn ds dd dl hm hna hnp (nI i) hb j hj (congrArg nI hrk) hbf) (fun v M1 q => ⟨q.1, _, _, _, _, _, _, _, _, _, _, _, _, _, _, _, _, _, _, _, _, _, _, q.2, rfl⟩)⟩
