/-! THE REFERENCE: init, key -/
def hb_row (ky ac st : Nat → Int32) (he cl : Nat → Int64) (un dn ds : Nat → Int32) (dd : Nat → Int64) (dl : Nat → Int32) : Nat → hbY := fun q => (ky q, ac q, st q, he q, cl q, un q, dn q, ds q, dd q, dl q)
def hb_uY (f : Nat → hbY) (j : Nat) (r : hbY) : Nat → hbY := fun q => if q = j then r else f q
theorem hb_ap.nil : hb_ap [] := fun i j a h => by simp at h
theorem hb_ap.push {L : List Nat} {q : Nat} (h : hb_ap L) (hq : q ∉ L) : hb_ap (L ++ [q]) := by
  intro i j a hi hj
  rw [List.getElem?_append] at hi hj
  by_cases h1 : i < L.length
  · rw [if_pos h1] at hi
    by_cases h2 : j < L.length
    · rw [if_pos h2] at hj; exact h i j a hi hj
    · rw [if_neg h2] at hj
      have h3 : a = q := by have := List.mem_of_getElem? hj; simpa using this
      exact absurd (List.mem_of_getElem? hi) (by rw [h3]; exact hq)
  · rw [if_neg h1] at hi
    have h3 : a = q := by have := List.mem_of_getElem? hi; simpa using this
    by_cases h2 : j < L.length
    · rw [if_pos h2] at hj
      exact absurd (List.mem_of_getElem? hj) (by rw [h3]; exact hq)
    · rw [if_neg h2] at hj
      have e1 := (List.getElem?_eq_some_iff.mp hi).1
      have e2 := (List.getElem?_eq_some_iff.mp hj).1
      simp at e1 e2
      omega
/-- how many of the first j keys lie below x -/
def hb_cn (ky : Nat → Int32) (x : Int32) : Nat → Nat
  | 0 => 0
  | j + 1 => hb_cn ky x j + (if ky j < x then 1 else 0)
theorem hb_cn_1 {ky : Nat → Int32} {x : Int32} {j : Nat} (h : ky j < x) : nI (hb_cn ky x (j + 1)) = nI (hb_cn ky x j) + 1 := by
  rw [show hb_cn ky x (j + 1) = hb_cn ky x j + (if ky j < x then 1 else 0) from rfl, if_pos h, nI_1]
theorem hb_cn_0 {ky : Nat → Int32} {x : Int32} {j : Nat} (h : ¬ ky j < x) : nI (hb_cn ky x (j + 1)) = nI (hb_cn ky x j) + 0 := by
  rw [show hb_cn ky x (j + 1) = hb_cn ky x j + (if ky j < x then 1 else 0) from rfl, if_neg h, Int32.add_zero]
  rfl
/-- ticks of the reference: a payment at time t; its account's balance -/
def hb_rp (t : Int32) (r : hbY) : hbY :=
  (r.1, r.2.1, if (r.2.2.1 = 1 ∧ r.2.2.2.2.2.1 ≤ t) then (if 0 < r.2.2.2.2.1 then 3 else 2) else r.2.2.1, if (r.2.2.1 = 1 ∧ r.2.2.2.2.2.1 ≤ t) then 0 else r.2.2.2.1, r.2.2.2.2.1, if (r.2.2.1 = 1 ∧ r.2.2.2.2.2.1 ≤ t) then 0 else r.2.2.2.2.2.1, if (r.2.2.1 = 1 ∧ r.2.2.2.2.2.1 ≤ t) then (if 0 < r.2.2.2.2.1 then t else -1) else r.2.2.2.2.2.2.1, if ((r.2.2.2.2.2.2.2.1 = 1 ∨ r.2.2.2.2.2.2.2.1 = 2) ∧ r.2.2.2.2.2.2.2.2.2 < t) then (if r.2.2.2.2.2.2.2.1 = 1 then 3 else 4) else r.2.2.2.2.2.2.2.1, r.2.2.2.2.2.2.2.2.1, if ((r.2.2.2.2.2.2.2.1 = 1 ∨ r.2.2.2.2.2.2.2.1 = 2) ∧ r.2.2.2.2.2.2.2.2.2 < t) then (-1) else r.2.2.2.2.2.2.2.2.2)
abbrev hb_lo (t : Int32) (r : hbY) : Prop := r.2.2.2.2.2.2.2.1 = 2 ∧ r.2.2.2.2.2.2.2.2.2 < t
abbrev hbT : Type := (Nat → Int64) × (Nat → hbY)
def hb_r1 (t : Int32) (S : hbT) (p : Nat) : hbT := (if hb_lo t (S.2 p) then vp_updL S.1 (S.2 p).2.1.toNatClampNeg (S.1 (S.2 p).2.1.toNatClampNeg - (S.2 p).2.2.2.2.2.2.2.2.1) else S.1, hb_uY S.2 p (hb_rp t (S.2 p)))
def hb_rk (t : Int32) (S : hbT) : Nat → hbT
  | 0 => S
  | j + 1 => hb_r1 t (hb_rk t S j) j
def hb_rn (tm : Int32) (S : hbT) (np : Nat) : Nat → hbT
  | 0 => S
  | i + 1 => hb_rk (tm + nI (i + 1)) (hb_rn tm S np i) np
/-- an open dispute has an account -/
def hb_fd (np : Nat) (S : hbT) : Prop := ∀ p, p < np → ((S.2 p).2.2.2.2.2.2.2.1 = 1 ∨ (S.2 p).2.2.2.2.2.2.2.1 = 2) → ∃ ka, ka < 16 ∧ (S.2 p).2.1 = nI ka
theorem hb_fd.r1 {np : Nat} {S : hbT} {t : Int32} {j : Nat} (h : hb_fd np S) : hb_fd np (hb_r1 t S j) := by
  intro p hp hd
  have e : (hb_r1 t S j).2 p = hb_uY S.2 j (hb_rp t (S.2 j)) p := rfl
  rw [e] at hd ⊢
  unfold hb_uY at *
  by_cases hpj : p = j
  · subst hpj
    rw [if_pos rfl] at hd ⊢
    show ∃ ka, ka < 16 ∧ (S.2 p).2.1 = nI ka
    refine h p hp ?_
    have e2 : (hb_rp t (S.2 p)).2.2.2.2.2.2.2.1 = if (((S.2 p).2.2.2.2.2.2.2.1 = 1 ∨ (S.2 p).2.2.2.2.2.2.2.1 = 2) ∧ (S.2 p).2.2.2.2.2.2.2.2.2 < t) then (if (S.2 p).2.2.2.2.2.2.2.1 = 1 then 3 else 4) else (S.2 p).2.2.2.2.2.2.2.1 := rfl
    rw [e2] at hd
    by_cases hc : ((S.2 p).2.2.2.2.2.2.2.1 = 1 ∨ (S.2 p).2.2.2.2.2.2.2.1 = 2) ∧ (S.2 p).2.2.2.2.2.2.2.2.2 < t
    · exact hc.1
    · rw [if_neg hc] at hd; exact hd
  · rw [if_neg hpj] at hd ⊢
    exact h p hp hd
theorem hb_fd.rk {np : Nat} {S : hbT} {t : Int32} (h : hb_fd np S) : ∀ j, hb_fd np (hb_rk t S j) := by
  intro j
  induction j with
  | zero => exact h
  | succ j ih => exact ih.r1
theorem hb_fd.rn {np : Nat} {S : hbT} {tm : Int32} (h : hb_fd np S) : ∀ j, hb_fd np (hb_rn tm S np j) := by
  intro j
  induction j with
  | zero => exact h
  | succ j ih => exact ih.rk np
theorem hb_upd0 (f : Nat → Int64) (k : Nat) : vp_updL f k (f k - 0) = f := by
  funext q
  unfold vp_updL
  by_cases h : q = k
  · rw [if_pos h, h]; simp
  · rw [if_neg h]
/-- forget of the reference -/
abbrev hb_sy (pa tm : Int32) (r : hbY) : Prop := (if r.2.2.1 = 3 ∧ r.2.2.2.2.2.2.2.1 = 0 then ¬ r.2.2.2.2.2.2.1 + pa < tm else (r.2.2.1 = 1 ∨ r.2.2.2.2.2.2.2.1 = 1 ∨ r.2.2.2.2.2.2.2.1 = 2))
def hb_f1 (pa tm : Int32) (S : (Nat → hbY) × Nat) (p : Nat) : (Nat → hbY) × Nat := if hb_sy pa tm (S.1 p) then (hb_uY S.1 S.2 (S.1 p), S.2 + 1) else S
def hb_fn (pa tm : Int32) (S : (Nat → hbY) × Nat) : Nat → (Nat → hbY) × Nat
  | 0 => S
  | j + 1 => hb_f1 pa tm (hb_fn pa tm S j) j
theorem hb_fn_le {pa tm : Int32} {f : Nat → hbY} : ∀ j, (hb_fn pa tm (f, 0) j).2 ≤ j := by
  intro j
  induction j with
  | zero => exact Nat.le_refl _
  | succ j ih =>
    show (hb_f1 pa tm (hb_fn pa tm (f, 0) j) j).2 ≤ j + 1
    unfold hb_f1
    split
    · show (hb_fn pa tm (f, 0) j).2 + 1 ≤ j + 1
      omega
    · omega
set_option maxHeartbeats 4000000 in
set_option maxRecDepth 100000 in
/-- HoldBookModel(k1, k2) -/
theorem c_Md_init {l : Launch} {s0 : State} {D : va_G} {cI cJ cO : ClassId} {e0 mi : Nat} (hE : hb_E l s0 D cI cJ cO e0 mi) (M : hb_M) (y : Nat) (k1 k2 : Int32) (fy : M y = some (.inr (4, [.int 0, .int 0, .int 0, .int 0, .int 0, .null, .null, .int 0, .null, .null, .null, .null, .null, .null, .null, .null, .null, .null]))) : hb_Met l D hb_cl s0 y_Md_init b_Md_init 3 none { frames := 1, cells := 12, slots := 632, locals := 20 } [.ref y, .int k1, .int k2] M (fun v M1 => v = none ∧ ∃ b0 b1 b2 b3 b4 b5 b6 b7 b8 b9 b10 b11 : Nat, mR cI cJ M1 y b0 b1 b2 b3 b4 b5 b6 b7 b8 b9 b10 b11 0 (if k1 < 1 then 1 else if 5000 < k1 then 5000 else k1) (if k2 < 1 then 1 else if 5000 < k2 then 5000 else k2) 0 0 0 (fun _ => 0) (fun _ => 0) (fun _ => 0) (fun _ => 0) (fun _ => 0) (fun _ => 0) (fun _ => 0) (fun _ => 0) (fun _ => 0) (fun _ => 0) (fun _ => 0) (fun _ => 0)) := by
  refine hb_Met.of (by decide) (Nat.le_of_ble_eq_true rfl) ?_
  intro p e s m below meth c A hAe hX hz hP hD hA hS ls hl
  obtain ⟨hx, hb, hr, hml, hown, hlocks, hnm, hG, hnh⟩ := id hX
  have hown : s.vm.findClass "HoldBookModel" = some m.cls := hown
  have hts := hE.ts hG ([.ref y, .int k1, .int k2] : List Value).toArray
  have hK := hE.kn hG
  have hl : lv_has ls 3 [(0, .ref y), (1, .int k1), (2, .int k2)] := hl
  refine lv_aload_n hx hb d_Md_init_0 rfl (lv_at hl 0 rfl) ?_
  refine W.objInit hx hb hown (hts _ ml_Md_1) (hts _ im_Ob_init) (hts _ cd_Ob_init) rfl (by rw [hml]; exact hl.1) rfl d_Md_init_1 (Nat.le_of_ble_eq_true rfl) (Nat.le_of_ble_eq_true rfl) ?_
  refine W.eq (g2 := F0 m 4 ls []) rfl ?_
  refine lv_aload_n hx hb d_Md_init_4 rfl (lv_at hl 0 rfl) ?_
  refine lv_bipush (v := 16) hx hb d_Md_init_5 (by decide) ?_
  refine hb_newJ (N' := 16) hx hb hts ac_long hK hP hD hS hA (by decide) (by decide) (by decide) (Nat.le_of_ble_eq_true rfl) (Nat.le_of_ble_eq_true rfl) d_Md_init_7 (fun q1 M2 H hq4 ha5 eM3 hP hD hS => ?_)
  have f6 : M2 q1 = some (.inl (cJ, 16, .inr (.inl (fun _ => 0)))) := by rw [eM3]; exact hb_up_self
  have f7 : M2 y = some (.inr (4, [.int 0, .int 0, .int 0, .int 0, .int 0, .null, .null, .int 0, .null, .null, .null, .null, .null, .null, .null, .null, .null, .null])) := by rw [eM3, hb_up_ne (fun q9 => by rw [q9, hq4] at fy; cases fy)]; exact fy
  refine hb_putF (ty := .array .long) hx hb hts hown hC_Md hK hP hD hS f7 5 (by decide) rfl fl_Md_7 rfl hnm rfl rfl rfl rfl (Nat.le_of_ble_eq_true rfl) d_Md_init_9 (fun M8 H locs eM9 hP hD hS => ?_)
  have f10 : M8 y = some (.inr (4, [.int 0, .int 0, .int 0, .int 0, .int 0, .ref q1, .null, .int 0, .null, .null, .null, .null, .null, .null, .null, .null, .null, .null])) := by rw [eM9]; exact hb_up_self
  have f11 : M8 q1 = some (.inl (cJ, 16, .inr (.inl (fun _ => 0)))) := by rw [eM9, hb_up_ne (Ne.symm (fun q9 => by rw [q9, hq4] at fy; cases fy))]; exact f6
  refine lv_aload_n hx hb d_Md_init_12 rfl (lv_at hl 0 rfl) ?_
  refine lv_bipush (v := 16) hx hb d_Md_init_13 (by decide) ?_
  refine hb_newJ (N' := 16) hx hb hts ac_long hK hP hD hS hA (by decide) (by decide) (by decide) (Nat.le_of_ble_eq_true rfl) (Nat.le_of_ble_eq_true rfl) d_Md_init_15 (fun q12 M13 H hq15 ha16 eM14 hP hD hS => ?_)
  have f17 : M13 q12 = some (.inl (cJ, 16, .inr (.inl (fun _ => 0)))) := by rw [eM14]; exact hb_up_self
  have f18 : M13 y = some (.inr (4, [.int 0, .int 0, .int 0, .int 0, .int 0, .ref q1, .null, .int 0, .null, .null, .null, .null, .null, .null, .null, .null, .null, .null])) := by rw [eM14, hb_up_ne (fun q9 => by rw [q9, hq15] at f10; cases f10)]; exact f10
  have f19 : M13 q1 = some (.inl (cJ, 16, .inr (.inl (fun _ => 0)))) := by rw [eM14, hb_up_ne (fun q9 => by rw [q9, hq15] at f11; cases f11)]; exact f11
  refine hb_putF (ty := .array .long) hx hb hts hown hC_Md hK hP hD hS f18 6 (by decide) rfl fl_Md_13 rfl hnm rfl rfl rfl rfl (Nat.le_of_ble_eq_true rfl) d_Md_init_17 (fun M20 H locs eM21 hP hD hS => ?_)
  have f22 : M20 y = some (.inr (4, [.int 0, .int 0, .int 0, .int 0, .int 0, .ref q1, .ref q12, .int 0, .null, .null, .null, .null, .null, .null, .null, .null, .null, .null])) := by rw [eM21]; exact hb_up_self
  have f23 : M20 q12 = some (.inl (cJ, 16, .inr (.inl (fun _ => 0)))) := by rw [eM21, hb_up_ne (Ne.symm (fun q9 => by rw [q9, hq15] at f10; cases f10))]; exact f17
  have f24 : M20 q1 = some (.inl (cJ, 16, .inr (.inl (fun _ => 0)))) := by rw [eM21, hb_up_ne (Ne.symm (fun q9 => by rw [q9, hq4] at fy; cases fy))]; exact f19
  refine lv_aload_n hx hb d_Md_init_20 rfl (lv_at hl 0 rfl) ?_
  refine lv_bipush (v := 60) hx hb d_Md_init_21 (by decide) ?_
  refine hb_newI (N' := 60) hx hb hts ac_int hK hP hD hS hA (by decide) (by decide) (by decide) (Nat.le_of_ble_eq_true rfl) (Nat.le_of_ble_eq_true rfl) d_Md_init_23 (fun q25 M26 H hq28 ha29 eM27 hP hD hS => ?_)
  have f30 : M26 q25 = some (.inl (cI, 60, .inl (fun _ => 0))) := by rw [eM27]; exact hb_up_self
  have f31 : M26 y = some (.inr (4, [.int 0, .int 0, .int 0, .int 0, .int 0, .ref q1, .ref q12, .int 0, .null, .null, .null, .null, .null, .null, .null, .null, .null, .null])) := by rw [eM27, hb_up_ne (fun q9 => by rw [q9, hq28] at f22; cases f22)]; exact f22
  have f32 : M26 q12 = some (.inl (cJ, 16, .inr (.inl (fun _ => 0)))) := by rw [eM27, hb_up_ne (fun q9 => by rw [q9, hq28] at f23; cases f23)]; exact f23
  have f33 : M26 q1 = some (.inl (cJ, 16, .inr (.inl (fun _ => 0)))) := by rw [eM27, hb_up_ne (fun q9 => by rw [q9, hq28] at f24; cases f24)]; exact f24
  refine hb_putF (ty := .array .int) hx hb hts hown hC_Md hK hP hD hS f31 8 (by decide) rfl fl_Md_16 rfl hnm rfl rfl rfl rfl (Nat.le_of_ble_eq_true rfl) d_Md_init_25 (fun M34 H locs eM35 hP hD hS => ?_)
  have f36 : M34 y = some (.inr (4, [.int 0, .int 0, .int 0, .int 0, .int 0, .ref q1, .ref q12, .int 0, .ref q25, .null, .null, .null, .null, .null, .null, .null, .null, .null])) := by rw [eM35]; exact hb_up_self
  have f37 : M34 q25 = some (.inl (cI, 60, .inl (fun _ => 0))) := by rw [eM35, hb_up_ne (Ne.symm (fun q9 => by rw [q9, hq28] at f22; cases f22))]; exact f30
  have f38 : M34 q12 = some (.inl (cJ, 16, .inr (.inl (fun _ => 0)))) := by rw [eM35, hb_up_ne (Ne.symm (fun q9 => by rw [q9, hq15] at f10; cases f10))]; exact f32
  have f39 : M34 q1 = some (.inl (cJ, 16, .inr (.inl (fun _ => 0)))) := by rw [eM35, hb_up_ne (Ne.symm (fun q9 => by rw [q9, hq4] at fy; cases fy))]; exact f33
  refine lv_aload_n hx hb d_Md_init_28 rfl (lv_at hl 0 rfl) ?_
  refine lv_bipush (v := 60) hx hb d_Md_init_29 (by decide) ?_
  refine hb_newI (N' := 60) hx hb hts ac_int hK hP hD hS hA (by decide) (by decide) (by decide) (Nat.le_of_ble_eq_true rfl) (Nat.le_of_ble_eq_true rfl) d_Md_init_31 (fun q40 M41 H hq43 ha44 eM42 hP hD hS => ?_)
  have f45 : M41 q40 = some (.inl (cI, 60, .inl (fun _ => 0))) := by rw [eM42]; exact hb_up_self
  have f46 : M41 y = some (.inr (4, [.int 0, .int 0, .int 0, .int 0, .int 0, .ref q1, .ref q12, .int 0, .ref q25, .null, .null, .null, .null, .null, .null, .null, .null, .null])) := by rw [eM42, hb_up_ne (fun q9 => by rw [q9, hq43] at f36; cases f36)]; exact f36
  have f47 : M41 q25 = some (.inl (cI, 60, .inl (fun _ => 0))) := by rw [eM42, hb_up_ne (fun q9 => by rw [q9, hq43] at f37; cases f37)]; exact f37
  have f48 : M41 q12 = some (.inl (cJ, 16, .inr (.inl (fun _ => 0)))) := by rw [eM42, hb_up_ne (fun q9 => by rw [q9, hq43] at f38; cases f38)]; exact f38
  have f49 : M41 q1 = some (.inl (cJ, 16, .inr (.inl (fun _ => 0)))) := by rw [eM42, hb_up_ne (fun q9 => by rw [q9, hq43] at f39; cases f39)]; exact f39
  refine hb_putF (ty := .array .int) hx hb hts hown hC_Md hK hP hD hS f46 9 (by decide) rfl fl_Md_20 rfl hnm rfl rfl rfl rfl (Nat.le_of_ble_eq_true rfl) d_Md_init_33 (fun M50 H locs eM51 hP hD hS => ?_)
  have f52 : M50 y = some (.inr (4, [.int 0, .int 0, .int 0, .int 0, .int 0, .ref q1, .ref q12, .int 0, .ref q25, .ref q40, .null, .null, .null, .null, .null, .null, .null, .null])) := by rw [eM51]; exact hb_up_self
  have f53 : M50 q40 = some (.inl (cI, 60, .inl (fun _ => 0))) := by rw [eM51, hb_up_ne (Ne.symm (fun q9 => by rw [q9, hq43] at f36; cases f36))]; exact f45
  have f54 : M50 q25 = some (.inl (cI, 60, .inl (fun _ => 0))) := by rw [eM51, hb_up_ne (Ne.symm (fun q9 => by rw [q9, hq28] at f22; cases f22))]; exact f47
  have f55 : M50 q12 = some (.inl (cJ, 16, .inr (.inl (fun _ => 0)))) := by rw [eM51, hb_up_ne (Ne.symm (fun q9 => by rw [q9, hq15] at f10; cases f10))]; exact f48
  have f56 : M50 q1 = some (.inl (cJ, 16, .inr (.inl (fun _ => 0)))) := by rw [eM51, hb_up_ne (Ne.symm (fun q9 => by rw [q9, hq4] at fy; cases fy))]; exact f49
  refine lv_aload_n hx hb d_Md_init_36 rfl (lv_at hl 0 rfl) ?_
  refine lv_bipush (v := 60) hx hb d_Md_init_37 (by decide) ?_
  refine hb_newI (N' := 60) hx hb hts ac_int hK hP hD hS hA (by decide) (by decide) (by decide) (Nat.le_of_ble_eq_true rfl) (Nat.le_of_ble_eq_true rfl) d_Md_init_39 (fun q57 M58 H hq60 ha61 eM59 hP hD hS => ?_)
  have f62 : M58 q57 = some (.inl (cI, 60, .inl (fun _ => 0))) := by rw [eM59]; exact hb_up_self
  have f63 : M58 y = some (.inr (4, [.int 0, .int 0, .int 0, .int 0, .int 0, .ref q1, .ref q12, .int 0, .ref q25, .ref q40, .null, .null, .null, .null, .null, .null, .null, .null])) := by rw [eM59, hb_up_ne (fun q9 => by rw [q9, hq60] at f52; cases f52)]; exact f52
  have f64 : M58 q40 = some (.inl (cI, 60, .inl (fun _ => 0))) := by rw [eM59, hb_up_ne (fun q9 => by rw [q9, hq60] at f53; cases f53)]; exact f53
  have f65 : M58 q25 = some (.inl (cI, 60, .inl (fun _ => 0))) := by rw [eM59, hb_up_ne (fun q9 => by rw [q9, hq60] at f54; cases f54)]; exact f54
  have f66 : M58 q12 = some (.inl (cJ, 16, .inr (.inl (fun _ => 0)))) := by rw [eM59, hb_up_ne (fun q9 => by rw [q9, hq60] at f55; cases f55)]; exact f55
  have f67 : M58 q1 = some (.inl (cJ, 16, .inr (.inl (fun _ => 0)))) := by rw [eM59, hb_up_ne (fun q9 => by rw [q9, hq60] at f56; cases f56)]; exact f56
  refine hb_putF (ty := .array .int) hx hb hts hown hC_Md hK hP hD hS f63 10 (by decide) rfl fl_Md_23 rfl hnm rfl rfl rfl rfl (Nat.le_of_ble_eq_true rfl) d_Md_init_41 (fun M68 H locs eM69 hP hD hS => ?_)
  have f70 : M68 y = some (.inr (4, [.int 0, .int 0, .int 0, .int 0, .int 0, .ref q1, .ref q12, .int 0, .ref q25, .ref q40, .ref q57, .null, .null, .null, .null, .null, .null, .null])) := by rw [eM69]; exact hb_up_self
  have f71 : M68 q57 = some (.inl (cI, 60, .inl (fun _ => 0))) := by rw [eM69, hb_up_ne (Ne.symm (fun q9 => by rw [q9, hq60] at f52; cases f52))]; exact f62
  have f72 : M68 q40 = some (.inl (cI, 60, .inl (fun _ => 0))) := by rw [eM69, hb_up_ne (Ne.symm (fun q9 => by rw [q9, hq43] at f36; cases f36))]; exact f64
  have f73 : M68 q25 = some (.inl (cI, 60, .inl (fun _ => 0))) := by rw [eM69, hb_up_ne (Ne.symm (fun q9 => by rw [q9, hq28] at f22; cases f22))]; exact f65
  have f74 : M68 q12 = some (.inl (cJ, 16, .inr (.inl (fun _ => 0)))) := by rw [eM69, hb_up_ne (Ne.symm (fun q9 => by rw [q9, hq15] at f10; cases f10))]; exact f66
  have f75 : M68 q1 = some (.inl (cJ, 16, .inr (.inl (fun _ => 0)))) := by rw [eM69, hb_up_ne (Ne.symm (fun q9 => by rw [q9, hq4] at fy; cases fy))]; exact f67
  refine lv_aload_n hx hb d_Md_init_44 rfl (lv_at hl 0 rfl) ?_
  refine lv_bipush (v := 60) hx hb d_Md_init_45 (by decide) ?_
  refine hb_newJ (N' := 60) hx hb hts ac_long hK hP hD hS hA (by decide) (by decide) (by decide) (Nat.le_of_ble_eq_true rfl) (Nat.le_of_ble_eq_true rfl) d_Md_init_47 (fun q76 M77 H hq79 ha80 eM78 hP hD hS => ?_)
  have f81 : M77 q76 = some (.inl (cJ, 60, .inr (.inl (fun _ => 0)))) := by rw [eM78]; exact hb_up_self
  have f82 : M77 y = some (.inr (4, [.int 0, .int 0, .int 0, .int 0, .int 0, .ref q1, .ref q12, .int 0, .ref q25, .ref q40, .ref q57, .null, .null, .null, .null, .null, .null, .null])) := by rw [eM78, hb_up_ne (fun q9 => by rw [q9, hq79] at f70; cases f70)]; exact f70
  have f83 : M77 q57 = some (.inl (cI, 60, .inl (fun _ => 0))) := by rw [eM78, hb_up_ne (fun q9 => by rw [q9, hq79] at f71; cases f71)]; exact f71
  have f84 : M77 q40 = some (.inl (cI, 60, .inl (fun _ => 0))) := by rw [eM78, hb_up_ne (fun q9 => by rw [q9, hq79] at f72; cases f72)]; exact f72
  have f85 : M77 q25 = some (.inl (cI, 60, .inl (fun _ => 0))) := by rw [eM78, hb_up_ne (fun q9 => by rw [q9, hq79] at f73; cases f73)]; exact f73
  have f86 : M77 q12 = some (.inl (cJ, 16, .inr (.inl (fun _ => 0)))) := by rw [eM78, hb_up_ne (fun q9 => by rw [q9, hq79] at f74; cases f74)]; exact f74
  have f87 : M77 q1 = some (.inl (cJ, 16, .inr (.inl (fun _ => 0)))) := by rw [eM78, hb_up_ne (fun q9 => by rw [q9, hq79] at f75; cases f75)]; exact f75
  refine hb_putF (ty := .array .long) hx hb hts hown hC_Md hK hP hD hS f82 11 (by decide) rfl fl_Md_26 rfl hnm rfl rfl rfl rfl (Nat.le_of_ble_eq_true rfl) d_Md_init_49 (fun M88 H locs eM89 hP hD hS => ?_)
  have f90 : M88 y = some (.inr (4, [.int 0, .int 0, .int 0, .int 0, .int 0, .ref q1, .ref q12, .int 0, .ref q25, .ref q40, .ref q57, .ref q76, .null, .null, .null, .null, .null, .null])) := by rw [eM89]; exact hb_up_self
  have f91 : M88 q76 = some (.inl (cJ, 60, .inr (.inl (fun _ => 0)))) := by rw [eM89, hb_up_ne (Ne.symm (fun q9 => by rw [q9, hq79] at f70; cases f70))]; exact f81
  have f92 : M88 q57 = some (.inl (cI, 60, .inl (fun _ => 0))) := by rw [eM89, hb_up_ne (Ne.symm (fun q9 => by rw [q9, hq60] at f52; cases f52))]; exact f83
  have f93 : M88 q40 = some (.inl (cI, 60, .inl (fun _ => 0))) := by rw [eM89, hb_up_ne (Ne.symm (fun q9 => by rw [q9, hq43] at f36; cases f36))]; exact f84
  have f94 : M88 q25 = some (.inl (cI, 60, .inl (fun _ => 0))) := by rw [eM89, hb_up_ne (Ne.symm (fun q9 => by rw [q9, hq28] at f22; cases f22))]; exact f85
  have f95 : M88 q12 = some (.inl (cJ, 16, .inr (.inl (fun _ => 0)))) := by rw [eM89, hb_up_ne (Ne.symm (fun q9 => by rw [q9, hq15] at f10; cases f10))]; exact f86
  have f96 : M88 q1 = some (.inl (cJ, 16, .inr (.inl (fun _ => 0)))) := by rw [eM89, hb_up_ne (Ne.symm (fun q9 => by rw [q9, hq4] at fy; cases fy))]; exact f87
  refine lv_aload_n hx hb d_Md_init_52 rfl (lv_at hl 0 rfl) ?_
  refine lv_bipush (v := 60) hx hb d_Md_init_53 (by decide) ?_
  refine hb_newJ (N' := 60) hx hb hts ac_long hK hP hD hS hA (by decide) (by decide) (by decide) (Nat.le_of_ble_eq_true rfl) (Nat.le_of_ble_eq_true rfl) d_Md_init_55 (fun q97 M98 H hq100 ha101 eM99 hP hD hS => ?_)
  have f102 : M98 q97 = some (.inl (cJ, 60, .inr (.inl (fun _ => 0)))) := by rw [eM99]; exact hb_up_self
  have f103 : M98 y = some (.inr (4, [.int 0, .int 0, .int 0, .int 0, .int 0, .ref q1, .ref q12, .int 0, .ref q25, .ref q40, .ref q57, .ref q76, .null, .null, .null, .null, .null, .null])) := by rw [eM99, hb_up_ne (fun q9 => by rw [q9, hq100] at f90; cases f90)]; exact f90
  have f104 : M98 q76 = some (.inl (cJ, 60, .inr (.inl (fun _ => 0)))) := by rw [eM99, hb_up_ne (fun q9 => by rw [q9, hq100] at f91; cases f91)]; exact f91
  have f105 : M98 q57 = some (.inl (cI, 60, .inl (fun _ => 0))) := by rw [eM99, hb_up_ne (fun q9 => by rw [q9, hq100] at f92; cases f92)]; exact f92
  have f106 : M98 q40 = some (.inl (cI, 60, .inl (fun _ => 0))) := by rw [eM99, hb_up_ne (fun q9 => by rw [q9, hq100] at f93; cases f93)]; exact f93
  have f107 : M98 q25 = some (.inl (cI, 60, .inl (fun _ => 0))) := by rw [eM99, hb_up_ne (fun q9 => by rw [q9, hq100] at f94; cases f94)]; exact f94
  have f108 : M98 q12 = some (.inl (cJ, 16, .inr (.inl (fun _ => 0)))) := by rw [eM99, hb_up_ne (fun q9 => by rw [q9, hq100] at f95; cases f95)]; exact f95
  have f109 : M98 q1 = some (.inl (cJ, 16, .inr (.inl (fun _ => 0)))) := by rw [eM99, hb_up_ne (fun q9 => by rw [q9, hq100] at f96; cases f96)]; exact f96
  refine hb_putF (ty := .array .long) hx hb hts hown hC_Md hK hP hD hS f103 12 (by decide) rfl fl_Md_29 rfl hnm rfl rfl rfl rfl (Nat.le_of_ble_eq_true rfl) d_Md_init_57 (fun M110 H locs eM111 hP hD hS => ?_)
  have f112 : M110 y = some (.inr (4, [.int 0, .int 0, .int 0, .int 0, .int 0, .ref q1, .ref q12, .int 0, .ref q25, .ref q40, .ref q57, .ref q76, .ref q97, .null, .null, .null, .null, .null])) := by rw [eM111]; exact hb_up_self
  have f113 : M110 q97 = some (.inl (cJ, 60, .inr (.inl (fun _ => 0)))) := by rw [eM111, hb_up_ne (Ne.symm (fun q9 => by rw [q9, hq100] at f90; cases f90))]; exact f102
  have f114 : M110 q76 = some (.inl (cJ, 60, .inr (.inl (fun _ => 0)))) := by rw [eM111, hb_up_ne (Ne.symm (fun q9 => by rw [q9, hq79] at f70; cases f70))]; exact f104
  have f115 : M110 q57 = some (.inl (cI, 60, .inl (fun _ => 0))) := by rw [eM111, hb_up_ne (Ne.symm (fun q9 => by rw [q9, hq60] at f52; cases f52))]; exact f105
  have f116 : M110 q40 = some (.inl (cI, 60, .inl (fun _ => 0))) := by rw [eM111, hb_up_ne (Ne.symm (fun q9 => by rw [q9, hq43] at f36; cases f36))]; exact f106
  have f117 : M110 q25 = some (.inl (cI, 60, .inl (fun _ => 0))) := by rw [eM111, hb_up_ne (Ne.symm (fun q9 => by rw [q9, hq28] at f22; cases f22))]; exact f107
  have f118 : M110 q12 = some (.inl (cJ, 16, .inr (.inl (fun _ => 0)))) := by rw [eM111, hb_up_ne (Ne.symm (fun q9 => by rw [q9, hq15] at f10; cases f10))]; exact f108
  have f119 : M110 q1 = some (.inl (cJ, 16, .inr (.inl (fun _ => 0)))) := by rw [eM111, hb_up_ne (Ne.symm (fun q9 => by rw [q9, hq4] at fy; cases fy))]; exact f109
  refine lv_aload_n hx hb d_Md_init_60 rfl (lv_at hl 0 rfl) ?_
  refine lv_bipush (v := 60) hx hb d_Md_init_61 (by decide) ?_
  refine hb_newI (N' := 60) hx hb hts ac_int hK hP hD hS hA (by decide) (by decide) (by decide) (Nat.le_of_ble_eq_true rfl) (Nat.le_of_ble_eq_true rfl) d_Md_init_63 (fun q120 M121 H hq123 ha124 eM122 hP hD hS => ?_)
  have f125 : M121 q120 = some (.inl (cI, 60, .inl (fun _ => 0))) := by rw [eM122]; exact hb_up_self
  have f126 : M121 y = some (.inr (4, [.int 0, .int 0, .int 0, .int 0, .int 0, .ref q1, .ref q12, .int 0, .ref q25, .ref q40, .ref q57, .ref q76, .ref q97, .null, .null, .null, .null, .null])) := by rw [eM122, hb_up_ne (fun q9 => by rw [q9, hq123] at f112; cases f112)]; exact f112
  have f127 : M121 q97 = some (.inl (cJ, 60, .inr (.inl (fun _ => 0)))) := by rw [eM122, hb_up_ne (fun q9 => by rw [q9, hq123] at f113; cases f113)]; exact f113
  have f128 : M121 q76 = some (.inl (cJ, 60, .inr (.inl (fun _ => 0)))) := by rw [eM122, hb_up_ne (fun q9 => by rw [q9, hq123] at f114; cases f114)]; exact f114
  have f129 : M121 q57 = some (.inl (cI, 60, .inl (fun _ => 0))) := by rw [eM122, hb_up_ne (fun q9 => by rw [q9, hq123] at f115; cases f115)]; exact f115
  have f130 : M121 q40 = some (.inl (cI, 60, .inl (fun _ => 0))) := by rw [eM122, hb_up_ne (fun q9 => by rw [q9, hq123] at f116; cases f116)]; exact f116
  have f131 : M121 q25 = some (.inl (cI, 60, .inl (fun _ => 0))) := by rw [eM122, hb_up_ne (fun q9 => by rw [q9, hq123] at f117; cases f117)]; exact f117
  have f132 : M121 q12 = some (.inl (cJ, 16, .inr (.inl (fun _ => 0)))) := by rw [eM122, hb_up_ne (fun q9 => by rw [q9, hq123] at f118; cases f118)]; exact f118
  have f133 : M121 q1 = some (.inl (cJ, 16, .inr (.inl (fun _ => 0)))) := by rw [eM122, hb_up_ne (fun q9 => by rw [q9, hq123] at f119; cases f119)]; exact f119
  refine hb_putF (ty := .array .int) hx hb hts hown hC_Md hK hP hD hS f126 13 (by decide) rfl fl_Md_32 rfl hnm rfl rfl rfl rfl (Nat.le_of_ble_eq_true rfl) d_Md_init_65 (fun M134 H locs eM135 hP hD hS => ?_)
  have f136 : M134 y = some (.inr (4, [.int 0, .int 0, .int 0, .int 0, .int 0, .ref q1, .ref q12, .int 0, .ref q25, .ref q40, .ref q57, .ref q76, .ref q97, .ref q120, .null, .null, .null, .null])) := by rw [eM135]; exact hb_up_self
  have f137 : M134 q120 = some (.inl (cI, 60, .inl (fun _ => 0))) := by rw [eM135, hb_up_ne (Ne.symm (fun q9 => by rw [q9, hq123] at f112; cases f112))]; exact f125
  have f138 : M134 q97 = some (.inl (cJ, 60, .inr (.inl (fun _ => 0)))) := by rw [eM135, hb_up_ne (Ne.symm (fun q9 => by rw [q9, hq100] at f90; cases f90))]; exact f127
  have f139 : M134 q76 = some (.inl (cJ, 60, .inr (.inl (fun _ => 0)))) := by rw [eM135, hb_up_ne (Ne.symm (fun q9 => by rw [q9, hq79] at f70; cases f70))]; exact f128
  have f140 : M134 q57 = some (.inl (cI, 60, .inl (fun _ => 0))) := by rw [eM135, hb_up_ne (Ne.symm (fun q9 => by rw [q9, hq60] at f52; cases f52))]; exact f129
  have f141 : M134 q40 = some (.inl (cI, 60, .inl (fun _ => 0))) := by rw [eM135, hb_up_ne (Ne.symm (fun q9 => by rw [q9, hq43] at f36; cases f36))]; exact f130
  have f142 : M134 q25 = some (.inl (cI, 60, .inl (fun _ => 0))) := by rw [eM135, hb_up_ne (Ne.symm (fun q9 => by rw [q9, hq28] at f22; cases f22))]; exact f131
  have f143 : M134 q12 = some (.inl (cJ, 16, .inr (.inl (fun _ => 0)))) := by rw [eM135, hb_up_ne (Ne.symm (fun q9 => by rw [q9, hq15] at f10; cases f10))]; exact f132
  have f144 : M134 q1 = some (.inl (cJ, 16, .inr (.inl (fun _ => 0)))) := by rw [eM135, hb_up_ne (Ne.symm (fun q9 => by rw [q9, hq4] at fy; cases fy))]; exact f133
  refine lv_aload_n hx hb d_Md_init_68 rfl (lv_at hl 0 rfl) ?_
  refine lv_bipush (v := 60) hx hb d_Md_init_69 (by decide) ?_
  refine hb_newI (N' := 60) hx hb hts ac_int hK hP hD hS hA (by decide) (by decide) (by decide) (Nat.le_of_ble_eq_true rfl) (Nat.le_of_ble_eq_true rfl) d_Md_init_71 (fun q145 M146 H hq148 ha149 eM147 hP hD hS => ?_)
  have f150 : M146 q145 = some (.inl (cI, 60, .inl (fun _ => 0))) := by rw [eM147]; exact hb_up_self
  have f151 : M146 y = some (.inr (4, [.int 0, .int 0, .int 0, .int 0, .int 0, .ref q1, .ref q12, .int 0, .ref q25, .ref q40, .ref q57, .ref q76, .ref q97, .ref q120, .null, .null, .null, .null])) := by rw [eM147, hb_up_ne (fun q9 => by rw [q9, hq148] at f136; cases f136)]; exact f136
  have f152 : M146 q120 = some (.inl (cI, 60, .inl (fun _ => 0))) := by rw [eM147, hb_up_ne (fun q9 => by rw [q9, hq148] at f137; cases f137)]; exact f137
  have f153 : M146 q97 = some (.inl (cJ, 60, .inr (.inl (fun _ => 0)))) := by rw [eM147, hb_up_ne (fun q9 => by rw [q9, hq148] at f138; cases f138)]; exact f138
  have f154 : M146 q76 = some (.inl (cJ, 60, .inr (.inl (fun _ => 0)))) := by rw [eM147, hb_up_ne (fun q9 => by rw [q9, hq148] at f139; cases f139)]; exact f139
  have f155 : M146 q57 = some (.inl (cI, 60, .inl (fun _ => 0))) := by rw [eM147, hb_up_ne (fun q9 => by rw [q9, hq148] at f140; cases f140)]; exact f140
  have f156 : M146 q40 = some (.inl (cI, 60, .inl (fun _ => 0))) := by rw [eM147, hb_up_ne (fun q9 => by rw [q9, hq148] at f141; cases f141)]; exact f141
  have f157 : M146 q25 = some (.inl (cI, 60, .inl (fun _ => 0))) := by rw [eM147, hb_up_ne (fun q9 => by rw [q9, hq148] at f142; cases f142)]; exact f142
  have f158 : M146 q12 = some (.inl (cJ, 16, .inr (.inl (fun _ => 0)))) := by rw [eM147, hb_up_ne (fun q9 => by rw [q9, hq148] at f143; cases f143)]; exact f143
  have f159 : M146 q1 = some (.inl (cJ, 16, .inr (.inl (fun _ => 0)))) := by rw [eM147, hb_up_ne (fun q9 => by rw [q9, hq148] at f144; cases f144)]; exact f144
  refine hb_putF (ty := .array .int) hx hb hts hown hC_Md hK hP hD hS f151 14 (by decide) rfl fl_Md_35 rfl hnm rfl rfl rfl rfl (Nat.le_of_ble_eq_true rfl) d_Md_init_73 (fun M160 H locs eM161 hP hD hS => ?_)
  have f162 : M160 y = some (.inr (4, [.int 0, .int 0, .int 0, .int 0, .int 0, .ref q1, .ref q12, .int 0, .ref q25, .ref q40, .ref q57, .ref q76, .ref q97, .ref q120, .ref q145, .null, .null, .null])) := by rw [eM161]; exact hb_up_self
  have f163 : M160 q145 = some (.inl (cI, 60, .inl (fun _ => 0))) := by rw [eM161, hb_up_ne (Ne.symm (fun q9 => by rw [q9, hq148] at f136; cases f136))]; exact f150
  have f164 : M160 q120 = some (.inl (cI, 60, .inl (fun _ => 0))) := by rw [eM161, hb_up_ne (Ne.symm (fun q9 => by rw [q9, hq123] at f112; cases f112))]; exact f152
  have f165 : M160 q97 = some (.inl (cJ, 60, .inr (.inl (fun _ => 0)))) := by rw [eM161, hb_up_ne (Ne.symm (fun q9 => by rw [q9, hq100] at f90; cases f90))]; exact f153
  have f166 : M160 q76 = some (.inl (cJ, 60, .inr (.inl (fun _ => 0)))) := by rw [eM161, hb_up_ne (Ne.symm (fun q9 => by rw [q9, hq79] at f70; cases f70))]; exact f154
  have f167 : M160 q57 = some (.inl (cI, 60, .inl (fun _ => 0))) := by rw [eM161, hb_up_ne (Ne.symm (fun q9 => by rw [q9, hq60] at f52; cases f52))]; exact f155
  have f168 : M160 q40 = some (.inl (cI, 60, .inl (fun _ => 0))) := by rw [eM161, hb_up_ne (Ne.symm (fun q9 => by rw [q9, hq43] at f36; cases f36))]; exact f156
  have f169 : M160 q25 = some (.inl (cI, 60, .inl (fun _ => 0))) := by rw [eM161, hb_up_ne (Ne.symm (fun q9 => by rw [q9, hq28] at f22; cases f22))]; exact f157
  have f170 : M160 q12 = some (.inl (cJ, 16, .inr (.inl (fun _ => 0)))) := by rw [eM161, hb_up_ne (Ne.symm (fun q9 => by rw [q9, hq15] at f10; cases f10))]; exact f158
  have f171 : M160 q1 = some (.inl (cJ, 16, .inr (.inl (fun _ => 0)))) := by rw [eM161, hb_up_ne (Ne.symm (fun q9 => by rw [q9, hq4] at fy; cases fy))]; exact f159
  refine lv_aload_n hx hb d_Md_init_76 rfl (lv_at hl 0 rfl) ?_
  refine lv_bipush (v := 60) hx hb d_Md_init_77 (by decide) ?_
  refine hb_newI (N' := 60) hx hb hts ac_int hK hP hD hS hA (by decide) (by decide) (by decide) (Nat.le_of_ble_eq_true rfl) (Nat.le_of_ble_eq_true rfl) d_Md_init_79 (fun q172 M173 H hq175 ha176 eM174 hP hD hS => ?_)
  have f177 : M173 q172 = some (.inl (cI, 60, .inl (fun _ => 0))) := by rw [eM174]; exact hb_up_self
  have f178 : M173 y = some (.inr (4, [.int 0, .int 0, .int 0, .int 0, .int 0, .ref q1, .ref q12, .int 0, .ref q25, .ref q40, .ref q57, .ref q76, .ref q97, .ref q120, .ref q145, .null, .null, .null])) := by rw [eM174, hb_up_ne (fun q9 => by rw [q9, hq175] at f162; cases f162)]; exact f162
  have f179 : M173 q145 = some (.inl (cI, 60, .inl (fun _ => 0))) := by rw [eM174, hb_up_ne (fun q9 => by rw [q9, hq175] at f163; cases f163)]; exact f163
  have f180 : M173 q120 = some (.inl (cI, 60, .inl (fun _ => 0))) := by rw [eM174, hb_up_ne (fun q9 => by rw [q9, hq175] at f164; cases f164)]; exact f164
  have f181 : M173 q97 = some (.inl (cJ, 60, .inr (.inl (fun _ => 0)))) := by rw [eM174, hb_up_ne (fun q9 => by rw [q9, hq175] at f165; cases f165)]; exact f165
  have f182 : M173 q76 = some (.inl (cJ, 60, .inr (.inl (fun _ => 0)))) := by rw [eM174, hb_up_ne (fun q9 => by rw [q9, hq175] at f166; cases f166)]; exact f166
  have f183 : M173 q57 = some (.inl (cI, 60, .inl (fun _ => 0))) := by rw [eM174, hb_up_ne (fun q9 => by rw [q9, hq175] at f167; cases f167)]; exact f167
  have f184 : M173 q40 = some (.inl (cI, 60, .inl (fun _ => 0))) := by rw [eM174, hb_up_ne (fun q9 => by rw [q9, hq175] at f168; cases f168)]; exact f168
  have f185 : M173 q25 = some (.inl (cI, 60, .inl (fun _ => 0))) := by rw [eM174, hb_up_ne (fun q9 => by rw [q9, hq175] at f169; cases f169)]; exact f169
  have f186 : M173 q12 = some (.inl (cJ, 16, .inr (.inl (fun _ => 0)))) := by rw [eM174, hb_up_ne (fun q9 => by rw [q9, hq175] at f170; cases f170)]; exact f170
  have f187 : M173 q1 = some (.inl (cJ, 16, .inr (.inl (fun _ => 0)))) := by rw [eM174, hb_up_ne (fun q9 => by rw [q9, hq175] at f171; cases f171)]; exact f171
  refine hb_putF (ty := .array .int) hx hb hts hown hC_Md hK hP hD hS f178 15 (by decide) rfl fl_Md_38 rfl hnm rfl rfl rfl rfl (Nat.le_of_ble_eq_true rfl) d_Md_init_81 (fun M188 H locs eM189 hP hD hS => ?_)
  have f190 : M188 y = some (.inr (4, [.int 0, .int 0, .int 0, .int 0, .int 0, .ref q1, .ref q12, .int 0, .ref q25, .ref q40, .ref q57, .ref q76, .ref q97, .ref q120, .ref q145, .ref q172, .null, .null])) := by rw [eM189]; exact hb_up_self
  have f191 : M188 q172 = some (.inl (cI, 60, .inl (fun _ => 0))) := by rw [eM189, hb_up_ne (Ne.symm (fun q9 => by rw [q9, hq175] at f162; cases f162))]; exact f177
  have f192 : M188 q145 = some (.inl (cI, 60, .inl (fun _ => 0))) := by rw [eM189, hb_up_ne (Ne.symm (fun q9 => by rw [q9, hq148] at f136; cases f136))]; exact f179
  have f193 : M188 q120 = some (.inl (cI, 60, .inl (fun _ => 0))) := by rw [eM189, hb_up_ne (Ne.symm (fun q9 => by rw [q9, hq123] at f112; cases f112))]; exact f180
  have f194 : M188 q97 = some (.inl (cJ, 60, .inr (.inl (fun _ => 0)))) := by rw [eM189, hb_up_ne (Ne.symm (fun q9 => by rw [q9, hq100] at f90; cases f90))]; exact f181
  have f195 : M188 q76 = some (.inl (cJ, 60, .inr (.inl (fun _ => 0)))) := by rw [eM189, hb_up_ne (Ne.symm (fun q9 => by rw [q9, hq79] at f70; cases f70))]; exact f182
  have f196 : M188 q57 = some (.inl (cI, 60, .inl (fun _ => 0))) := by rw [eM189, hb_up_ne (Ne.symm (fun q9 => by rw [q9, hq60] at f52; cases f52))]; exact f183
  have f197 : M188 q40 = some (.inl (cI, 60, .inl (fun _ => 0))) := by rw [eM189, hb_up_ne (Ne.symm (fun q9 => by rw [q9, hq43] at f36; cases f36))]; exact f184
  have f198 : M188 q25 = some (.inl (cI, 60, .inl (fun _ => 0))) := by rw [eM189, hb_up_ne (Ne.symm (fun q9 => by rw [q9, hq28] at f22; cases f22))]; exact f185
  have f199 : M188 q12 = some (.inl (cJ, 16, .inr (.inl (fun _ => 0)))) := by rw [eM189, hb_up_ne (Ne.symm (fun q9 => by rw [q9, hq15] at f10; cases f10))]; exact f186
  have f200 : M188 q1 = some (.inl (cJ, 16, .inr (.inl (fun _ => 0)))) := by rw [eM189, hb_up_ne (Ne.symm (fun q9 => by rw [q9, hq4] at fy; cases fy))]; exact f187
  refine lv_aload_n hx hb d_Md_init_84 rfl (lv_at hl 0 rfl) ?_
  refine lv_bipush (v := 60) hx hb d_Md_init_85 (by decide) ?_
  refine hb_newJ (N' := 60) hx hb hts ac_long hK hP hD hS hA (by decide) (by decide) (by decide) (Nat.le_of_ble_eq_true rfl) (Nat.le_of_ble_eq_true rfl) d_Md_init_87 (fun q201 M202 H hq204 ha205 eM203 hP hD hS => ?_)
  have f206 : M202 q201 = some (.inl (cJ, 60, .inr (.inl (fun _ => 0)))) := by rw [eM203]; exact hb_up_self
  have f207 : M202 y = some (.inr (4, [.int 0, .int 0, .int 0, .int 0, .int 0, .ref q1, .ref q12, .int 0, .ref q25, .ref q40, .ref q57, .ref q76, .ref q97, .ref q120, .ref q145, .ref q172, .null, .null])) := by rw [eM203, hb_up_ne (fun q9 => by rw [q9, hq204] at f190; cases f190)]; exact f190
  have f208 : M202 q172 = some (.inl (cI, 60, .inl (fun _ => 0))) := by rw [eM203, hb_up_ne (fun q9 => by rw [q9, hq204] at f191; cases f191)]; exact f191
  have f209 : M202 q145 = some (.inl (cI, 60, .inl (fun _ => 0))) := by rw [eM203, hb_up_ne (fun q9 => by rw [q9, hq204] at f192; cases f192)]; exact f192
  have f210 : M202 q120 = some (.inl (cI, 60, .inl (fun _ => 0))) := by rw [eM203, hb_up_ne (fun q9 => by rw [q9, hq204] at f193; cases f193)]; exact f193
  have f211 : M202 q97 = some (.inl (cJ, 60, .inr (.inl (fun _ => 0)))) := by rw [eM203, hb_up_ne (fun q9 => by rw [q9, hq204] at f194; cases f194)]; exact f194
  have f212 : M202 q76 = some (.inl (cJ, 60, .inr (.inl (fun _ => 0)))) := by rw [eM203, hb_up_ne (fun q9 => by rw [q9, hq204] at f195; cases f195)]; exact f195
  have f213 : M202 q57 = some (.inl (cI, 60, .inl (fun _ => 0))) := by rw [eM203, hb_up_ne (fun q9 => by rw [q9, hq204] at f196; cases f196)]; exact f196
  have f214 : M202 q40 = some (.inl (cI, 60, .inl (fun _ => 0))) := by rw [eM203, hb_up_ne (fun q9 => by rw [q9, hq204] at f197; cases f197)]; exact f197
  have f215 : M202 q25 = some (.inl (cI, 60, .inl (fun _ => 0))) := by rw [eM203, hb_up_ne (fun q9 => by rw [q9, hq204] at f198; cases f198)]; exact f198
  have f216 : M202 q12 = some (.inl (cJ, 16, .inr (.inl (fun _ => 0)))) := by rw [eM203, hb_up_ne (fun q9 => by rw [q9, hq204] at f199; cases f199)]; exact f199
  have f217 : M202 q1 = some (.inl (cJ, 16, .inr (.inl (fun _ => 0)))) := by rw [eM203, hb_up_ne (fun q9 => by rw [q9, hq204] at f200; cases f200)]; exact f200
  refine hb_putF (ty := .array .long) hx hb hts hown hC_Md hK hP hD hS f207 16 (by decide) rfl fl_Md_41 rfl hnm rfl rfl rfl rfl (Nat.le_of_ble_eq_true rfl) d_Md_init_89 (fun M218 H locs eM219 hP hD hS => ?_)
  have f220 : M218 y = some (.inr (4, [.int 0, .int 0, .int 0, .int 0, .int 0, .ref q1, .ref q12, .int 0, .ref q25, .ref q40, .ref q57, .ref q76, .ref q97, .ref q120, .ref q145, .ref q172, .ref q201, .null])) := by rw [eM219]; exact hb_up_self
  have f221 : M218 q201 = some (.inl (cJ, 60, .inr (.inl (fun _ => 0)))) := by rw [eM219, hb_up_ne (Ne.symm (fun q9 => by rw [q9, hq204] at f190; cases f190))]; exact f206
  have f222 : M218 q172 = some (.inl (cI, 60, .inl (fun _ => 0))) := by rw [eM219, hb_up_ne (Ne.symm (fun q9 => by rw [q9, hq175] at f162; cases f162))]; exact f208
  have f223 : M218 q145 = some (.inl (cI, 60, .inl (fun _ => 0))) := by rw [eM219, hb_up_ne (Ne.symm (fun q9 => by rw [q9, hq148] at f136; cases f136))]; exact f209
  have f224 : M218 q120 = some (.inl (cI, 60, .inl (fun _ => 0))) := by rw [eM219, hb_up_ne (Ne.symm (fun q9 => by rw [q9, hq123] at f112; cases f112))]; exact f210
  have f225 : M218 q97 = some (.inl (cJ, 60, .inr (.inl (fun _ => 0)))) := by rw [eM219, hb_up_ne (Ne.symm (fun q9 => by rw [q9, hq100] at f90; cases f90))]; exact f211
  have f226 : M218 q76 = some (.inl (cJ, 60, .inr (.inl (fun _ => 0)))) := by rw [eM219, hb_up_ne (Ne.symm (fun q9 => by rw [q9, hq79] at f70; cases f70))]; exact f212
  have f227 : M218 q57 = some (.inl (cI, 60, .inl (fun _ => 0))) := by rw [eM219, hb_up_ne (Ne.symm (fun q9 => by rw [q9, hq60] at f52; cases f52))]; exact f213
  have f228 : M218 q40 = some (.inl (cI, 60, .inl (fun _ => 0))) := by rw [eM219, hb_up_ne (Ne.symm (fun q9 => by rw [q9, hq43] at f36; cases f36))]; exact f214
  have f229 : M218 q25 = some (.inl (cI, 60, .inl (fun _ => 0))) := by rw [eM219, hb_up_ne (Ne.symm (fun q9 => by rw [q9, hq28] at f22; cases f22))]; exact f215
  have f230 : M218 q12 = some (.inl (cJ, 16, .inr (.inl (fun _ => 0)))) := by rw [eM219, hb_up_ne (Ne.symm (fun q9 => by rw [q9, hq15] at f10; cases f10))]; exact f216
  have f231 : M218 q1 = some (.inl (cJ, 16, .inr (.inl (fun _ => 0)))) := by rw [eM219, hb_up_ne (Ne.symm (fun q9 => by rw [q9, hq4] at fy; cases fy))]; exact f217
  refine lv_aload_n hx hb d_Md_init_92 rfl (lv_at hl 0 rfl) ?_
  refine lv_bipush (v := 60) hx hb d_Md_init_93 (by decide) ?_
  refine hb_newI (N' := 60) hx hb hts ac_int hK hP hD hS hA (by decide) (by decide) (by decide) (Nat.le_of_ble_eq_true rfl) (Nat.le_of_ble_eq_true rfl) d_Md_init_95 (fun q232 M233 H hq235 ha236 eM234 hP hD hS => ?_)
  have f237 : M233 q232 = some (.inl (cI, 60, .inl (fun _ => 0))) := by rw [eM234]; exact hb_up_self
  have f238 : M233 y = some (.inr (4, [.int 0, .int 0, .int 0, .int 0, .int 0, .ref q1, .ref q12, .int 0, .ref q25, .ref q40, .ref q57, .ref q76, .ref q97, .ref q120, .ref q145, .ref q172, .ref q201, .null])) := by rw [eM234, hb_up_ne (fun q9 => by rw [q9, hq235] at f220; cases f220)]; exact f220
  have f239 : M233 q201 = some (.inl (cJ, 60, .inr (.inl (fun _ => 0)))) := by rw [eM234, hb_up_ne (fun q9 => by rw [q9, hq235] at f221; cases f221)]; exact f221
  have f240 : M233 q172 = some (.inl (cI, 60, .inl (fun _ => 0))) := by rw [eM234, hb_up_ne (fun q9 => by rw [q9, hq235] at f222; cases f222)]; exact f222
  have f241 : M233 q145 = some (.inl (cI, 60, .inl (fun _ => 0))) := by rw [eM234, hb_up_ne (fun q9 => by rw [q9, hq235] at f223; cases f223)]; exact f223
  have f242 : M233 q120 = some (.inl (cI, 60, .inl (fun _ => 0))) := by rw [eM234, hb_up_ne (fun q9 => by rw [q9, hq235] at f224; cases f224)]; exact f224
  have f243 : M233 q97 = some (.inl (cJ, 60, .inr (.inl (fun _ => 0)))) := by rw [eM234, hb_up_ne (fun q9 => by rw [q9, hq235] at f225; cases f225)]; exact f225
  have f244 : M233 q76 = some (.inl (cJ, 60, .inr (.inl (fun _ => 0)))) := by rw [eM234, hb_up_ne (fun q9 => by rw [q9, hq235] at f226; cases f226)]; exact f226
  have f245 : M233 q57 = some (.inl (cI, 60, .inl (fun _ => 0))) := by rw [eM234, hb_up_ne (fun q9 => by rw [q9, hq235] at f227; cases f227)]; exact f227
  have f246 : M233 q40 = some (.inl (cI, 60, .inl (fun _ => 0))) := by rw [eM234, hb_up_ne (fun q9 => by rw [q9, hq235] at f228; cases f228)]; exact f228
  have f247 : M233 q25 = some (.inl (cI, 60, .inl (fun _ => 0))) := by rw [eM234, hb_up_ne (fun q9 => by rw [q9, hq235] at f229; cases f229)]; exact f229
  have f248 : M233 q12 = some (.inl (cJ, 16, .inr (.inl (fun _ => 0)))) := by rw [eM234, hb_up_ne (fun q9 => by rw [q9, hq235] at f230; cases f230)]; exact f230
  have f249 : M233 q1 = some (.inl (cJ, 16, .inr (.inl (fun _ => 0)))) := by rw [eM234, hb_up_ne (fun q9 => by rw [q9, hq235] at f231; cases f231)]; exact f231
  refine hb_putF (ty := .array .int) hx hb hts hown hC_Md hK hP hD hS f238 17 (by decide) rfl fl_Md_44 rfl hnm rfl rfl rfl rfl (Nat.le_of_ble_eq_true rfl) d_Md_init_97 (fun M250 H locs eM251 hP hD hS => ?_)
  have f252 : M250 y = some (.inr (4, [.int 0, .int 0, .int 0, .int 0, .int 0, .ref q1, .ref q12, .int 0, .ref q25, .ref q40, .ref q57, .ref q76, .ref q97, .ref q120, .ref q145, .ref q172, .ref q201, .ref q232])) := by rw [eM251]; exact hb_up_self
  have f253 : M250 q232 = some (.inl (cI, 60, .inl (fun _ => 0))) := by rw [eM251, hb_up_ne (Ne.symm (fun q9 => by rw [q9, hq235] at f220; cases f220))]; exact f237
  have f254 : M250 q201 = some (.inl (cJ, 60, .inr (.inl (fun _ => 0)))) := by rw [eM251, hb_up_ne (Ne.symm (fun q9 => by rw [q9, hq204] at f190; cases f190))]; exact f239
  have f255 : M250 q172 = some (.inl (cI, 60, .inl (fun _ => 0))) := by rw [eM251, hb_up_ne (Ne.symm (fun q9 => by rw [q9, hq175] at f162; cases f162))]; exact f240
  have f256 : M250 q145 = some (.inl (cI, 60, .inl (fun _ => 0))) := by rw [eM251, hb_up_ne (Ne.symm (fun q9 => by rw [q9, hq148] at f136; cases f136))]; exact f241
  have f257 : M250 q120 = some (.inl (cI, 60, .inl (fun _ => 0))) := by rw [eM251, hb_up_ne (Ne.symm (fun q9 => by rw [q9, hq123] at f112; cases f112))]; exact f242
  have f258 : M250 q97 = some (.inl (cJ, 60, .inr (.inl (fun _ => 0)))) := by rw [eM251, hb_up_ne (Ne.symm (fun q9 => by rw [q9, hq100] at f90; cases f90))]; exact f243
  have f259 : M250 q76 = some (.inl (cJ, 60, .inr (.inl (fun _ => 0)))) := by rw [eM251, hb_up_ne (Ne.symm (fun q9 => by rw [q9, hq79] at f70; cases f70))]; exact f244
  have f260 : M250 q57 = some (.inl (cI, 60, .inl (fun _ => 0))) := by rw [eM251, hb_up_ne (Ne.symm (fun q9 => by rw [q9, hq60] at f52; cases f52))]; exact f245
  have f261 : M250 q40 = some (.inl (cI, 60, .inl (fun _ => 0))) := by rw [eM251, hb_up_ne (Ne.symm (fun q9 => by rw [q9, hq43] at f36; cases f36))]; exact f246
  have f262 : M250 q25 = some (.inl (cI, 60, .inl (fun _ => 0))) := by rw [eM251, hb_up_ne (Ne.symm (fun q9 => by rw [q9, hq28] at f22; cases f22))]; exact f247
  have f263 : M250 q12 = some (.inl (cJ, 16, .inr (.inl (fun _ => 0)))) := by rw [eM251, hb_up_ne (Ne.symm (fun q9 => by rw [q9, hq15] at f10; cases f10))]; exact f248
  have f264 : M250 q1 = some (.inl (cJ, 16, .inr (.inl (fun _ => 0)))) := by rw [eM251, hb_up_ne (Ne.symm (fun q9 => by rw [q9, hq4] at fy; cases fy))]; exact f249
  refine lv_aload_n hx hb d_Md_init_100 rfl (lv_at hl 0 rfl) ?_
  refine lv_iload_n hx hb d_Md_init_101 rfl (lv_at hl 1 rfl) ?_
  refine lv_iconst (v := 1) hx hb d_Md_init_102 (by decide) ?_
  refine lv_icmp_ge (tgt := 110) hx hb d_Md_init_103 (by decide) (fun c265 => ?_) (fun c265 => ?_)
  · skip
    have c265n := hb_ngti c265
    refine lv_iload_n hx hb d_Md_init_110 rfl (lv_at hl 1 rfl) ?_
    refine lv_sipush (v := 5000) hx hb d_Md_init_111 (by decide) ?_
    refine lv_icmp_le (tgt := 123) hx hb d_Md_init_114 (by decide) (fun c266 => ?_) (fun c266 => ?_)
    · skip
      have c266n := hb_ngti c266
      refine lv_iload_n hx hb d_Md_init_123 rfl (lv_at hl 1 rfl) ?_
      refine hb_putF (ty := .int) hx hb hts hown hC_Md hK hP hD hS f252 1 (by decide) rfl fl_Md_47 rfl hnm rfl rfl rfl rfl (Nat.le_of_ble_eq_true rfl) d_Md_init_124 (fun M267 H locs eM268 hP hD hS => ?_)
      have f269 : M267 y = some (.inr (4, [.int 0, .int k1, .int 0, .int 0, .int 0, .ref q1, .ref q12, .int 0, .ref q25, .ref q40, .ref q57, .ref q76, .ref q97, .ref q120, .ref q145, .ref q172, .ref q201, .ref q232])) := by rw [eM268]; exact hb_up_self
      have f270 : M267 q232 = some (.inl (cI, 60, .inl (fun _ => 0))) := by rw [eM268, hb_up_ne (Ne.symm (fun q9 => by rw [q9, hq235] at f220; cases f220))]; exact f253
      have f271 : M267 q201 = some (.inl (cJ, 60, .inr (.inl (fun _ => 0)))) := by rw [eM268, hb_up_ne (Ne.symm (fun q9 => by rw [q9, hq204] at f190; cases f190))]; exact f254
      have f272 : M267 q172 = some (.inl (cI, 60, .inl (fun _ => 0))) := by rw [eM268, hb_up_ne (Ne.symm (fun q9 => by rw [q9, hq175] at f162; cases f162))]; exact f255
      have f273 : M267 q145 = some (.inl (cI, 60, .inl (fun _ => 0))) := by rw [eM268, hb_up_ne (Ne.symm (fun q9 => by rw [q9, hq148] at f136; cases f136))]; exact f256
      have f274 : M267 q120 = some (.inl (cI, 60, .inl (fun _ => 0))) := by rw [eM268, hb_up_ne (Ne.symm (fun q9 => by rw [q9, hq123] at f112; cases f112))]; exact f257
      have f275 : M267 q97 = some (.inl (cJ, 60, .inr (.inl (fun _ => 0)))) := by rw [eM268, hb_up_ne (Ne.symm (fun q9 => by rw [q9, hq100] at f90; cases f90))]; exact f258
      have f276 : M267 q76 = some (.inl (cJ, 60, .inr (.inl (fun _ => 0)))) := by rw [eM268, hb_up_ne (Ne.symm (fun q9 => by rw [q9, hq79] at f70; cases f70))]; exact f259
      have f277 : M267 q57 = some (.inl (cI, 60, .inl (fun _ => 0))) := by rw [eM268, hb_up_ne (Ne.symm (fun q9 => by rw [q9, hq60] at f52; cases f52))]; exact f260
      have f278 : M267 q40 = some (.inl (cI, 60, .inl (fun _ => 0))) := by rw [eM268, hb_up_ne (Ne.symm (fun q9 => by rw [q9, hq43] at f36; cases f36))]; exact f261
      have f279 : M267 q25 = some (.inl (cI, 60, .inl (fun _ => 0))) := by rw [eM268, hb_up_ne (Ne.symm (fun q9 => by rw [q9, hq28] at f22; cases f22))]; exact f262
      have f280 : M267 q12 = some (.inl (cJ, 16, .inr (.inl (fun _ => 0)))) := by rw [eM268, hb_up_ne (Ne.symm (fun q9 => by rw [q9, hq15] at f10; cases f10))]; exact f263
      have f281 : M267 q1 = some (.inl (cJ, 16, .inr (.inl (fun _ => 0)))) := by rw [eM268, hb_up_ne (Ne.symm (fun q9 => by rw [q9, hq4] at fy; cases fy))]; exact f264
      refine lv_aload_n hx hb d_Md_init_127 rfl (lv_at hl 0 rfl) ?_
      refine lv_iload_n hx hb d_Md_init_128 rfl (lv_at hl 2 rfl) ?_
      refine lv_iconst (v := 1) hx hb d_Md_init_129 (by decide) ?_
      refine lv_icmp_ge (tgt := 137) hx hb d_Md_init_130 (by decide) (fun c282 => ?_) (fun c282 => ?_)
      · skip
        have c282n := hb_ngti c282
        refine lv_iload_n hx hb d_Md_init_137 rfl (lv_at hl 2 rfl) ?_
        refine lv_sipush (v := 5000) hx hb d_Md_init_138 (by decide) ?_
        refine lv_icmp_le (tgt := 150) hx hb d_Md_init_141 (by decide) (fun c283 => ?_) (fun c283 => ?_)
        · skip
          have c283n := hb_ngti c283
          refine lv_iload_n hx hb d_Md_init_150 rfl (lv_at hl 2 rfl) ?_
          refine hb_putF (ty := .int) hx hb hts hown hC_Md hK hP hD hS f269 2 (by decide) rfl fl_Md_51 rfl hnm rfl rfl rfl rfl (Nat.le_of_ble_eq_true rfl) d_Md_init_151 (fun M284 H locs eM285 hP hD hS => ?_)
          have f286 : M284 y = some (.inr (4, [.int 0, .int k1, .int k2, .int 0, .int 0, .ref q1, .ref q12, .int 0, .ref q25, .ref q40, .ref q57, .ref q76, .ref q97, .ref q120, .ref q145, .ref q172, .ref q201, .ref q232])) := by rw [eM285]; exact hb_up_self
          have f287 : M284 q232 = some (.inl (cI, 60, .inl (fun _ => 0))) := by rw [eM285, hb_up_ne (Ne.symm (fun q9 => by rw [q9, hq235] at f220; cases f220))]; exact f270
          have f288 : M284 q201 = some (.inl (cJ, 60, .inr (.inl (fun _ => 0)))) := by rw [eM285, hb_up_ne (Ne.symm (fun q9 => by rw [q9, hq204] at f190; cases f190))]; exact f271
          have f289 : M284 q172 = some (.inl (cI, 60, .inl (fun _ => 0))) := by rw [eM285, hb_up_ne (Ne.symm (fun q9 => by rw [q9, hq175] at f162; cases f162))]; exact f272
          have f290 : M284 q145 = some (.inl (cI, 60, .inl (fun _ => 0))) := by rw [eM285, hb_up_ne (Ne.symm (fun q9 => by rw [q9, hq148] at f136; cases f136))]; exact f273
          have f291 : M284 q120 = some (.inl (cI, 60, .inl (fun _ => 0))) := by rw [eM285, hb_up_ne (Ne.symm (fun q9 => by rw [q9, hq123] at f112; cases f112))]; exact f274
          have f292 : M284 q97 = some (.inl (cJ, 60, .inr (.inl (fun _ => 0)))) := by rw [eM285, hb_up_ne (Ne.symm (fun q9 => by rw [q9, hq100] at f90; cases f90))]; exact f275
          have f293 : M284 q76 = some (.inl (cJ, 60, .inr (.inl (fun _ => 0)))) := by rw [eM285, hb_up_ne (Ne.symm (fun q9 => by rw [q9, hq79] at f70; cases f70))]; exact f276
          have f294 : M284 q57 = some (.inl (cI, 60, .inl (fun _ => 0))) := by rw [eM285, hb_up_ne (Ne.symm (fun q9 => by rw [q9, hq60] at f52; cases f52))]; exact f277
          have f295 : M284 q40 = some (.inl (cI, 60, .inl (fun _ => 0))) := by rw [eM285, hb_up_ne (Ne.symm (fun q9 => by rw [q9, hq43] at f36; cases f36))]; exact f278
          have f296 : M284 q25 = some (.inl (cI, 60, .inl (fun _ => 0))) := by rw [eM285, hb_up_ne (Ne.symm (fun q9 => by rw [q9, hq28] at f22; cases f22))]; exact f279
          have f297 : M284 q12 = some (.inl (cJ, 16, .inr (.inl (fun _ => 0)))) := by rw [eM285, hb_up_ne (Ne.symm (fun q9 => by rw [q9, hq15] at f10; cases f10))]; exact f280
          have f298 : M284 q1 = some (.inl (cJ, 16, .inr (.inl (fun _ => 0)))) := by rw [eM285, hb_up_ne (Ne.symm (fun q9 => by rw [q9, hq4] at fy; cases fy))]; exact f281
          have hap0 := hb_ap.nil
          have hap1 : hb_ap [q1] := hap0.push (L := []) (by simp)
          have hap2 : hb_ap [q1, q12] := hap1.push (L := [q1]) (by simp only [List.mem_cons, List.not_mem_nil, or_false]; exact Ne.symm (fun q9 => by rw [q9, hq15] at f11; cases f11))
          have hap3 : hb_ap [q1, q12, q25] := hap2.push (L := [q1, q12]) (by simp only [List.mem_cons, List.not_mem_nil, or_false, not_or]; exact ⟨Ne.symm (fun q9 => by rw [q9, hq28] at f24; cases f24), Ne.symm (fun q9 => by rw [q9, hq28] at f23; cases f23)⟩)
          have hap4 : hb_ap [q1, q12, q25, q40] := hap3.push (L := [q1, q12, q25]) (by simp only [List.mem_cons, List.not_mem_nil, or_false, not_or]; exact ⟨Ne.symm (fun q9 => by rw [q9, hq43] at f39; cases f39), Ne.symm (fun q9 => by rw [q9, hq43] at f38; cases f38), Ne.symm (fun q9 => by rw [q9, hq43] at f37; cases f37)⟩)
          have hap5 : hb_ap [q1, q12, q25, q40, q57] := hap4.push (L := [q1, q12, q25, q40]) (by simp only [List.mem_cons, List.not_mem_nil, or_false, not_or]; exact ⟨Ne.symm (fun q9 => by rw [q9, hq60] at f56; cases f56), Ne.symm (fun q9 => by rw [q9, hq60] at f55; cases f55), Ne.symm (fun q9 => by rw [q9, hq60] at f54; cases f54), Ne.symm (fun q9 => by rw [q9, hq60] at f53; cases f53)⟩)
          have hap6 : hb_ap [q1, q12, q25, q40, q57, q76] := hap5.push (L := [q1, q12, q25, q40, q57]) (by simp only [List.mem_cons, List.not_mem_nil, or_false, not_or]; exact ⟨Ne.symm (fun q9 => by rw [q9, hq79] at f75; cases f75), Ne.symm (fun q9 => by rw [q9, hq79] at f74; cases f74), Ne.symm (fun q9 => by rw [q9, hq79] at f73; cases f73), Ne.symm (fun q9 => by rw [q9, hq79] at f72; cases f72), Ne.symm (fun q9 => by rw [q9, hq79] at f71; cases f71)⟩)
          have hap7 : hb_ap [q1, q12, q25, q40, q57, q76, q97] := hap6.push (L := [q1, q12, q25, q40, q57, q76]) (by simp only [List.mem_cons, List.not_mem_nil, or_false, not_or]; exact ⟨Ne.symm (fun q9 => by rw [q9, hq100] at f96; cases f96), Ne.symm (fun q9 => by rw [q9, hq100] at f95; cases f95), Ne.symm (fun q9 => by rw [q9, hq100] at f94; cases f94), Ne.symm (fun q9 => by rw [q9, hq100] at f93; cases f93), Ne.symm (fun q9 => by rw [q9, hq100] at f92; cases f92), Ne.symm (fun q9 => by rw [q9, hq100] at f91; cases f91)⟩)
          have hap8 : hb_ap [q1, q12, q25, q40, q57, q76, q97, q120] := hap7.push (L := [q1, q12, q25, q40, q57, q76, q97]) (by simp only [List.mem_cons, List.not_mem_nil, or_false, not_or]; exact ⟨Ne.symm (fun q9 => by rw [q9, hq123] at f119; cases f119), Ne.symm (fun q9 => by rw [q9, hq123] at f118; cases f118), Ne.symm (fun q9 => by rw [q9, hq123] at f117; cases f117), Ne.symm (fun q9 => by rw [q9, hq123] at f116; cases f116), Ne.symm (fun q9 => by rw [q9, hq123] at f115; cases f115), Ne.symm (fun q9 => by rw [q9, hq123] at f114; cases f114), Ne.symm (fun q9 => by rw [q9, hq123] at f113; cases f113)⟩)
          have hap9 : hb_ap [q1, q12, q25, q40, q57, q76, q97, q120, q145] := hap8.push (L := [q1, q12, q25, q40, q57, q76, q97, q120]) (by simp only [List.mem_cons, List.not_mem_nil, or_false, not_or]; exact ⟨Ne.symm (fun q9 => by rw [q9, hq148] at f144; cases f144), Ne.symm (fun q9 => by rw [q9, hq148] at f143; cases f143), Ne.symm (fun q9 => by rw [q9, hq148] at f142; cases f142), Ne.symm (fun q9 => by rw [q9, hq148] at f141; cases f141), Ne.symm (fun q9 => by rw [q9, hq148] at f140; cases f140), Ne.symm (fun q9 => by rw [q9, hq148] at f139; cases f139), Ne.symm (fun q9 => by rw [q9, hq148] at f138; cases f138), Ne.symm (fun q9 => by rw [q9, hq148] at f137; cases f137)⟩)
          have hap10 : hb_ap [q1, q12, q25, q40, q57, q76, q97, q120, q145, q172] := hap9.push (L := [q1, q12, q25, q40, q57, q76, q97, q120, q145]) (by simp only [List.mem_cons, List.not_mem_nil, or_false, not_or]; exact ⟨Ne.symm (fun q9 => by rw [q9, hq175] at f171; cases f171), Ne.symm (fun q9 => by rw [q9, hq175] at f170; cases f170), Ne.symm (fun q9 => by rw [q9, hq175] at f169; cases f169), Ne.symm (fun q9 => by rw [q9, hq175] at f168; cases f168), Ne.symm (fun q9 => by rw [q9, hq175] at f167; cases f167), Ne.symm (fun q9 => by rw [q9, hq175] at f166; cases f166), Ne.symm (fun q9 => by rw [q9, hq175] at f165; cases f165), Ne.symm (fun q9 => by rw [q9, hq175] at f164; cases f164), Ne.symm (fun q9 => by rw [q9, hq175] at f163; cases f163)⟩)
          have hap11 : hb_ap [q1, q12, q25, q40, q57, q76, q97, q120, q145, q172, q201] := hap10.push (L := [q1, q12, q25, q40, q57, q76, q97, q120, q145, q172]) (by simp only [List.mem_cons, List.not_mem_nil, or_false, not_or]; exact ⟨Ne.symm (fun q9 => by rw [q9, hq204] at f200; cases f200), Ne.symm (fun q9 => by rw [q9, hq204] at f199; cases f199), Ne.symm (fun q9 => by rw [q9, hq204] at f198; cases f198), Ne.symm (fun q9 => by rw [q9, hq204] at f197; cases f197), Ne.symm (fun q9 => by rw [q9, hq204] at f196; cases f196), Ne.symm (fun q9 => by rw [q9, hq204] at f195; cases f195), Ne.symm (fun q9 => by rw [q9, hq204] at f194; cases f194), Ne.symm (fun q9 => by rw [q9, hq204] at f193; cases f193), Ne.symm (fun q9 => by rw [q9, hq204] at f192; cases f192), Ne.symm (fun q9 => by rw [q9, hq204] at f191; cases f191)⟩)
          have hap12 : hb_ap [q1, q12, q25, q40, q57, q76, q97, q120, q145, q172, q201, q232] := hap11.push (L := [q1, q12, q25, q40, q57, q76, q97, q120, q145, q172, q201]) (by simp only [List.mem_cons, List.not_mem_nil, or_false, not_or]; exact ⟨Ne.symm (fun q9 => by rw [q9, hq235] at f231; cases f231), Ne.symm (fun q9 => by rw [q9, hq235] at f230; cases f230), Ne.symm (fun q9 => by rw [q9, hq235] at f229; cases f229), Ne.symm (fun q9 => by rw [q9, hq235] at f228; cases f228), Ne.symm (fun q9 => by rw [q9, hq235] at f227; cases f227), Ne.symm (fun q9 => by rw [q9, hq235] at f226; cases f226), Ne.symm (fun q9 => by rw [q9, hq235] at f225; cases f225), Ne.symm (fun q9 => by rw [q9, hq235] at f224; cases f224), Ne.symm (fun q9 => by rw [q9, hq235] at f223; cases f223), Ne.symm (fun q9 => by rw [q9, hq235] at f222; cases f222), Ne.symm (fun q9 => by rw [q9, hq235] at f221; cases f221)⟩)
          exact hb_vret hAe hx hb hr hlocks hP hD hS (Nat.le_of_ble_eq_true rfl) (Nat.le_of_ble_eq_true rfl) (⟨rfl, q1, q12, q25, q40, q57, q76, q97, q120, q145, q172, q201, q232, by rw [if_neg c265n, if_neg c266n, if_neg c282n, if_neg c283n]; exact ⟨f286, f298, f297, f296, f295, f294, f293, f292, f291, f290, f289, f288, f287, hap12⟩⟩) d_Md_init_154
        · skip
          have c283n := hb_gti c283
          refine lv_sipush (v := 5000) hx hb d_Md_init_144 (by decide) ?_
          refine lv_goto (tgt := 151) hx hb d_Md_init_147 (by decide) ?_
          refine hb_putF (ty := .int) hx hb hts hown hC_Md hK hP hD hS f269 2 (by decide) rfl fl_Md_51 rfl hnm rfl rfl rfl rfl (Nat.le_of_ble_eq_true rfl) d_Md_init_151 (fun M299 H locs eM300 hP hD hS => ?_)
          have f301 : M299 y = some (.inr (4, [.int 0, .int k1, .int 5000, .int 0, .int 0, .ref q1, .ref q12, .int 0, .ref q25, .ref q40, .ref q57, .ref q76, .ref q97, .ref q120, .ref q145, .ref q172, .ref q201, .ref q232])) := by rw [eM300]; exact hb_up_self
          have f302 : M299 q232 = some (.inl (cI, 60, .inl (fun _ => 0))) := by rw [eM300, hb_up_ne (Ne.symm (fun q9 => by rw [q9, hq235] at f220; cases f220))]; exact f270
          have f303 : M299 q201 = some (.inl (cJ, 60, .inr (.inl (fun _ => 0)))) := by rw [eM300, hb_up_ne (Ne.symm (fun q9 => by rw [q9, hq204] at f190; cases f190))]; exact f271
          have f304 : M299 q172 = some (.inl (cI, 60, .inl (fun _ => 0))) := by rw [eM300, hb_up_ne (Ne.symm (fun q9 => by rw [q9, hq175] at f162; cases f162))]; exact f272
          have f305 : M299 q145 = some (.inl (cI, 60, .inl (fun _ => 0))) := by rw [eM300, hb_up_ne (Ne.symm (fun q9 => by rw [q9, hq148] at f136; cases f136))]; exact f273
          have f306 : M299 q120 = some (.inl (cI, 60, .inl (fun _ => 0))) := by rw [eM300, hb_up_ne (Ne.symm (fun q9 => by rw [q9, hq123] at f112; cases f112))]; exact f274
          have f307 : M299 q97 = some (.inl (cJ, 60, .inr (.inl (fun _ => 0)))) := by rw [eM300, hb_up_ne (Ne.symm (fun q9 => by rw [q9, hq100] at f90; cases f90))]; exact f275
          have f308 : M299 q76 = some (.inl (cJ, 60, .inr (.inl (fun _ => 0)))) := by rw [eM300, hb_up_ne (Ne.symm (fun q9 => by rw [q9, hq79] at f70; cases f70))]; exact f276
          have f309 : M299 q57 = some (.inl (cI, 60, .inl (fun _ => 0))) := by rw [eM300, hb_up_ne (Ne.symm (fun q9 => by rw [q9, hq60] at f52; cases f52))]; exact f277
          have f310 : M299 q40 = some (.inl (cI, 60, .inl (fun _ => 0))) := by rw [eM300, hb_up_ne (Ne.symm (fun q9 => by rw [q9, hq43] at f36; cases f36))]; exact f278
          have f311 : M299 q25 = some (.inl (cI, 60, .inl (fun _ => 0))) := by rw [eM300, hb_up_ne (Ne.symm (fun q9 => by rw [q9, hq28] at f22; cases f22))]; exact f279
          have f312 : M299 q12 = some (.inl (cJ, 16, .inr (.inl (fun _ => 0)))) := by rw [eM300, hb_up_ne (Ne.symm (fun q9 => by rw [q9, hq15] at f10; cases f10))]; exact f280
          have f313 : M299 q1 = some (.inl (cJ, 16, .inr (.inl (fun _ => 0)))) := by rw [eM300, hb_up_ne (Ne.symm (fun q9 => by rw [q9, hq4] at fy; cases fy))]; exact f281
          have hap0 := hb_ap.nil
          have hap1 : hb_ap [q1] := hap0.push (L := []) (by simp)
          have hap2 : hb_ap [q1, q12] := hap1.push (L := [q1]) (by simp only [List.mem_cons, List.not_mem_nil, or_false]; exact Ne.symm (fun q9 => by rw [q9, hq15] at f11; cases f11))
          have hap3 : hb_ap [q1, q12, q25] := hap2.push (L := [q1, q12]) (by simp only [List.mem_cons, List.not_mem_nil, or_false, not_or]; exact ⟨Ne.symm (fun q9 => by rw [q9, hq28] at f24; cases f24), Ne.symm (fun q9 => by rw [q9, hq28] at f23; cases f23)⟩)
          have hap4 : hb_ap [q1, q12, q25, q40] := hap3.push (L := [q1, q12, q25]) (by simp only [List.mem_cons, List.not_mem_nil, or_false, not_or]; exact ⟨Ne.symm (fun q9 => by rw [q9, hq43] at f39; cases f39), Ne.symm (fun q9 => by rw [q9, hq43] at f38; cases f38), Ne.symm (fun q9 => by rw [q9, hq43] at f37; cases f37)⟩)
          have hap5 : hb_ap [q1, q12, q25, q40, q57] := hap4.push (L := [q1, q12, q25, q40]) (by simp only [List.mem_cons, List.not_mem_nil, or_false, not_or]; exact ⟨Ne.symm (fun q9 => by rw [q9, hq60] at f56; cases f56), Ne.symm (fun q9 => by rw [q9, hq60] at f55; cases f55), Ne.symm (fun q9 => by rw [q9, hq60] at f54; cases f54), Ne.symm (fun q9 => by rw [q9, hq60] at f53; cases f53)⟩)
          have hap6 : hb_ap [q1, q12, q25, q40, q57, q76] := hap5.push (L := [q1, q12, q25, q40, q57]) (by simp only [List.mem_cons, List.not_mem_nil, or_false, not_or]; exact ⟨Ne.symm (fun q9 => by rw [q9, hq79] at f75; cases f75), Ne.symm (fun q9 => by rw [q9, hq79] at f74; cases f74), Ne.symm (fun q9 => by rw [q9, hq79] at f73; cases f73), Ne.symm (fun q9 => by rw [q9, hq79] at f72; cases f72), Ne.symm (fun q9 => by rw [q9, hq79] at f71; cases f71)⟩)
          have hap7 : hb_ap [q1, q12, q25, q40, q57, q76, q97] := hap6.push (L := [q1, q12, q25, q40, q57, q76]) (by simp only [List.mem_cons, List.not_mem_nil, or_false, not_or]; exact ⟨Ne.symm (fun q9 => by rw [q9, hq100] at f96; cases f96), Ne.symm (fun q9 => by rw [q9, hq100] at f95; cases f95), Ne.symm (fun q9 => by rw [q9, hq100] at f94; cases f94), Ne.symm (fun q9 => by rw [q9, hq100] at f93; cases f93), Ne.symm (fun q9 => by rw [q9, hq100] at f92; cases f92), Ne.symm (fun q9 => by rw [q9, hq100] at f91; cases f91)⟩)
          have hap8 : hb_ap [q1, q12, q25, q40, q57, q76, q97, q120] := hap7.push (L := [q1, q12, q25, q40, q57, q76, q97]) (by simp only [List.mem_cons, List.not_mem_nil, or_false, not_or]; exact ⟨Ne.symm (fun q9 => by rw [q9, hq123] at f119; cases f119), Ne.symm (fun q9 => by rw [q9, hq123] at f118; cases f118), Ne.symm (fun q9 => by rw [q9, hq123] at f117; cases f117), Ne.symm (fun q9 => by rw [q9, hq123] at f116; cases f116), Ne.symm (fun q9 => by rw [q9, hq123] at f115; cases f115), Ne.symm (fun q9 => by rw [q9, hq123] at f114; cases f114), Ne.symm (fun q9 => by rw [q9, hq123] at f113; cases f113)⟩)
          have hap9 : hb_ap [q1, q12, q25, q40, q57, q76, q97, q120, q145] := hap8.push (L := [q1, q12, q25, q40, q57, q76, q97, q120]) (by simp only [List.mem_cons, List.not_mem_nil, or_false, not_or]; exact ⟨Ne.symm (fun q9 => by rw [q9, hq148] at f144; cases f144), Ne.symm (fun q9 => by rw [q9, hq148] at f143; cases f143), Ne.symm (fun q9 => by rw [q9, hq148] at f142; cases f142), Ne.symm (fun q9 => by rw [q9, hq148] at f141; cases f141), Ne.symm (fun q9 => by rw [q9, hq148] at f140; cases f140), Ne.symm (fun q9 => by rw [q9, hq148] at f139; cases f139), Ne.symm (fun q9 => by rw [q9, hq148] at f138; cases f138), Ne.symm (fun q9 => by rw [q9, hq148] at f137; cases f137)⟩)
          have hap10 : hb_ap [q1, q12, q25, q40, q57, q76, q97, q120, q145, q172] := hap9.push (L := [q1, q12, q25, q40, q57, q76, q97, q120, q145]) (by simp only [List.mem_cons, List.not_mem_nil, or_false, not_or]; exact ⟨Ne.symm (fun q9 => by rw [q9, hq175] at f171; cases f171), Ne.symm (fun q9 => by rw [q9, hq175] at f170; cases f170), Ne.symm (fun q9 => by rw [q9, hq175] at f169; cases f169), Ne.symm (fun q9 => by rw [q9, hq175] at f168; cases f168), Ne.symm (fun q9 => by rw [q9, hq175] at f167; cases f167), Ne.symm (fun q9 => by rw [q9, hq175] at f166; cases f166), Ne.symm (fun q9 => by rw [q9, hq175] at f165; cases f165), Ne.symm (fun q9 => by rw [q9, hq175] at f164; cases f164), Ne.symm (fun q9 => by rw [q9, hq175] at f163; cases f163)⟩)
          have hap11 : hb_ap [q1, q12, q25, q40, q57, q76, q97, q120, q145, q172, q201] := hap10.push (L := [q1, q12, q25, q40, q57, q76, q97, q120, q145, q172]) (by simp only [List.mem_cons, List.not_mem_nil, or_false, not_or]; exact ⟨Ne.symm (fun q9 => by rw [q9, hq204] at f200; cases f200), Ne.symm (fun q9 => by rw [q9, hq204] at f199; cases f199), Ne.symm (fun q9 => by rw [q9, hq204] at f198; cases f198), Ne.symm (fun q9 => by rw [q9, hq204] at f197; cases f197), Ne.symm (fun q9 => by rw [q9, hq204] at f196; cases f196), Ne.symm (fun q9 => by rw [q9, hq204] at f195; cases f195), Ne.symm (fun q9 => by rw [q9, hq204] at f194; cases f194), Ne.symm (fun q9 => by rw [q9, hq204] at f193; cases f193), Ne.symm (fun q9 => by rw [q9, hq204] at f192; cases f192), Ne.symm (fun q9 => by rw [q9, hq204] at f191; cases f191)⟩)
          have hap12 : hb_ap [q1, q12, q25, q40, q57, q76, q97, q120, q145, q172, q201, q232] := hap11.push (L := [q1, q12, q25, q40, q57, q76, q97, q120, q145, q172, q201]) (by simp only [List.mem_cons, List.not_mem_nil, or_false, not_or]; exact ⟨Ne.symm (fun q9 => by rw [q9, hq235] at f231; cases f231), Ne.symm (fun q9 => by rw [q9, hq235] at f230; cases f230), Ne.symm (fun q9 => by rw [q9, hq235] at f229; cases f229), Ne.symm (fun q9 => by rw [q9, hq235] at f228; cases f228), Ne.symm (fun q9 => by rw [q9, hq235] at f227; cases f227), Ne.symm (fun q9 => by rw [q9, hq235] at f226; cases f226), Ne.symm (fun q9 => by rw [q9, hq235] at f225; cases f225), Ne.symm (fun q9 => by rw [q9, hq235] at f224; cases f224), Ne.symm (fun q9 => by rw [q9, hq235] at f223; cases f223), Ne.symm (fun q9 => by rw [q9, hq235] at f222; cases f222), Ne.symm (fun q9 => by rw [q9, hq235] at f221; cases f221)⟩)
          exact hb_vret hAe hx hb hr hlocks hP hD hS (Nat.le_of_ble_eq_true rfl) (Nat.le_of_ble_eq_true rfl) (⟨rfl, q1, q12, q25, q40, q57, q76, q97, q120, q145, q172, q201, q232, by rw [if_neg c265n, if_neg c266n, if_neg c282n, if_pos c283n]; exact ⟨f301, f313, f312, f311, f310, f309, f308, f307, f306, f305, f304, f303, f302, hap12⟩⟩) d_Md_init_154
      · skip
        have c282n := hb_gti c282
        refine lv_iconst (v := 1) hx hb d_Md_init_133 (by decide) ?_
        refine lv_goto (tgt := 151) hx hb d_Md_init_134 (by decide) ?_
        refine hb_putF (ty := .int) hx hb hts hown hC_Md hK hP hD hS f269 2 (by decide) rfl fl_Md_51 rfl hnm rfl rfl rfl rfl (Nat.le_of_ble_eq_true rfl) d_Md_init_151 (fun M314 H locs eM315 hP hD hS => ?_)
        have f316 : M314 y = some (.inr (4, [.int 0, .int k1, .int 1, .int 0, .int 0, .ref q1, .ref q12, .int 0, .ref q25, .ref q40, .ref q57, .ref q76, .ref q97, .ref q120, .ref q145, .ref q172, .ref q201, .ref q232])) := by rw [eM315]; exact hb_up_self
        have f317 : M314 q232 = some (.inl (cI, 60, .inl (fun _ => 0))) := by rw [eM315, hb_up_ne (Ne.symm (fun q9 => by rw [q9, hq235] at f220; cases f220))]; exact f270
        have f318 : M314 q201 = some (.inl (cJ, 60, .inr (.inl (fun _ => 0)))) := by rw [eM315, hb_up_ne (Ne.symm (fun q9 => by rw [q9, hq204] at f190; cases f190))]; exact f271
        have f319 : M314 q172 = some (.inl (cI, 60, .inl (fun _ => 0))) := by rw [eM315, hb_up_ne (Ne.symm (fun q9 => by rw [q9, hq175] at f162; cases f162))]; exact f272
        have f320 : M314 q145 = some (.inl (cI, 60, .inl (fun _ => 0))) := by rw [eM315, hb_up_ne (Ne.symm (fun q9 => by rw [q9, hq148] at f136; cases f136))]; exact f273
        have f321 : M314 q120 = some (.inl (cI, 60, .inl (fun _ => 0))) := by rw [eM315, hb_up_ne (Ne.symm (fun q9 => by rw [q9, hq123] at f112; cases f112))]; exact f274
        have f322 : M314 q97 = some (.inl (cJ, 60, .inr (.inl (fun _ => 0)))) := by rw [eM315, hb_up_ne (Ne.symm (fun q9 => by rw [q9, hq100] at f90; cases f90))]; exact f275
        have f323 : M314 q76 = some (.inl (cJ, 60, .inr (.inl (fun _ => 0)))) := by rw [eM315, hb_up_ne (Ne.symm (fun q9 => by rw [q9, hq79] at f70; cases f70))]; exact f276
        have f324 : M314 q57 = some (.inl (cI, 60, .inl (fun _ => 0))) := by rw [eM315, hb_up_ne (Ne.symm (fun q9 => by rw [q9, hq60] at f52; cases f52))]; exact f277
        have f325 : M314 q40 = some (.inl (cI, 60, .inl (fun _ => 0))) := by rw [eM315, hb_up_ne (Ne.symm (fun q9 => by rw [q9, hq43] at f36; cases f36))]; exact f278
        have f326 : M314 q25 = some (.inl (cI, 60, .inl (fun _ => 0))) := by rw [eM315, hb_up_ne (Ne.symm (fun q9 => by rw [q9, hq28] at f22; cases f22))]; exact f279
        have f327 : M314 q12 = some (.inl (cJ, 16, .inr (.inl (fun _ => 0)))) := by rw [eM315, hb_up_ne (Ne.symm (fun q9 => by rw [q9, hq15] at f10; cases f10))]; exact f280
        have f328 : M314 q1 = some (.inl (cJ, 16, .inr (.inl (fun _ => 0)))) := by rw [eM315, hb_up_ne (Ne.symm (fun q9 => by rw [q9, hq4] at fy; cases fy))]; exact f281
        have hap0 := hb_ap.nil
        have hap1 : hb_ap [q1] := hap0.push (L := []) (by simp)
        have hap2 : hb_ap [q1, q12] := hap1.push (L := [q1]) (by simp only [List.mem_cons, List.not_mem_nil, or_false]; exact Ne.symm (fun q9 => by rw [q9, hq15] at f11; cases f11))
        have hap3 : hb_ap [q1, q12, q25] := hap2.push (L := [q1, q12]) (by simp only [List.mem_cons, List.not_mem_nil, or_false, not_or]; exact ⟨Ne.symm (fun q9 => by rw [q9, hq28] at f24; cases f24), Ne.symm (fun q9 => by rw [q9, hq28] at f23; cases f23)⟩)
        have hap4 : hb_ap [q1, q12, q25, q40] := hap3.push (L := [q1, q12, q25]) (by simp only [List.mem_cons, List.not_mem_nil, or_false, not_or]; exact ⟨Ne.symm (fun q9 => by rw [q9, hq43] at f39; cases f39), Ne.symm (fun q9 => by rw [q9, hq43] at f38; cases f38), Ne.symm (fun q9 => by rw [q9, hq43] at f37; cases f37)⟩)
        have hap5 : hb_ap [q1, q12, q25, q40, q57] := hap4.push (L := [q1, q12, q25, q40]) (by simp only [List.mem_cons, List.not_mem_nil, or_false, not_or]; exact ⟨Ne.symm (fun q9 => by rw [q9, hq60] at f56; cases f56), Ne.symm (fun q9 => by rw [q9, hq60] at f55; cases f55), Ne.symm (fun q9 => by rw [q9, hq60] at f54; cases f54), Ne.symm (fun q9 => by rw [q9, hq60] at f53; cases f53)⟩)
        have hap6 : hb_ap [q1, q12, q25, q40, q57, q76] := hap5.push (L := [q1, q12, q25, q40, q57]) (by simp only [List.mem_cons, List.not_mem_nil, or_false, not_or]; exact ⟨Ne.symm (fun q9 => by rw [q9, hq79] at f75; cases f75), Ne.symm (fun q9 => by rw [q9, hq79] at f74; cases f74), Ne.symm (fun q9 => by rw [q9, hq79] at f73; cases f73), Ne.symm (fun q9 => by rw [q9, hq79] at f72; cases f72), Ne.symm (fun q9 => by rw [q9, hq79] at f71; cases f71)⟩)
        have hap7 : hb_ap [q1, q12, q25, q40, q57, q76, q97] := hap6.push (L := [q1, q12, q25, q40, q57, q76]) (by simp only [List.mem_cons, List.not_mem_nil, or_false, not_or]; exact ⟨Ne.symm (fun q9 => by rw [q9, hq100] at f96; cases f96), Ne.symm (fun q9 => by rw [q9, hq100] at f95; cases f95), Ne.symm (fun q9 => by rw [q9, hq100] at f94; cases f94), Ne.symm (fun q9 => by rw [q9, hq100] at f93; cases f93), Ne.symm (fun q9 => by rw [q9, hq100] at f92; cases f92), Ne.symm (fun q9 => by rw [q9, hq100] at f91; cases f91)⟩)
        have hap8 : hb_ap [q1, q12, q25, q40, q57, q76, q97, q120] := hap7.push (L := [q1, q12, q25, q40, q57, q76, q97]) (by simp only [List.mem_cons, List.not_mem_nil, or_false, not_or]; exact ⟨Ne.symm (fun q9 => by rw [q9, hq123] at f119; cases f119), Ne.symm (fun q9 => by rw [q9, hq123] at f118; cases f118), Ne.symm (fun q9 => by rw [q9, hq123] at f117; cases f117), Ne.symm (fun q9 => by rw [q9, hq123] at f116; cases f116), Ne.symm (fun q9 => by rw [q9, hq123] at f115; cases f115), Ne.symm (fun q9 => by rw [q9, hq123] at f114; cases f114), Ne.symm (fun q9 => by rw [q9, hq123] at f113; cases f113)⟩)
        have hap9 : hb_ap [q1, q12, q25, q40, q57, q76, q97, q120, q145] := hap8.push (L := [q1, q12, q25, q40, q57, q76, q97, q120]) (by simp only [List.mem_cons, List.not_mem_nil, or_false, not_or]; exact ⟨Ne.symm (fun q9 => by rw [q9, hq148] at f144; cases f144), Ne.symm (fun q9 => by rw [q9, hq148] at f143; cases f143), Ne.symm (fun q9 => by rw [q9, hq148] at f142; cases f142), Ne.symm (fun q9 => by rw [q9, hq148] at f141; cases f141), Ne.symm (fun q9 => by rw [q9, hq148] at f140; cases f140), Ne.symm (fun q9 => by rw [q9, hq148] at f139; cases f139), Ne.symm (fun q9 => by rw [q9, hq148] at f138; cases f138), Ne.symm (fun q9 => by rw [q9, hq148] at f137; cases f137)⟩)
        have hap10 : hb_ap [q1, q12, q25, q40, q57, q76, q97, q120, q145, q172] := hap9.push (L := [q1, q12, q25, q40, q57, q76, q97, q120, q145]) (by simp only [List.mem_cons, List.not_mem_nil, or_false, not_or]; exact ⟨Ne.symm (fun q9 => by rw [q9, hq175] at f171; cases f171), Ne.symm (fun q9 => by rw [q9, hq175] at f170; cases f170), Ne.symm (fun q9 => by rw [q9, hq175] at f169; cases f169), Ne.symm (fun q9 => by rw [q9, hq175] at f168; cases f168), Ne.symm (fun q9 => by rw [q9, hq175] at f167; cases f167), Ne.symm (fun q9 => by rw [q9, hq175] at f166; cases f166), Ne.symm (fun q9 => by rw [q9, hq175] at f165; cases f165), Ne.symm (fun q9 => by rw [q9, hq175] at f164; cases f164), Ne.symm (fun q9 => by rw [q9, hq175] at f163; cases f163)⟩)
        have hap11 : hb_ap [q1, q12, q25, q40, q57, q76, q97, q120, q145, q172, q201] := hap10.push (L := [q1, q12, q25, q40, q57, q76, q97, q120, q145, q172]) (by simp only [List.mem_cons, List.not_mem_nil, or_false, not_or]; exact ⟨Ne.symm (fun q9 => by rw [q9, hq204] at f200; cases f200), Ne.symm (fun q9 => by rw [q9, hq204] at f199; cases f199), Ne.symm (fun q9 => by rw [q9, hq204] at f198; cases f198), Ne.symm (fun q9 => by rw [q9, hq204] at f197; cases f197), Ne.symm (fun q9 => by rw [q9, hq204] at f196; cases f196), Ne.symm (fun q9 => by rw [q9, hq204] at f195; cases f195), Ne.symm (fun q9 => by rw [q9, hq204] at f194; cases f194), Ne.symm (fun q9 => by rw [q9, hq204] at f193; cases f193), Ne.symm (fun q9 => by rw [q9, hq204] at f192; cases f192), Ne.symm (fun q9 => by rw [q9, hq204] at f191; cases f191)⟩)
        have hap12 : hb_ap [q1, q12, q25, q40, q57, q76, q97, q120, q145, q172, q201, q232] := hap11.push (L := [q1, q12, q25, q40, q57, q76, q97, q120, q145, q172, q201]) (by simp only [List.mem_cons, List.not_mem_nil, or_false, not_or]; exact ⟨Ne.symm (fun q9 => by rw [q9, hq235] at f231; cases f231), Ne.symm (fun q9 => by rw [q9, hq235] at f230; cases f230), Ne.symm (fun q9 => by rw [q9, hq235] at f229; cases f229), Ne.symm (fun q9 => by rw [q9, hq235] at f228; cases f228), Ne.symm (fun q9 => by rw [q9, hq235] at f227; cases f227), Ne.symm (fun q9 => by rw [q9, hq235] at f226; cases f226), Ne.symm (fun q9 => by rw [q9, hq235] at f225; cases f225), Ne.symm (fun q9 => by rw [q9, hq235] at f224; cases f224), Ne.symm (fun q9 => by rw [q9, hq235] at f223; cases f223), Ne.symm (fun q9 => by rw [q9, hq235] at f222; cases f222), Ne.symm (fun q9 => by rw [q9, hq235] at f221; cases f221)⟩)
        exact hb_vret hAe hx hb hr hlocks hP hD hS (Nat.le_of_ble_eq_true rfl) (Nat.le_of_ble_eq_true rfl) (⟨rfl, q1, q12, q25, q40, q57, q76, q97, q120, q145, q172, q201, q232, by rw [if_neg c265n, if_neg c266n, if_pos c282n]; exact ⟨f316, f328, f327, f326, f325, f324, f323, f322, f321, f320, f319, f318, f317, hap12⟩⟩) d_Md_init_154
    · skip
      have c266n := hb_gti c266
      refine lv_sipush (v := 5000) hx hb d_Md_init_117 (by decide) ?_
      refine lv_goto (tgt := 124) hx hb d_Md_init_120 (by decide) ?_
      refine hb_putF (ty := .int) hx hb hts hown hC_Md hK hP hD hS f252 1 (by decide) rfl fl_Md_47 rfl hnm rfl rfl rfl rfl (Nat.le_of_ble_eq_true rfl) d_Md_init_124 (fun M329 H locs eM330 hP hD hS => ?_)
      have f331 : M329 y = some (.inr (4, [.int 0, .int 5000, .int 0, .int 0, .int 0, .ref q1, .ref q12, .int 0, .ref q25, .ref q40, .ref q57, .ref q76, .ref q97, .ref q120, .ref q145, .ref q172, .ref q201, .ref q232])) := by rw [eM330]; exact hb_up_self
      have f332 : M329 q232 = some (.inl (cI, 60, .inl (fun _ => 0))) := by rw [eM330, hb_up_ne (Ne.symm (fun q9 => by rw [q9, hq235] at f220; cases f220))]; exact f253
      have f333 : M329 q201 = some (.inl (cJ, 60, .inr (.inl (fun _ => 0)))) := by rw [eM330, hb_up_ne (Ne.symm (fun q9 => by rw [q9, hq204] at f190; cases f190))]; exact f254
      have f334 : M329 q172 = some (.inl (cI, 60, .inl (fun _ => 0))) := by rw [eM330, hb_up_ne (Ne.symm (fun q9 => by rw [q9, hq175] at f162; cases f162))]; exact f255
      have f335 : M329 q145 = some (.inl (cI, 60, .inl (fun _ => 0))) := by rw [eM330, hb_up_ne (Ne.symm (fun q9 => by rw [q9, hq148] at f136; cases f136))]; exact f256
      have f336 : M329 q120 = some (.inl (cI, 60, .inl (fun _ => 0))) := by rw [eM330, hb_up_ne (Ne.symm (fun q9 => by rw [q9, hq123] at f112; cases f112))]; exact f257
      have f337 : M329 q97 = some (.inl (cJ, 60, .inr (.inl (fun _ => 0)))) := by rw [eM330, hb_up_ne (Ne.symm (fun q9 => by rw [q9, hq100] at f90; cases f90))]; exact f258
      have f338 : M329 q76 = some (.inl (cJ, 60, .inr (.inl (fun _ => 0)))) := by rw [eM330, hb_up_ne (Ne.symm (fun q9 => by rw [q9, hq79] at f70; cases f70))]; exact f259
      have f339 : M329 q57 = some (.inl (cI, 60, .inl (fun _ => 0))) := by rw [eM330, hb_up_ne (Ne.symm (fun q9 => by rw [q9, hq60] at f52; cases f52))]; exact f260
      have f340 : M329 q40 = some (.inl (cI, 60, .inl (fun _ => 0))) := by rw [eM330, hb_up_ne (Ne.symm (fun q9 => by rw [q9, hq43] at f36; cases f36))]; exact f261
      have f341 : M329 q25 = some (.inl (cI, 60, .inl (fun _ => 0))) := by rw [eM330, hb_up_ne (Ne.symm (fun q9 => by rw [q9, hq28] at f22; cases f22))]; exact f262
      have f342 : M329 q12 = some (.inl (cJ, 16, .inr (.inl (fun _ => 0)))) := by rw [eM330, hb_up_ne (Ne.symm (fun q9 => by rw [q9, hq15] at f10; cases f10))]; exact f263
      have f343 : M329 q1 = some (.inl (cJ, 16, .inr (.inl (fun _ => 0)))) := by rw [eM330, hb_up_ne (Ne.symm (fun q9 => by rw [q9, hq4] at fy; cases fy))]; exact f264
      refine lv_aload_n hx hb d_Md_init_127 rfl (lv_at hl 0 rfl) ?_
      refine lv_iload_n hx hb d_Md_init_128 rfl (lv_at hl 2 rfl) ?_
      refine lv_iconst (v := 1) hx hb d_Md_init_129 (by decide) ?_
      refine lv_icmp_ge (tgt := 137) hx hb d_Md_init_130 (by decide) (fun c344 => ?_) (fun c344 => ?_)
      · skip
        have c344n := hb_ngti c344
        refine lv_iload_n hx hb d_Md_init_137 rfl (lv_at hl 2 rfl) ?_
        refine lv_sipush (v := 5000) hx hb d_Md_init_138 (by decide) ?_
        refine lv_icmp_le (tgt := 150) hx hb d_Md_init_141 (by decide) (fun c345 => ?_) (fun c345 => ?_)
        · skip
          have c345n := hb_ngti c345
          refine lv_iload_n hx hb d_Md_init_150 rfl (lv_at hl 2 rfl) ?_
          refine hb_putF (ty := .int) hx hb hts hown hC_Md hK hP hD hS f331 2 (by decide) rfl fl_Md_51 rfl hnm rfl rfl rfl rfl (Nat.le_of_ble_eq_true rfl) d_Md_init_151 (fun M346 H locs eM347 hP hD hS => ?_)
          have f348 : M346 y = some (.inr (4, [.int 0, .int 5000, .int k2, .int 0, .int 0, .ref q1, .ref q12, .int 0, .ref q25, .ref q40, .ref q57, .ref q76, .ref q97, .ref q120, .ref q145, .ref q172, .ref q201, .ref q232])) := by rw [eM347]; exact hb_up_self
          have f349 : M346 q232 = some (.inl (cI, 60, .inl (fun _ => 0))) := by rw [eM347, hb_up_ne (Ne.symm (fun q9 => by rw [q9, hq235] at f220; cases f220))]; exact f332
          have f350 : M346 q201 = some (.inl (cJ, 60, .inr (.inl (fun _ => 0)))) := by rw [eM347, hb_up_ne (Ne.symm (fun q9 => by rw [q9, hq204] at f190; cases f190))]; exact f333
          have f351 : M346 q172 = some (.inl (cI, 60, .inl (fun _ => 0))) := by rw [eM347, hb_up_ne (Ne.symm (fun q9 => by rw [q9, hq175] at f162; cases f162))]; exact f334
          have f352 : M346 q145 = some (.inl (cI, 60, .inl (fun _ => 0))) := by rw [eM347, hb_up_ne (Ne.symm (fun q9 => by rw [q9, hq148] at f136; cases f136))]; exact f335
          have f353 : M346 q120 = some (.inl (cI, 60, .inl (fun _ => 0))) := by rw [eM347, hb_up_ne (Ne.symm (fun q9 => by rw [q9, hq123] at f112; cases f112))]; exact f336
          have f354 : M346 q97 = some (.inl (cJ, 60, .inr (.inl (fun _ => 0)))) := by rw [eM347, hb_up_ne (Ne.symm (fun q9 => by rw [q9, hq100] at f90; cases f90))]; exact f337
          have f355 : M346 q76 = some (.inl (cJ, 60, .inr (.inl (fun _ => 0)))) := by rw [eM347, hb_up_ne (Ne.symm (fun q9 => by rw [q9, hq79] at f70; cases f70))]; exact f338
          have f356 : M346 q57 = some (.inl (cI, 60, .inl (fun _ => 0))) := by rw [eM347, hb_up_ne (Ne.symm (fun q9 => by rw [q9, hq60] at f52; cases f52))]; exact f339
          have f357 : M346 q40 = some (.inl (cI, 60, .inl (fun _ => 0))) := by rw [eM347, hb_up_ne (Ne.symm (fun q9 => by rw [q9, hq43] at f36; cases f36))]; exact f340
          have f358 : M346 q25 = some (.inl (cI, 60, .inl (fun _ => 0))) := by rw [eM347, hb_up_ne (Ne.symm (fun q9 => by rw [q9, hq28] at f22; cases f22))]; exact f341
          have f359 : M346 q12 = some (.inl (cJ, 16, .inr (.inl (fun _ => 0)))) := by rw [eM347, hb_up_ne (Ne.symm (fun q9 => by rw [q9, hq15] at f10; cases f10))]; exact f342
          have f360 : M346 q1 = some (.inl (cJ, 16, .inr (.inl (fun _ => 0)))) := by rw [eM347, hb_up_ne (Ne.symm (fun q9 => by rw [q9, hq4] at fy; cases fy))]; exact f343
          have hap0 := hb_ap.nil
          have hap1 : hb_ap [q1] := hap0.push (L := []) (by simp)
          have hap2 : hb_ap [q1, q12] := hap1.push (L := [q1]) (by simp only [List.mem_cons, List.not_mem_nil, or_false]; exact Ne.symm (fun q9 => by rw [q9, hq15] at f11; cases f11))
          have hap3 : hb_ap [q1, q12, q25] := hap2.push (L := [q1, q12]) (by simp only [List.mem_cons, List.not_mem_nil, or_false, not_or]; exact ⟨Ne.symm (fun q9 => by rw [q9, hq28] at f24; cases f24), Ne.symm (fun q9 => by rw [q9, hq28] at f23; cases f23)⟩)
          have hap4 : hb_ap [q1, q12, q25, q40] := hap3.push (L := [q1, q12, q25]) (by simp only [List.mem_cons, List.not_mem_nil, or_false, not_or]; exact ⟨Ne.symm (fun q9 => by rw [q9, hq43] at f39; cases f39), Ne.symm (fun q9 => by rw [q9, hq43] at f38; cases f38), Ne.symm (fun q9 => by rw [q9, hq43] at f37; cases f37)⟩)
          have hap5 : hb_ap [q1, q12, q25, q40, q57] := hap4.push (L := [q1, q12, q25, q40]) (by simp only [List.mem_cons, List.not_mem_nil, or_false, not_or]; exact ⟨Ne.symm (fun q9 => by rw [q9, hq60] at f56; cases f56), Ne.symm (fun q9 => by rw [q9, hq60] at f55; cases f55), Ne.symm (fun q9 => by rw [q9, hq60] at f54; cases f54), Ne.symm (fun q9 => by rw [q9, hq60] at f53; cases f53)⟩)
          have hap6 : hb_ap [q1, q12, q25, q40, q57, q76] := hap5.push (L := [q1, q12, q25, q40, q57]) (by simp only [List.mem_cons, List.not_mem_nil, or_false, not_or]; exact ⟨Ne.symm (fun q9 => by rw [q9, hq79] at f75; cases f75), Ne.symm (fun q9 => by rw [q9, hq79] at f74; cases f74), Ne.symm (fun q9 => by rw [q9, hq79] at f73; cases f73), Ne.symm (fun q9 => by rw [q9, hq79] at f72; cases f72), Ne.symm (fun q9 => by rw [q9, hq79] at f71; cases f71)⟩)
          have hap7 : hb_ap [q1, q12, q25, q40, q57, q76, q97] := hap6.push (L := [q1, q12, q25, q40, q57, q76]) (by simp only [List.mem_cons, List.not_mem_nil, or_false, not_or]; exact ⟨Ne.symm (fun q9 => by rw [q9, hq100] at f96; cases f96), Ne.symm (fun q9 => by rw [q9, hq100] at f95; cases f95), Ne.symm (fun q9 => by rw [q9, hq100] at f94; cases f94), Ne.symm (fun q9 => by rw [q9, hq100] at f93; cases f93), Ne.symm (fun q9 => by rw [q9, hq100] at f92; cases f92), Ne.symm (fun q9 => by rw [q9, hq100] at f91; cases f91)⟩)
          have hap8 : hb_ap [q1, q12, q25, q40, q57, q76, q97, q120] := hap7.push (L := [q1, q12, q25, q40, q57, q76, q97]) (by simp only [List.mem_cons, List.not_mem_nil, or_false, not_or]; exact ⟨Ne.symm (fun q9 => by rw [q9, hq123] at f119; cases f119), Ne.symm (fun q9 => by rw [q9, hq123] at f118; cases f118), Ne.symm (fun q9 => by rw [q9, hq123] at f117; cases f117), Ne.symm (fun q9 => by rw [q9, hq123] at f116; cases f116), Ne.symm (fun q9 => by rw [q9, hq123] at f115; cases f115), Ne.symm (fun q9 => by rw [q9, hq123] at f114; cases f114), Ne.symm (fun q9 => by rw [q9, hq123] at f113; cases f113)⟩)
          have hap9 : hb_ap [q1, q12, q25, q40, q57, q76, q97, q120, q145] := hap8.push (L := [q1, q12, q25, q40, q57, q76, q97, q120]) (by simp only [List.mem_cons, List.not_mem_nil, or_false, not_or]; exact ⟨Ne.symm (fun q9 => by rw [q9, hq148] at f144; cases f144), Ne.symm (fun q9 => by rw [q9, hq148] at f143; cases f143), Ne.symm (fun q9 => by rw [q9, hq148] at f142; cases f142), Ne.symm (fun q9 => by rw [q9, hq148] at f141; cases f141), Ne.symm (fun q9 => by rw [q9, hq148] at f140; cases f140), Ne.symm (fun q9 => by rw [q9, hq148] at f139; cases f139), Ne.symm (fun q9 => by rw [q9, hq148] at f138; cases f138), Ne.symm (fun q9 => by rw [q9, hq148] at f137; cases f137)⟩)
          have hap10 : hb_ap [q1, q12, q25, q40, q57, q76, q97, q120, q145, q172] := hap9.push (L := [q1, q12, q25, q40, q57, q76, q97, q120, q145]) (by simp only [List.mem_cons, List.not_mem_nil, or_false, not_or]; exact ⟨Ne.symm (fun q9 => by rw [q9, hq175] at f171; cases f171), Ne.symm (fun q9 => by rw [q9, hq175] at f170; cases f170), Ne.symm (fun q9 => by rw [q9, hq175] at f169; cases f169), Ne.symm (fun q9 => by rw [q9, hq175] at f168; cases f168), Ne.symm (fun q9 => by rw [q9, hq175] at f167; cases f167), Ne.symm (fun q9 => by rw [q9, hq175] at f166; cases f166), Ne.symm (fun q9 => by rw [q9, hq175] at f165; cases f165), Ne.symm (fun q9 => by rw [q9, hq175] at f164; cases f164), Ne.symm (fun q9 => by rw [q9, hq175] at f163; cases f163)⟩)
          have hap11 : hb_ap [q1, q12, q25, q40, q57, q76, q97, q120, q145, q172, q201] := hap10.push (L := [q1, q12, q25, q40, q57, q76, q97, q120, q145, q172]) (by simp only [List.mem_cons, List.not_mem_nil, or_false, not_or]; exact ⟨Ne.symm (fun q9 => by rw [q9, hq204] at f200; cases f200), Ne.symm (fun q9 => by rw [q9, hq204] at f199; cases f199), Ne.symm (fun q9 => by rw [q9, hq204] at f198; cases f198), Ne.symm (fun q9 => by rw [q9, hq204] at f197; cases f197), Ne.symm (fun q9 => by rw [q9, hq204] at f196; cases f196), Ne.symm (fun q9 => by rw [q9, hq204] at f195; cases f195), Ne.symm (fun q9 => by rw [q9, hq204] at f194; cases f194), Ne.symm (fun q9 => by rw [q9, hq204] at f193; cases f193), Ne.symm (fun q9 => by rw [q9, hq204] at f192; cases f192), Ne.symm (fun q9 => by rw [q9, hq204] at f191; cases f191)⟩)
          have hap12 : hb_ap [q1, q12, q25, q40, q57, q76, q97, q120, q145, q172, q201, q232] := hap11.push (L := [q1, q12, q25, q40, q57, q76, q97, q120, q145, q172, q201]) (by simp only [List.mem_cons, List.not_mem_nil, or_false, not_or]; exact ⟨Ne.symm (fun q9 => by rw [q9, hq235] at f231; cases f231), Ne.symm (fun q9 => by rw [q9, hq235] at f230; cases f230), Ne.symm (fun q9 => by rw [q9, hq235] at f229; cases f229), Ne.symm (fun q9 => by rw [q9, hq235] at f228; cases f228), Ne.symm (fun q9 => by rw [q9, hq235] at f227; cases f227), Ne.symm (fun q9 => by rw [q9, hq235] at f226; cases f226), Ne.symm (fun q9 => by rw [q9, hq235] at f225; cases f225), Ne.symm (fun q9 => by rw [q9, hq235] at f224; cases f224), Ne.symm (fun q9 => by rw [q9, hq235] at f223; cases f223), Ne.symm (fun q9 => by rw [q9, hq235] at f222; cases f222), Ne.symm (fun q9 => by rw [q9, hq235] at f221; cases f221)⟩)
          exact hb_vret hAe hx hb hr hlocks hP hD hS (Nat.le_of_ble_eq_true rfl) (Nat.le_of_ble_eq_true rfl) (⟨rfl, q1, q12, q25, q40, q57, q76, q97, q120, q145, q172, q201, q232, by rw [if_neg c265n, if_pos c266n, if_neg c344n, if_neg c345n]; exact ⟨f348, f360, f359, f358, f357, f356, f355, f354, f353, f352, f351, f350, f349, hap12⟩⟩) d_Md_init_154
        · skip
          have c345n := hb_gti c345
          refine lv_sipush (v := 5000) hx hb d_Md_init_144 (by decide) ?_
          refine lv_goto (tgt := 151) hx hb d_Md_init_147 (by decide) ?_
          refine hb_putF (ty := .int) hx hb hts hown hC_Md hK hP hD hS f331 2 (by decide) rfl fl_Md_51 rfl hnm rfl rfl rfl rfl (Nat.le_of_ble_eq_true rfl) d_Md_init_151 (fun M361 H locs eM362 hP hD hS => ?_)
          have f363 : M361 y = some (.inr (4, [.int 0, .int 5000, .int 5000, .int 0, .int 0, .ref q1, .ref q12, .int 0, .ref q25, .ref q40, .ref q57, .ref q76, .ref q97, .ref q120, .ref q145, .ref q172, .ref q201, .ref q232])) := by rw [eM362]; exact hb_up_self
          have f364 : M361 q232 = some (.inl (cI, 60, .inl (fun _ => 0))) := by rw [eM362, hb_up_ne (Ne.symm (fun q9 => by rw [q9, hq235] at f220; cases f220))]; exact f332
          have f365 : M361 q201 = some (.inl (cJ, 60, .inr (.inl (fun _ => 0)))) := by rw [eM362, hb_up_ne (Ne.symm (fun q9 => by rw [q9, hq204] at f190; cases f190))]; exact f333
          have f366 : M361 q172 = some (.inl (cI, 60, .inl (fun _ => 0))) := by rw [eM362, hb_up_ne (Ne.symm (fun q9 => by rw [q9, hq175] at f162; cases f162))]; exact f334
          have f367 : M361 q145 = some (.inl (cI, 60, .inl (fun _ => 0))) := by rw [eM362, hb_up_ne (Ne.symm (fun q9 => by rw [q9, hq148] at f136; cases f136))]; exact f335
          have f368 : M361 q120 = some (.inl (cI, 60, .inl (fun _ => 0))) := by rw [eM362, hb_up_ne (Ne.symm (fun q9 => by rw [q9, hq123] at f112; cases f112))]; exact f336
          have f369 : M361 q97 = some (.inl (cJ, 60, .inr (.inl (fun _ => 0)))) := by rw [eM362, hb_up_ne (Ne.symm (fun q9 => by rw [q9, hq100] at f90; cases f90))]; exact f337
          have f370 : M361 q76 = some (.inl (cJ, 60, .inr (.inl (fun _ => 0)))) := by rw [eM362, hb_up_ne (Ne.symm (fun q9 => by rw [q9, hq79] at f70; cases f70))]; exact f338
          have f371 : M361 q57 = some (.inl (cI, 60, .inl (fun _ => 0))) := by rw [eM362, hb_up_ne (Ne.symm (fun q9 => by rw [q9, hq60] at f52; cases f52))]; exact f339
          have f372 : M361 q40 = some (.inl (cI, 60, .inl (fun _ => 0))) := by rw [eM362, hb_up_ne (Ne.symm (fun q9 => by rw [q9, hq43] at f36; cases f36))]; exact f340
          have f373 : M361 q25 = some (.inl (cI, 60, .inl (fun _ => 0))) := by rw [eM362, hb_up_ne (Ne.symm (fun q9 => by rw [q9, hq28] at f22; cases f22))]; exact f341
          have f374 : M361 q12 = some (.inl (cJ, 16, .inr (.inl (fun _ => 0)))) := by rw [eM362, hb_up_ne (Ne.symm (fun q9 => by rw [q9, hq15] at f10; cases f10))]; exact f342
          have f375 : M361 q1 = some (.inl (cJ, 16, .inr (.inl (fun _ => 0)))) := by rw [eM362, hb_up_ne (Ne.symm (fun q9 => by rw [q9, hq4] at fy; cases fy))]; exact f343
          have hap0 := hb_ap.nil
          have hap1 : hb_ap [q1] := hap0.push (L := []) (by simp)
          have hap2 : hb_ap [q1, q12] := hap1.push (L := [q1]) (by simp only [List.mem_cons, List.not_mem_nil, or_false]; exact Ne.symm (fun q9 => by rw [q9, hq15] at f11; cases f11))
          have hap3 : hb_ap [q1, q12, q25] := hap2.push (L := [q1, q12]) (by simp only [List.mem_cons, List.not_mem_nil, or_false, not_or]; exact ⟨Ne.symm (fun q9 => by rw [q9, hq28] at f24; cases f24), Ne.symm (fun q9 => by rw [q9, hq28] at f23; cases f23)⟩)
          have hap4 : hb_ap [q1, q12, q25, q40] := hap3.push (L := [q1, q12, q25]) (by simp only [List.mem_cons, List.not_mem_nil, or_false, not_or]; exact ⟨Ne.symm (fun q9 => by rw [q9, hq43] at f39; cases f39), Ne.symm (fun q9 => by rw [q9, hq43] at f38; cases f38), Ne.symm (fun q9 => by rw [q9, hq43] at f37; cases f37)⟩)
          have hap5 : hb_ap [q1, q12, q25, q40, q57] := hap4.push (L := [q1, q12, q25, q40]) (by simp only [List.mem_cons, List.not_mem_nil, or_false, not_or]; exact ⟨Ne.symm (fun q9 => by rw [q9, hq60] at f56; cases f56), Ne.symm (fun q9 => by rw [q9, hq60] at f55; cases f55), Ne.symm (fun q9 => by rw [q9, hq60] at f54; cases f54), Ne.symm (fun q9 => by rw [q9, hq60] at f53; cases f53)⟩)
          have hap6 : hb_ap [q1, q12, q25, q40, q57, q76] := hap5.push (L := [q1, q12, q25, q40, q57]) (by simp only [List.mem_cons, List.not_mem_nil, or_false, not_or]; exact ⟨Ne.symm (fun q9 => by rw [q9, hq79] at f75; cases f75), Ne.symm (fun q9 => by rw [q9, hq79] at f74; cases f74), Ne.symm (fun q9 => by rw [q9, hq79] at f73; cases f73), Ne.symm (fun q9 => by rw [q9, hq79] at f72; cases f72), Ne.symm (fun q9 => by rw [q9, hq79] at f71; cases f71)⟩)
          have hap7 : hb_ap [q1, q12, q25, q40, q57, q76, q97] := hap6.push (L := [q1, q12, q25, q40, q57, q76]) (by simp only [List.mem_cons, List.not_mem_nil, or_false, not_or]; exact ⟨Ne.symm (fun q9 => by rw [q9, hq100] at f96; cases f96), Ne.symm (fun q9 => by rw [q9, hq100] at f95; cases f95), Ne.symm (fun q9 => by rw [q9, hq100] at f94; cases f94), Ne.symm (fun q9 => by rw [q9, hq100] at f93; cases f93), Ne.symm (fun q9 => by rw [q9, hq100] at f92; cases f92), Ne.symm (fun q9 => by rw [q9, hq100] at f91; cases f91)⟩)
          have hap8 : hb_ap [q1, q12, q25, q40, q57, q76, q97, q120] := hap7.push (L := [q1, q12, q25, q40, q57, q76, q97]) (by simp only [List.mem_cons, List.not_mem_nil, or_false, not_or]; exact ⟨Ne.symm (fun q9 => by rw [q9, hq123] at f119; cases f119), Ne.symm (fun q9 => by rw [q9, hq123] at f118; cases f118), Ne.symm (fun q9 => by rw [q9, hq123] at f117; cases f117), Ne.symm (fun q9 => by rw [q9, hq123] at f116; cases f116), Ne.symm (fun q9 => by rw [q9, hq123] at f115; cases f115), Ne.symm (fun q9 => by rw [q9, hq123] at f114; cases f114), Ne.symm (fun q9 => by rw [q9, hq123] at f113; cases f113)⟩)
          have hap9 : hb_ap [q1, q12, q25, q40, q57, q76, q97, q120, q145] := hap8.push (L := [q1, q12, q25, q40, q57, q76, q97, q120]) (by simp only [List.mem_cons, List.not_mem_nil, or_false, not_or]; exact ⟨Ne.symm (fun q9 => by rw [q9, hq148] at f144; cases f144), Ne.symm (fun q9 => by rw [q9, hq148] at f143; cases f143), Ne.symm (fun q9 => by rw [q9, hq148] at f142; cases f142), Ne.symm (fun q9 => by rw [q9, hq148] at f141; cases f141), Ne.symm (fun q9 => by rw [q9, hq148] at f140; cases f140), Ne.symm (fun q9 => by rw [q9, hq148] at f139; cases f139), Ne.symm (fun q9 => by rw [q9, hq148] at f138; cases f138), Ne.symm (fun q9 => by rw [q9, hq148] at f137; cases f137)⟩)
          have hap10 : hb_ap [q1, q12, q25, q40, q57, q76, q97, q120, q145, q172] := hap9.push (L := [q1, q12, q25, q40, q57, q76, q97, q120, q145]) (by simp only [List.mem_cons, List.not_mem_nil, or_false, not_or]; exact ⟨Ne.symm (fun q9 => by rw [q9, hq175] at f171; cases f171), Ne.symm (fun q9 => by rw [q9, hq175] at f170; cases f170), Ne.symm (fun q9 => by rw [q9, hq175] at f169; cases f169), Ne.symm (fun q9 => by rw [q9, hq175] at f168; cases f168), Ne.symm (fun q9 => by rw [q9, hq175] at f167; cases f167), Ne.symm (fun q9 => by rw [q9, hq175] at f166; cases f166), Ne.symm (fun q9 => by rw [q9, hq175] at f165; cases f165), Ne.symm (fun q9 => by rw [q9, hq175] at f164; cases f164), Ne.symm (fun q9 => by rw [q9, hq175] at f163; cases f163)⟩)
          have hap11 : hb_ap [q1, q12, q25, q40, q57, q76, q97, q120, q145, q172, q201] := hap10.push (L := [q1, q12, q25, q40, q57, q76, q97, q120, q145, q172]) (by simp only [List.mem_cons, List.not_mem_nil, or_false, not_or]; exact ⟨Ne.symm (fun q9 => by rw [q9, hq204] at f200; cases f200), Ne.symm (fun q9 => by rw [q9, hq204] at f199; cases f199), Ne.symm (fun q9 => by rw [q9, hq204] at f198; cases f198), Ne.symm (fun q9 => by rw [q9, hq204] at f197; cases f197), Ne.symm (fun q9 => by rw [q9, hq204] at f196; cases f196), Ne.symm (fun q9 => by rw [q9, hq204] at f195; cases f195), Ne.symm (fun q9 => by rw [q9, hq204] at f194; cases f194), Ne.symm (fun q9 => by rw [q9, hq204] at f193; cases f193), Ne.symm (fun q9 => by rw [q9, hq204] at f192; cases f192), Ne.symm (fun q9 => by rw [q9, hq204] at f191; cases f191)⟩)
          have hap12 : hb_ap [q1, q12, q25, q40, q57, q76, q97, q120, q145, q172, q201, q232] := hap11.push (L := [q1, q12, q25, q40, q57, q76, q97, q120, q145, q172, q201]) (by simp only [List.mem_cons, List.not_mem_nil, or_false, not_or]; exact ⟨Ne.symm (fun q9 => by rw [q9, hq235] at f231; cases f231), Ne.symm (fun q9 => by rw [q9, hq235] at f230; cases f230), Ne.symm (fun q9 => by rw [q9, hq235] at f229; cases f229), Ne.symm (fun q9 => by rw [q9, hq235] at f228; cases f228), Ne.symm (fun q9 => by rw [q9, hq235] at f227; cases f227), Ne.symm (fun q9 => by rw [q9, hq235] at f226; cases f226), Ne.symm (fun q9 => by rw [q9, hq235] at f225; cases f225), Ne.symm (fun q9 => by rw [q9, hq235] at f224; cases f224), Ne.symm (fun q9 => by rw [q9, hq235] at f223; cases f223), Ne.symm (fun q9 => by rw [q9, hq235] at f222; cases f222), Ne.symm (fun q9 => by rw [q9, hq235] at f221; cases f221)⟩)
          exact hb_vret hAe hx hb hr hlocks hP hD hS (Nat.le_of_ble_eq_true rfl) (Nat.le_of_ble_eq_true rfl) (⟨rfl, q1, q12, q25, q40, q57, q76, q97, q120, q145, q172, q201, q232, by rw [if_neg c265n, if_pos c266n, if_neg c344n, if_pos c345n]; exact ⟨f363, f375, f374, f373, f372, f371, f370, f369, f368, f367, f366, f365, f364, hap12⟩⟩) d_Md_init_154
      · skip
        have c344n := hb_gti c344
        refine lv_iconst (v := 1) hx hb d_Md_init_133 (by decide) ?_
        refine lv_goto (tgt := 151) hx hb d_Md_init_134 (by decide) ?_
        refine hb_putF (ty := .int) hx hb hts hown hC_Md hK hP hD hS f331 2 (by decide) rfl fl_Md_51 rfl hnm rfl rfl rfl rfl (Nat.le_of_ble_eq_true rfl) d_Md_init_151 (fun M376 H locs eM377 hP hD hS => ?_)
        have f378 : M376 y = some (.inr (4, [.int 0, .int 5000, .int 1, .int 0, .int 0, .ref q1, .ref q12, .int 0, .ref q25, .ref q40, .ref q57, .ref q76, .ref q97, .ref q120, .ref q145, .ref q172, .ref q201, .ref q232])) := by rw [eM377]; exact hb_up_self
        have f379 : M376 q232 = some (.inl (cI, 60, .inl (fun _ => 0))) := by rw [eM377, hb_up_ne (Ne.symm (fun q9 => by rw [q9, hq235] at f220; cases f220))]; exact f332
        have f380 : M376 q201 = some (.inl (cJ, 60, .inr (.inl (fun _ => 0)))) := by rw [eM377, hb_up_ne (Ne.symm (fun q9 => by rw [q9, hq204] at f190; cases f190))]; exact f333
        have f381 : M376 q172 = some (.inl (cI, 60, .inl (fun _ => 0))) := by rw [eM377, hb_up_ne (Ne.symm (fun q9 => by rw [q9, hq175] at f162; cases f162))]; exact f334
        have f382 : M376 q145 = some (.inl (cI, 60, .inl (fun _ => 0))) := by rw [eM377, hb_up_ne (Ne.symm (fun q9 => by rw [q9, hq148] at f136; cases f136))]; exact f335
        have f383 : M376 q120 = some (.inl (cI, 60, .inl (fun _ => 0))) := by rw [eM377, hb_up_ne (Ne.symm (fun q9 => by rw [q9, hq123] at f112; cases f112))]; exact f336
        have f384 : M376 q97 = some (.inl (cJ, 60, .inr (.inl (fun _ => 0)))) := by rw [eM377, hb_up_ne (Ne.symm (fun q9 => by rw [q9, hq100] at f90; cases f90))]; exact f337
        have f385 : M376 q76 = some (.inl (cJ, 60, .inr (.inl (fun _ => 0)))) := by rw [eM377, hb_up_ne (Ne.symm (fun q9 => by rw [q9, hq79] at f70; cases f70))]; exact f338
        have f386 : M376 q57 = some (.inl (cI, 60, .inl (fun _ => 0))) := by rw [eM377, hb_up_ne (Ne.symm (fun q9 => by rw [q9, hq60] at f52; cases f52))]; exact f339
        have f387 : M376 q40 = some (.inl (cI, 60, .inl (fun _ => 0))) := by rw [eM377, hb_up_ne (Ne.symm (fun q9 => by rw [q9, hq43] at f36; cases f36))]; exact f340
        have f388 : M376 q25 = some (.inl (cI, 60, .inl (fun _ => 0))) := by rw [eM377, hb_up_ne (Ne.symm (fun q9 => by rw [q9, hq28] at f22; cases f22))]; exact f341
        have f389 : M376 q12 = some (.inl (cJ, 16, .inr (.inl (fun _ => 0)))) := by rw [eM377, hb_up_ne (Ne.symm (fun q9 => by rw [q9, hq15] at f10; cases f10))]; exact f342
        have f390 : M376 q1 = some (.inl (cJ, 16, .inr (.inl (fun _ => 0)))) := by rw [eM377, hb_up_ne (Ne.symm (fun q9 => by rw [q9, hq4] at fy; cases fy))]; exact f343
        have hap0 := hb_ap.nil
        have hap1 : hb_ap [q1] := hap0.push (L := []) (by simp)
        have hap2 : hb_ap [q1, q12] := hap1.push (L := [q1]) (by simp only [List.mem_cons, List.not_mem_nil, or_false]; exact Ne.symm (fun q9 => by rw [q9, hq15] at f11; cases f11))
        have hap3 : hb_ap [q1, q12, q25] := hap2.push (L := [q1, q12]) (by simp only [List.mem_cons, List.not_mem_nil, or_false, not_or]; exact ⟨Ne.symm (fun q9 => by rw [q9, hq28] at f24; cases f24), Ne.symm (fun q9 => by rw [q9, hq28] at f23; cases f23)⟩)
        have hap4 : hb_ap [q1, q12, q25, q40] := hap3.push (L := [q1, q12, q25]) (by simp only [List.mem_cons, List.not_mem_nil, or_false, not_or]; exact ⟨Ne.symm (fun q9 => by rw [q9, hq43] at f39; cases f39), Ne.symm (fun q9 => by rw [q9, hq43] at f38; cases f38), Ne.symm (fun q9 => by rw [q9, hq43] at f37; cases f37)⟩)
        have hap5 : hb_ap [q1, q12, q25, q40, q57] := hap4.push (L := [q1, q12, q25, q40]) (by simp only [List.mem_cons, List.not_mem_nil, or_false, not_or]; exact ⟨Ne.symm (fun q9 => by rw [q9, hq60] at f56; cases f56), Ne.symm (fun q9 => by rw [q9, hq60] at f55; cases f55), Ne.symm (fun q9 => by rw [q9, hq60] at f54; cases f54), Ne.symm (fun q9 => by rw [q9, hq60] at f53; cases f53)⟩)
        have hap6 : hb_ap [q1, q12, q25, q40, q57, q76] := hap5.push (L := [q1, q12, q25, q40, q57]) (by simp only [List.mem_cons, List.not_mem_nil, or_false, not_or]; exact ⟨Ne.symm (fun q9 => by rw [q9, hq79] at f75; cases f75), Ne.symm (fun q9 => by rw [q9, hq79] at f74; cases f74), Ne.symm (fun q9 => by rw [q9, hq79] at f73; cases f73), Ne.symm (fun q9 => by rw [q9, hq79] at f72; cases f72), Ne.symm (fun q9 => by rw [q9, hq79] at f71; cases f71)⟩)
        have hap7 : hb_ap [q1, q12, q25, q40, q57, q76, q97] := hap6.push (L := [q1, q12, q25, q40, q57, q76]) (by simp only [List.mem_cons, List.not_mem_nil, or_false, not_or]; exact ⟨Ne.symm (fun q9 => by rw [q9, hq100] at f96; cases f96), Ne.symm (fun q9 => by rw [q9, hq100] at f95; cases f95), Ne.symm (fun q9 => by rw [q9, hq100] at f94; cases f94), Ne.symm (fun q9 => by rw [q9, hq100] at f93; cases f93), Ne.symm (fun q9 => by rw [q9, hq100] at f92; cases f92), Ne.symm (fun q9 => by rw [q9, hq100] at f91; cases f91)⟩)
        have hap8 : hb_ap [q1, q12, q25, q40, q57, q76, q97, q120] := hap7.push (L := [q1, q12, q25, q40, q57, q76, q97]) (by simp only [List.mem_cons, List.not_mem_nil, or_false, not_or]; exact ⟨Ne.symm (fun q9 => by rw [q9, hq123] at f119; cases f119), Ne.symm (fun q9 => by rw [q9, hq123] at f118; cases f118), Ne.symm (fun q9 => by rw [q9, hq123] at f117; cases f117), Ne.symm (fun q9 => by rw [q9, hq123] at f116; cases f116), Ne.symm (fun q9 => by rw [q9, hq123] at f115; cases f115), Ne.symm (fun q9 => by rw [q9, hq123] at f114; cases f114), Ne.symm (fun q9 => by rw [q9, hq123] at f113; cases f113)⟩)
        have hap9 : hb_ap [q1, q12, q25, q40, q57, q76, q97, q120, q145] := hap8.push (L := [q1, q12, q25, q40, q57, q76, q97, q120]) (by simp only [List.mem_cons, List.not_mem_nil, or_false, not_or]; exact ⟨Ne.symm (fun q9 => by rw [q9, hq148] at f144; cases f144), Ne.symm (fun q9 => by rw [q9, hq148] at f143; cases f143), Ne.symm (fun q9 => by rw [q9, hq148] at f142; cases f142), Ne.symm (fun q9 => by rw [q9, hq148] at f141; cases f141), Ne.symm (fun q9 => by rw [q9, hq148] at f140; cases f140), Ne.symm (fun q9 => by rw [q9, hq148] at f139; cases f139), Ne.symm (fun q9 => by rw [q9, hq148] at f138; cases f138), Ne.symm (fun q9 => by rw [q9, hq148] at f137; cases f137)⟩)
        have hap10 : hb_ap [q1, q12, q25, q40, q57, q76, q97, q120, q145, q172] := hap9.push (L := [q1, q12, q25, q40, q57, q76, q97, q120, q145]) (by simp only [List.mem_cons, List.not_mem_nil, or_false, not_or]; exact ⟨Ne.symm (fun q9 => by rw [q9, hq175] at f171; cases f171), Ne.symm (fun q9 => by rw [q9, hq175] at f170; cases f170), Ne.symm (fun q9 => by rw [q9, hq175] at f169; cases f169), Ne.symm (fun q9 => by rw [q9, hq175] at f168; cases f168), Ne.symm (fun q9 => by rw [q9, hq175] at f167; cases f167), Ne.symm (fun q9 => by rw [q9, hq175] at f166; cases f166), Ne.symm (fun q9 => by rw [q9, hq175] at f165; cases f165), Ne.symm (fun q9 => by rw [q9, hq175] at f164; cases f164), Ne.symm (fun q9 => by rw [q9, hq175] at f163; cases f163)⟩)
        have hap11 : hb_ap [q1, q12, q25, q40, q57, q76, q97, q120, q145, q172, q201] := hap10.push (L := [q1, q12, q25, q40, q57, q76, q97, q120, q145, q172]) (by simp only [List.mem_cons, List.not_mem_nil, or_false, not_or]; exact ⟨Ne.symm (fun q9 => by rw [q9, hq204] at f200; cases f200), Ne.symm (fun q9 => by rw [q9, hq204] at f199; cases f199), Ne.symm (fun q9 => by rw [q9, hq204] at f198; cases f198), Ne.symm (fun q9 => by rw [q9, hq204] at f197; cases f197), Ne.symm (fun q9 => by rw [q9, hq204] at f196; cases f196), Ne.symm (fun q9 => by rw [q9, hq204] at f195; cases f195), Ne.symm (fun q9 => by rw [q9, hq204] at f194; cases f194), Ne.symm (fun q9 => by rw [q9, hq204] at f193; cases f193), Ne.symm (fun q9 => by rw [q9, hq204] at f192; cases f192), Ne.symm (fun q9 => by rw [q9, hq204] at f191; cases f191)⟩)
        have hap12 : hb_ap [q1, q12, q25, q40, q57, q76, q97, q120, q145, q172, q201, q232] := hap11.push (L := [q1, q12, q25, q40, q57, q76, q97, q120, q145, q172, q201]) (by simp only [List.mem_cons, List.not_mem_nil, or_false, not_or]; exact ⟨Ne.symm (fun q9 => by rw [q9, hq235] at f231; cases f231), Ne.symm (fun q9 => by rw [q9, hq235] at f230; cases f230), Ne.symm (fun q9 => by rw [q9, hq235] at f229; cases f229), Ne.symm (fun q9 => by rw [q9, hq235] at f228; cases f228), Ne.symm (fun q9 => by rw [q9, hq235] at f227; cases f227), Ne.symm (fun q9 => by rw [q9, hq235] at f226; cases f226), Ne.symm (fun q9 => by rw [q9, hq235] at f225; cases f225), Ne.symm (fun q9 => by rw [q9, hq235] at f224; cases f224), Ne.symm (fun q9 => by rw [q9, hq235] at f223; cases f223), Ne.symm (fun q9 => by rw [q9, hq235] at f222; cases f222), Ne.symm (fun q9 => by rw [q9, hq235] at f221; cases f221)⟩)
        exact hb_vret hAe hx hb hr hlocks hP hD hS (Nat.le_of_ble_eq_true rfl) (Nat.le_of_ble_eq_true rfl) (⟨rfl, q1, q12, q25, q40, q57, q76, q97, q120, q145, q172, q201, q232, by rw [if_neg c265n, if_pos c266n, if_pos c344n]; exact ⟨f378, f390, f389, f388, f387, f386, f385, f384, f383, f382, f381, f380, f379, hap12⟩⟩) d_Md_init_154
  · skip
    have c265n := hb_gti c265
    refine lv_iconst (v := 1) hx hb d_Md_init_106 (by decide) ?_
    refine lv_goto (tgt := 124) hx hb d_Md_init_107 (by decide) ?_
    refine hb_putF (ty := .int) hx hb hts hown hC_Md hK hP hD hS f252 1 (by decide) rfl fl_Md_47 rfl hnm rfl rfl rfl rfl (Nat.le_of_ble_eq_true rfl) d_Md_init_124 (fun M391 H locs eM392 hP hD hS => ?_)
    have f393 : M391 y = some (.inr (4, [.int 0, .int 1, .int 0, .int 0, .int 0, .ref q1, .ref q12, .int 0, .ref q25, .ref q40, .ref q57, .ref q76, .ref q97, .ref q120, .ref q145, .ref q172, .ref q201, .ref q232])) := by rw [eM392]; exact hb_up_self
    have f394 : M391 q232 = some (.inl (cI, 60, .inl (fun _ => 0))) := by rw [eM392, hb_up_ne (Ne.symm (fun q9 => by rw [q9, hq235] at f220; cases f220))]; exact f253
    have f395 : M391 q201 = some (.inl (cJ, 60, .inr (.inl (fun _ => 0)))) := by rw [eM392, hb_up_ne (Ne.symm (fun q9 => by rw [q9, hq204] at f190; cases f190))]; exact f254
    have f396 : M391 q172 = some (.inl (cI, 60, .inl (fun _ => 0))) := by rw [eM392, hb_up_ne (Ne.symm (fun q9 => by rw [q9, hq175] at f162; cases f162))]; exact f255
    have f397 : M391 q145 = some (.inl (cI, 60, .inl (fun _ => 0))) := by rw [eM392, hb_up_ne (Ne.symm (fun q9 => by rw [q9, hq148] at f136; cases f136))]; exact f256
    have f398 : M391 q120 = some (.inl (cI, 60, .inl (fun _ => 0))) := by rw [eM392, hb_up_ne (Ne.symm (fun q9 => by rw [q9, hq123] at f112; cases f112))]; exact f257
    have f399 : M391 q97 = some (.inl (cJ, 60, .inr (.inl (fun _ => 0)))) := by rw [eM392, hb_up_ne (Ne.symm (fun q9 => by rw [q9, hq100] at f90; cases f90))]; exact f258
    have f400 : M391 q76 = some (.inl (cJ, 60, .inr (.inl (fun _ => 0)))) := by rw [eM392, hb_up_ne (Ne.symm (fun q9 => by rw [q9, hq79] at f70; cases f70))]; exact f259
    have f401 : M391 q57 = some (.inl (cI, 60, .inl (fun _ => 0))) := by rw [eM392, hb_up_ne (Ne.symm (fun q9 => by rw [q9, hq60] at f52; cases f52))]; exact f260
    have f402 : M391 q40 = some (.inl (cI, 60, .inl (fun _ => 0))) := by rw [eM392, hb_up_ne (Ne.symm (fun q9 => by rw [q9, hq43] at f36; cases f36))]; exact f261
    have f403 : M391 q25 = some (.inl (cI, 60, .inl (fun _ => 0))) := by rw [eM392, hb_up_ne (Ne.symm (fun q9 => by rw [q9, hq28] at f22; cases f22))]; exact f262
    have f404 : M391 q12 = some (.inl (cJ, 16, .inr (.inl (fun _ => 0)))) := by rw [eM392, hb_up_ne (Ne.symm (fun q9 => by rw [q9, hq15] at f10; cases f10))]; exact f263
    have f405 : M391 q1 = some (.inl (cJ, 16, .inr (.inl (fun _ => 0)))) := by rw [eM392, hb_up_ne (Ne.symm (fun q9 => by rw [q9, hq4] at fy; cases fy))]; exact f264
    refine lv_aload_n hx hb d_Md_init_127 rfl (lv_at hl 0 rfl) ?_
    refine lv_iload_n hx hb d_Md_init_128 rfl (lv_at hl 2 rfl) ?_
    refine lv_iconst (v := 1) hx hb d_Md_init_129 (by decide) ?_
    refine lv_icmp_ge (tgt := 137) hx hb d_Md_init_130 (by decide) (fun c406 => ?_) (fun c406 => ?_)
    · skip
      have c406n := hb_ngti c406
      refine lv_iload_n hx hb d_Md_init_137 rfl (lv_at hl 2 rfl) ?_
      refine lv_sipush (v := 5000) hx hb d_Md_init_138 (by decide) ?_
      refine lv_icmp_le (tgt := 150) hx hb d_Md_init_141 (by decide) (fun c407 => ?_) (fun c407 => ?_)
      · skip
        have c407n := hb_ngti c407
        refine lv_iload_n hx hb d_Md_init_150 rfl (lv_at hl 2 rfl) ?_
        refine hb_putF (ty := .int) hx hb hts hown hC_Md hK hP hD hS f393 2 (by decide) rfl fl_Md_51 rfl hnm rfl rfl rfl rfl (Nat.le_of_ble_eq_true rfl) d_Md_init_151 (fun M408 H locs eM409 hP hD hS => ?_)
        have f410 : M408 y = some (.inr (4, [.int 0, .int 1, .int k2, .int 0, .int 0, .ref q1, .ref q12, .int 0, .ref q25, .ref q40, .ref q57, .ref q76, .ref q97, .ref q120, .ref q145, .ref q172, .ref q201, .ref q232])) := by rw [eM409]; exact hb_up_self
        have f411 : M408 q232 = some (.inl (cI, 60, .inl (fun _ => 0))) := by rw [eM409, hb_up_ne (Ne.symm (fun q9 => by rw [q9, hq235] at f220; cases f220))]; exact f394
        have f412 : M408 q201 = some (.inl (cJ, 60, .inr (.inl (fun _ => 0)))) := by rw [eM409, hb_up_ne (Ne.symm (fun q9 => by rw [q9, hq204] at f190; cases f190))]; exact f395
        have f413 : M408 q172 = some (.inl (cI, 60, .inl (fun _ => 0))) := by rw [eM409, hb_up_ne (Ne.symm (fun q9 => by rw [q9, hq175] at f162; cases f162))]; exact f396
        have f414 : M408 q145 = some (.inl (cI, 60, .inl (fun _ => 0))) := by rw [eM409, hb_up_ne (Ne.symm (fun q9 => by rw [q9, hq148] at f136; cases f136))]; exact f397
        have f415 : M408 q120 = some (.inl (cI, 60, .inl (fun _ => 0))) := by rw [eM409, hb_up_ne (Ne.symm (fun q9 => by rw [q9, hq123] at f112; cases f112))]; exact f398
        have f416 : M408 q97 = some (.inl (cJ, 60, .inr (.inl (fun _ => 0)))) := by rw [eM409, hb_up_ne (Ne.symm (fun q9 => by rw [q9, hq100] at f90; cases f90))]; exact f399
        have f417 : M408 q76 = some (.inl (cJ, 60, .inr (.inl (fun _ => 0)))) := by rw [eM409, hb_up_ne (Ne.symm (fun q9 => by rw [q9, hq79] at f70; cases f70))]; exact f400
        have f418 : M408 q57 = some (.inl (cI, 60, .inl (fun _ => 0))) := by rw [eM409, hb_up_ne (Ne.symm (fun q9 => by rw [q9, hq60] at f52; cases f52))]; exact f401
        have f419 : M408 q40 = some (.inl (cI, 60, .inl (fun _ => 0))) := by rw [eM409, hb_up_ne (Ne.symm (fun q9 => by rw [q9, hq43] at f36; cases f36))]; exact f402
        have f420 : M408 q25 = some (.inl (cI, 60, .inl (fun _ => 0))) := by rw [eM409, hb_up_ne (Ne.symm (fun q9 => by rw [q9, hq28] at f22; cases f22))]; exact f403
        have f421 : M408 q12 = some (.inl (cJ, 16, .inr (.inl (fun _ => 0)))) := by rw [eM409, hb_up_ne (Ne.symm (fun q9 => by rw [q9, hq15] at f10; cases f10))]; exact f404
        have f422 : M408 q1 = some (.inl (cJ, 16, .inr (.inl (fun _ => 0)))) := by rw [eM409, hb_up_ne (Ne.symm (fun q9 => by rw [q9, hq4] at fy; cases fy))]; exact f405
        have hap0 := hb_ap.nil
        have hap1 : hb_ap [q1] := hap0.push (L := []) (by simp)
        have hap2 : hb_ap [q1, q12] := hap1.push (L := [q1]) (by simp only [List.mem_cons, List.not_mem_nil, or_false]; exact Ne.symm (fun q9 => by rw [q9, hq15] at f11; cases f11))
        have hap3 : hb_ap [q1, q12, q25] := hap2.push (L := [q1, q12]) (by simp only [List.mem_cons, List.not_mem_nil, or_false, not_or]; exact ⟨Ne.symm (fun q9 => by rw [q9, hq28] at f24; cases f24), Ne.symm (fun q9 => by rw [q9, hq28] at f23; cases f23)⟩)
        have hap4 : hb_ap [q1, q12, q25, q40] := hap3.push (L := [q1, q12, q25]) (by simp only [List.mem_cons, List.not_mem_nil, or_false, not_or]; exact ⟨Ne.symm (fun q9 => by rw [q9, hq43] at f39; cases f39), Ne.symm (fun q9 => by rw [q9, hq43] at f38; cases f38), Ne.symm (fun q9 => by rw [q9, hq43] at f37; cases f37)⟩)
        have hap5 : hb_ap [q1, q12, q25, q40, q57] := hap4.push (L := [q1, q12, q25, q40]) (by simp only [List.mem_cons, List.not_mem_nil, or_false, not_or]; exact ⟨Ne.symm (fun q9 => by rw [q9, hq60] at f56; cases f56), Ne.symm (fun q9 => by rw [q9, hq60] at f55; cases f55), Ne.symm (fun q9 => by rw [q9, hq60] at f54; cases f54), Ne.symm (fun q9 => by rw [q9, hq60] at f53; cases f53)⟩)
        have hap6 : hb_ap [q1, q12, q25, q40, q57, q76] := hap5.push (L := [q1, q12, q25, q40, q57]) (by simp only [List.mem_cons, List.not_mem_nil, or_false, not_or]; exact ⟨Ne.symm (fun q9 => by rw [q9, hq79] at f75; cases f75), Ne.symm (fun q9 => by rw [q9, hq79] at f74; cases f74), Ne.symm (fun q9 => by rw [q9, hq79] at f73; cases f73), Ne.symm (fun q9 => by rw [q9, hq79] at f72; cases f72), Ne.symm (fun q9 => by rw [q9, hq79] at f71; cases f71)⟩)
        have hap7 : hb_ap [q1, q12, q25, q40, q57, q76, q97] := hap6.push (L := [q1, q12, q25, q40, q57, q76]) (by simp only [List.mem_cons, List.not_mem_nil, or_false, not_or]; exact ⟨Ne.symm (fun q9 => by rw [q9, hq100] at f96; cases f96), Ne.symm (fun q9 => by rw [q9, hq100] at f95; cases f95), Ne.symm (fun q9 => by rw [q9, hq100] at f94; cases f94), Ne.symm (fun q9 => by rw [q9, hq100] at f93; cases f93), Ne.symm (fun q9 => by rw [q9, hq100] at f92; cases f92), Ne.symm (fun q9 => by rw [q9, hq100] at f91; cases f91)⟩)
        have hap8 : hb_ap [q1, q12, q25, q40, q57, q76, q97, q120] := hap7.push (L := [q1, q12, q25, q40, q57, q76, q97]) (by simp only [List.mem_cons, List.not_mem_nil, or_false, not_or]; exact ⟨Ne.symm (fun q9 => by rw [q9, hq123] at f119; cases f119), Ne.symm (fun q9 => by rw [q9, hq123] at f118; cases f118), Ne.symm (fun q9 => by rw [q9, hq123] at f117; cases f117), Ne.symm (fun q9 => by rw [q9, hq123] at f116; cases f116), Ne.symm (fun q9 => by rw [q9, hq123] at f115; cases f115), Ne.symm (fun q9 => by rw [q9, hq123] at f114; cases f114), Ne.symm (fun q9 => by rw [q9, hq123] at f113; cases f113)⟩)
        have hap9 : hb_ap [q1, q12, q25, q40, q57, q76, q97, q120, q145] := hap8.push (L := [q1, q12, q25, q40, q57, q76, q97, q120]) (by simp only [List.mem_cons, List.not_mem_nil, or_false, not_or]; exact ⟨Ne.symm (fun q9 => by rw [q9, hq148] at f144; cases f144), Ne.symm (fun q9 => by rw [q9, hq148] at f143; cases f143), Ne.symm (fun q9 => by rw [q9, hq148] at f142; cases f142), Ne.symm (fun q9 => by rw [q9, hq148] at f141; cases f141), Ne.symm (fun q9 => by rw [q9, hq148] at f140; cases f140), Ne.symm (fun q9 => by rw [q9, hq148] at f139; cases f139), Ne.symm (fun q9 => by rw [q9, hq148] at f138; cases f138), Ne.symm (fun q9 => by rw [q9, hq148] at f137; cases f137)⟩)
        have hap10 : hb_ap [q1, q12, q25, q40, q57, q76, q97, q120, q145, q172] := hap9.push (L := [q1, q12, q25, q40, q57, q76, q97, q120, q145]) (by simp only [List.mem_cons, List.not_mem_nil, or_false, not_or]; exact ⟨Ne.symm (fun q9 => by rw [q9, hq175] at f171; cases f171), Ne.symm (fun q9 => by rw [q9, hq175] at f170; cases f170), Ne.symm (fun q9 => by rw [q9, hq175] at f169; cases f169), Ne.symm (fun q9 => by rw [q9, hq175] at f168; cases f168), Ne.symm (fun q9 => by rw [q9, hq175] at f167; cases f167), Ne.symm (fun q9 => by rw [q9, hq175] at f166; cases f166), Ne.symm (fun q9 => by rw [q9, hq175] at f165; cases f165), Ne.symm (fun q9 => by rw [q9, hq175] at f164; cases f164), Ne.symm (fun q9 => by rw [q9, hq175] at f163; cases f163)⟩)
        have hap11 : hb_ap [q1, q12, q25, q40, q57, q76, q97, q120, q145, q172, q201] := hap10.push (L := [q1, q12, q25, q40, q57, q76, q97, q120, q145, q172]) (by simp only [List.mem_cons, List.not_mem_nil, or_false, not_or]; exact ⟨Ne.symm (fun q9 => by rw [q9, hq204] at f200; cases f200), Ne.symm (fun q9 => by rw [q9, hq204] at f199; cases f199), Ne.symm (fun q9 => by rw [q9, hq204] at f198; cases f198), Ne.symm (fun q9 => by rw [q9, hq204] at f197; cases f197), Ne.symm (fun q9 => by rw [q9, hq204] at f196; cases f196), Ne.symm (fun q9 => by rw [q9, hq204] at f195; cases f195), Ne.symm (fun q9 => by rw [q9, hq204] at f194; cases f194), Ne.symm (fun q9 => by rw [q9, hq204] at f193; cases f193), Ne.symm (fun q9 => by rw [q9, hq204] at f192; cases f192), Ne.symm (fun q9 => by rw [q9, hq204] at f191; cases f191)⟩)
        have hap12 : hb_ap [q1, q12, q25, q40, q57, q76, q97, q120, q145, q172, q201, q232] := hap11.push (L := [q1, q12, q25, q40, q57, q76, q97, q120, q145, q172, q201]) (by simp only [List.mem_cons, List.not_mem_nil, or_false, not_or]; exact ⟨Ne.symm (fun q9 => by rw [q9, hq235] at f231; cases f231), Ne.symm (fun q9 => by rw [q9, hq235] at f230; cases f230), Ne.symm (fun q9 => by rw [q9, hq235] at f229; cases f229), Ne.symm (fun q9 => by rw [q9, hq235] at f228; cases f228), Ne.symm (fun q9 => by rw [q9, hq235] at f227; cases f227), Ne.symm (fun q9 => by rw [q9, hq235] at f226; cases f226), Ne.symm (fun q9 => by rw [q9, hq235] at f225; cases f225), Ne.symm (fun q9 => by rw [q9, hq235] at f224; cases f224), Ne.symm (fun q9 => by rw [q9, hq235] at f223; cases f223), Ne.symm (fun q9 => by rw [q9, hq235] at f222; cases f222), Ne.symm (fun q9 => by rw [q9, hq235] at f221; cases f221)⟩)
        exact hb_vret hAe hx hb hr hlocks hP hD hS (Nat.le_of_ble_eq_true rfl) (Nat.le_of_ble_eq_true rfl) (⟨rfl, q1, q12, q25, q40, q57, q76, q97, q120, q145, q172, q201, q232, by rw [if_pos c265n, if_neg c406n, if_neg c407n]; exact ⟨f410, f422, f421, f420, f419, f418, f417, f416, f415, f414, f413, f412, f411, hap12⟩⟩) d_Md_init_154
      · skip
        have c407n := hb_gti c407
        refine lv_sipush (v := 5000) hx hb d_Md_init_144 (by decide) ?_
        refine lv_goto (tgt := 151) hx hb d_Md_init_147 (by decide) ?_
        refine hb_putF (ty := .int) hx hb hts hown hC_Md hK hP hD hS f393 2 (by decide) rfl fl_Md_51 rfl hnm rfl rfl rfl rfl (Nat.le_of_ble_eq_true rfl) d_Md_init_151 (fun M423 H locs eM424 hP hD hS => ?_)
        have f425 : M423 y = some (.inr (4, [.int 0, .int 1, .int 5000, .int 0, .int 0, .ref q1, .ref q12, .int 0, .ref q25, .ref q40, .ref q57, .ref q76, .ref q97, .ref q120, .ref q145, .ref q172, .ref q201, .ref q232])) := by rw [eM424]; exact hb_up_self
        have f426 : M423 q232 = some (.inl (cI, 60, .inl (fun _ => 0))) := by rw [eM424, hb_up_ne (Ne.symm (fun q9 => by rw [q9, hq235] at f220; cases f220))]; exact f394
        have f427 : M423 q201 = some (.inl (cJ, 60, .inr (.inl (fun _ => 0)))) := by rw [eM424, hb_up_ne (Ne.symm (fun q9 => by rw [q9, hq204] at f190; cases f190))]; exact f395
        have f428 : M423 q172 = some (.inl (cI, 60, .inl (fun _ => 0))) := by rw [eM424, hb_up_ne (Ne.symm (fun q9 => by rw [q9, hq175] at f162; cases f162))]; exact f396
        have f429 : M423 q145 = some (.inl (cI, 60, .inl (fun _ => 0))) := by rw [eM424, hb_up_ne (Ne.symm (fun q9 => by rw [q9, hq148] at f136; cases f136))]; exact f397
        have f430 : M423 q120 = some (.inl (cI, 60, .inl (fun _ => 0))) := by rw [eM424, hb_up_ne (Ne.symm (fun q9 => by rw [q9, hq123] at f112; cases f112))]; exact f398
        have f431 : M423 q97 = some (.inl (cJ, 60, .inr (.inl (fun _ => 0)))) := by rw [eM424, hb_up_ne (Ne.symm (fun q9 => by rw [q9, hq100] at f90; cases f90))]; exact f399
        have f432 : M423 q76 = some (.inl (cJ, 60, .inr (.inl (fun _ => 0)))) := by rw [eM424, hb_up_ne (Ne.symm (fun q9 => by rw [q9, hq79] at f70; cases f70))]; exact f400
        have f433 : M423 q57 = some (.inl (cI, 60, .inl (fun _ => 0))) := by rw [eM424, hb_up_ne (Ne.symm (fun q9 => by rw [q9, hq60] at f52; cases f52))]; exact f401
        have f434 : M423 q40 = some (.inl (cI, 60, .inl (fun _ => 0))) := by rw [eM424, hb_up_ne (Ne.symm (fun q9 => by rw [q9, hq43] at f36; cases f36))]; exact f402
        have f435 : M423 q25 = some (.inl (cI, 60, .inl (fun _ => 0))) := by rw [eM424, hb_up_ne (Ne.symm (fun q9 => by rw [q9, hq28] at f22; cases f22))]; exact f403
        have f436 : M423 q12 = some (.inl (cJ, 16, .inr (.inl (fun _ => 0)))) := by rw [eM424, hb_up_ne (Ne.symm (fun q9 => by rw [q9, hq15] at f10; cases f10))]; exact f404
        have f437 : M423 q1 = some (.inl (cJ, 16, .inr (.inl (fun _ => 0)))) := by rw [eM424, hb_up_ne (Ne.symm (fun q9 => by rw [q9, hq4] at fy; cases fy))]; exact f405
        have hap0 := hb_ap.nil
        have hap1 : hb_ap [q1] := hap0.push (L := []) (by simp)
        have hap2 : hb_ap [q1, q12] := hap1.push (L := [q1]) (by simp only [List.mem_cons, List.not_mem_nil, or_false]; exact Ne.symm (fun q9 => by rw [q9, hq15] at f11; cases f11))
        have hap3 : hb_ap [q1, q12, q25] := hap2.push (L := [q1, q12]) (by simp only [List.mem_cons, List.not_mem_nil, or_false, not_or]; exact ⟨Ne.symm (fun q9 => by rw [q9, hq28] at f24; cases f24), Ne.symm (fun q9 => by rw [q9, hq28] at f23; cases f23)⟩)
        have hap4 : hb_ap [q1, q12, q25, q40] := hap3.push (L := [q1, q12, q25]) (by simp only [List.mem_cons, List.not_mem_nil, or_false, not_or]; exact ⟨Ne.symm (fun q9 => by rw [q9, hq43] at f39; cases f39), Ne.symm (fun q9 => by rw [q9, hq43] at f38; cases f38), Ne.symm (fun q9 => by rw [q9, hq43] at f37; cases f37)⟩)
        have hap5 : hb_ap [q1, q12, q25, q40, q57] := hap4.push (L := [q1, q12, q25, q40]) (by simp only [List.mem_cons, List.not_mem_nil, or_false, not_or]; exact ⟨Ne.symm (fun q9 => by rw [q9, hq60] at f56; cases f56), Ne.symm (fun q9 => by rw [q9, hq60] at f55; cases f55), Ne.symm (fun q9 => by rw [q9, hq60] at f54; cases f54), Ne.symm (fun q9 => by rw [q9, hq60] at f53; cases f53)⟩)
        have hap6 : hb_ap [q1, q12, q25, q40, q57, q76] := hap5.push (L := [q1, q12, q25, q40, q57]) (by simp only [List.mem_cons, List.not_mem_nil, or_false, not_or]; exact ⟨Ne.symm (fun q9 => by rw [q9, hq79] at f75; cases f75), Ne.symm (fun q9 => by rw [q9, hq79] at f74; cases f74), Ne.symm (fun q9 => by rw [q9, hq79] at f73; cases f73), Ne.symm (fun q9 => by rw [q9, hq79] at f72; cases f72), Ne.symm (fun q9 => by rw [q9, hq79] at f71; cases f71)⟩)
        have hap7 : hb_ap [q1, q12, q25, q40, q57, q76, q97] := hap6.push (L := [q1, q12, q25, q40, q57, q76]) (by simp only [List.mem_cons, List.not_mem_nil, or_false, not_or]; exact ⟨Ne.symm (fun q9 => by rw [q9, hq100] at f96; cases f96), Ne.symm (fun q9 => by rw [q9, hq100] at f95; cases f95), Ne.symm (fun q9 => by rw [q9, hq100] at f94; cases f94), Ne.symm (fun q9 => by rw [q9, hq100] at f93; cases f93), Ne.symm (fun q9 => by rw [q9, hq100] at f92; cases f92), Ne.symm (fun q9 => by rw [q9, hq100] at f91; cases f91)⟩)
        have hap8 : hb_ap [q1, q12, q25, q40, q57, q76, q97, q120] := hap7.push (L := [q1, q12, q25, q40, q57, q76, q97]) (by simp only [List.mem_cons, List.not_mem_nil, or_false, not_or]; exact ⟨Ne.symm (fun q9 => by rw [q9, hq123] at f119; cases f119), Ne.symm (fun q9 => by rw [q9, hq123] at f118; cases f118), Ne.symm (fun q9 => by rw [q9, hq123] at f117; cases f117), Ne.symm (fun q9 => by rw [q9, hq123] at f116; cases f116), Ne.symm (fun q9 => by rw [q9, hq123] at f115; cases f115), Ne.symm (fun q9 => by rw [q9, hq123] at f114; cases f114), Ne.symm (fun q9 => by rw [q9, hq123] at f113; cases f113)⟩)
        have hap9 : hb_ap [q1, q12, q25, q40, q57, q76, q97, q120, q145] := hap8.push (L := [q1, q12, q25, q40, q57, q76, q97, q120]) (by simp only [List.mem_cons, List.not_mem_nil, or_false, not_or]; exact ⟨Ne.symm (fun q9 => by rw [q9, hq148] at f144; cases f144), Ne.symm (fun q9 => by rw [q9, hq148] at f143; cases f143), Ne.symm (fun q9 => by rw [q9, hq148] at f142; cases f142), Ne.symm (fun q9 => by rw [q9, hq148] at f141; cases f141), Ne.symm (fun q9 => by rw [q9, hq148] at f140; cases f140), Ne.symm (fun q9 => by rw [q9, hq148] at f139; cases f139), Ne.symm (fun q9 => by rw [q9, hq148] at f138; cases f138), Ne.symm (fun q9 => by rw [q9, hq148] at f137; cases f137)⟩)
        have hap10 : hb_ap [q1, q12, q25, q40, q57, q76, q97, q120, q145, q172] := hap9.push (L := [q1, q12, q25, q40, q57, q76, q97, q120, q145]) (by simp only [List.mem_cons, List.not_mem_nil, or_false, not_or]; exact ⟨Ne.symm (fun q9 => by rw [q9, hq175] at f171; cases f171), Ne.symm (fun q9 => by rw [q9, hq175] at f170; cases f170), Ne.symm (fun q9 => by rw [q9, hq175] at f169; cases f169), Ne.symm (fun q9 => by rw [q9, hq175] at f168; cases f168), Ne.symm (fun q9 => by rw [q9, hq175] at f167; cases f167), Ne.symm (fun q9 => by rw [q9, hq175] at f166; cases f166), Ne.symm (fun q9 => by rw [q9, hq175] at f165; cases f165), Ne.symm (fun q9 => by rw [q9, hq175] at f164; cases f164), Ne.symm (fun q9 => by rw [q9, hq175] at f163; cases f163)⟩)
        have hap11 : hb_ap [q1, q12, q25, q40, q57, q76, q97, q120, q145, q172, q201] := hap10.push (L := [q1, q12, q25, q40, q57, q76, q97, q120, q145, q172]) (by simp only [List.mem_cons, List.not_mem_nil, or_false, not_or]; exact ⟨Ne.symm (fun q9 => by rw [q9, hq204] at f200; cases f200), Ne.symm (fun q9 => by rw [q9, hq204] at f199; cases f199), Ne.symm (fun q9 => by rw [q9, hq204] at f198; cases f198), Ne.symm (fun q9 => by rw [q9, hq204] at f197; cases f197), Ne.symm (fun q9 => by rw [q9, hq204] at f196; cases f196), Ne.symm (fun q9 => by rw [q9, hq204] at f195; cases f195), Ne.symm (fun q9 => by rw [q9, hq204] at f194; cases f194), Ne.symm (fun q9 => by rw [q9, hq204] at f193; cases f193), Ne.symm (fun q9 => by rw [q9, hq204] at f192; cases f192), Ne.symm (fun q9 => by rw [q9, hq204] at f191; cases f191)⟩)
        have hap12 : hb_ap [q1, q12, q25, q40, q57, q76, q97, q120, q145, q172, q201, q232] := hap11.push (L := [q1, q12, q25, q40, q57, q76, q97, q120, q145, q172, q201]) (by simp only [List.mem_cons, List.not_mem_nil, or_false, not_or]; exact ⟨Ne.symm (fun q9 => by rw [q9, hq235] at f231; cases f231), Ne.symm (fun q9 => by rw [q9, hq235] at f230; cases f230), Ne.symm (fun q9 => by rw [q9, hq235] at f229; cases f229), Ne.symm (fun q9 => by rw [q9, hq235] at f228; cases f228), Ne.symm (fun q9 => by rw [q9, hq235] at f227; cases f227), Ne.symm (fun q9 => by rw [q9, hq235] at f226; cases f226), Ne.symm (fun q9 => by rw [q9, hq235] at f225; cases f225), Ne.symm (fun q9 => by rw [q9, hq235] at f224; cases f224), Ne.symm (fun q9 => by rw [q9, hq235] at f223; cases f223), Ne.symm (fun q9 => by rw [q9, hq235] at f222; cases f222), Ne.symm (fun q9 => by rw [q9, hq235] at f221; cases f221)⟩)
        exact hb_vret hAe hx hb hr hlocks hP hD hS (Nat.le_of_ble_eq_true rfl) (Nat.le_of_ble_eq_true rfl) (⟨rfl, q1, q12, q25, q40, q57, q76, q97, q120, q145, q172, q201, q232, by rw [if_pos c265n, if_neg c406n, if_pos c407n]; exact ⟨f425, f437, f436, f435, f434, f433, f432, f431, f430, f429, f428, f427, f426, hap12⟩⟩) d_Md_init_154
    · skip
      have c406n := hb_gti c406
      refine lv_iconst (v := 1) hx hb d_Md_init_133 (by decide) ?_
      refine lv_goto (tgt := 151) hx hb d_Md_init_134 (by decide) ?_
      refine hb_putF (ty := .int) hx hb hts hown hC_Md hK hP hD hS f393 2 (by decide) rfl fl_Md_51 rfl hnm rfl rfl rfl rfl (Nat.le_of_ble_eq_true rfl) d_Md_init_151 (fun M438 H locs eM439 hP hD hS => ?_)
      have f440 : M438 y = some (.inr (4, [.int 0, .int 1, .int 1, .int 0, .int 0, .ref q1, .ref q12, .int 0, .ref q25, .ref q40, .ref q57, .ref q76, .ref q97, .ref q120, .ref q145, .ref q172, .ref q201, .ref q232])) := by rw [eM439]; exact hb_up_self
      have f441 : M438 q232 = some (.inl (cI, 60, .inl (fun _ => 0))) := by rw [eM439, hb_up_ne (Ne.symm (fun q9 => by rw [q9, hq235] at f220; cases f220))]; exact f394
      have f442 : M438 q201 = some (.inl (cJ, 60, .inr (.inl (fun _ => 0)))) := by rw [eM439, hb_up_ne (Ne.symm (fun q9 => by rw [q9, hq204] at f190; cases f190))]; exact f395
      have f443 : M438 q172 = some (.inl (cI, 60, .inl (fun _ => 0))) := by rw [eM439, hb_up_ne (Ne.symm (fun q9 => by rw [q9, hq175] at f162; cases f162))]; exact f396
      have f444 : M438 q145 = some (.inl (cI, 60, .inl (fun _ => 0))) := by rw [eM439, hb_up_ne (Ne.symm (fun q9 => by rw [q9, hq148] at f136; cases f136))]; exact f397
      have f445 : M438 q120 = some (.inl (cI, 60, .inl (fun _ => 0))) := by rw [eM439, hb_up_ne (Ne.symm (fun q9 => by rw [q9, hq123] at f112; cases f112))]; exact f398
      have f446 : M438 q97 = some (.inl (cJ, 60, .inr (.inl (fun _ => 0)))) := by rw [eM439, hb_up_ne (Ne.symm (fun q9 => by rw [q9, hq100] at f90; cases f90))]; exact f399
      have f447 : M438 q76 = some (.inl (cJ, 60, .inr (.inl (fun _ => 0)))) := by rw [eM439, hb_up_ne (Ne.symm (fun q9 => by rw [q9, hq79] at f70; cases f70))]; exact f400
      have f448 : M438 q57 = some (.inl (cI, 60, .inl (fun _ => 0))) := by rw [eM439, hb_up_ne (Ne.symm (fun q9 => by rw [q9, hq60] at f52; cases f52))]; exact f401
      have f449 : M438 q40 = some (.inl (cI, 60, .inl (fun _ => 0))) := by rw [eM439, hb_up_ne (Ne.symm (fun q9 => by rw [q9, hq43] at f36; cases f36))]; exact f402
      have f450 : M438 q25 = some (.inl (cI, 60, .inl (fun _ => 0))) := by rw [eM439, hb_up_ne (Ne.symm (fun q9 => by rw [q9, hq28] at f22; cases f22))]; exact f403
      have f451 : M438 q12 = some (.inl (cJ, 16, .inr (.inl (fun _ => 0)))) := by rw [eM439, hb_up_ne (Ne.symm (fun q9 => by rw [q9, hq15] at f10; cases f10))]; exact f404
      have f452 : M438 q1 = some (.inl (cJ, 16, .inr (.inl (fun _ => 0)))) := by rw [eM439, hb_up_ne (Ne.symm (fun q9 => by rw [q9, hq4] at fy; cases fy))]; exact f405
      have hap0 := hb_ap.nil
      have hap1 : hb_ap [q1] := hap0.push (L := []) (by simp)
      have hap2 : hb_ap [q1, q12] := hap1.push (L := [q1]) (by simp only [List.mem_cons, List.not_mem_nil, or_false]; exact Ne.symm (fun q9 => by rw [q9, hq15] at f11; cases f11))
      have hap3 : hb_ap [q1, q12, q25] := hap2.push (L := [q1, q12]) (by simp only [List.mem_cons, List.not_mem_nil, or_false, not_or]; exact ⟨Ne.symm (fun q9 => by rw [q9, hq28] at f24; cases f24), Ne.symm (fun q9 => by rw [q9, hq28] at f23; cases f23)⟩)
      have hap4 : hb_ap [q1, q12, q25, q40] := hap3.push (L := [q1, q12, q25]) (by simp only [List.mem_cons, List.not_mem_nil, or_false, not_or]; exact ⟨Ne.symm (fun q9 => by rw [q9, hq43] at f39; cases f39), Ne.symm (fun q9 => by rw [q9, hq43] at f38; cases f38), Ne.symm (fun q9 => by rw [q9, hq43] at f37; cases f37)⟩)
      have hap5 : hb_ap [q1, q12, q25, q40, q57] := hap4.push (L := [q1, q12, q25, q40]) (by simp only [List.mem_cons, List.not_mem_nil, or_false, not_or]; exact ⟨Ne.symm (fun q9 => by rw [q9, hq60] at f56; cases f56), Ne.symm (fun q9 => by rw [q9, hq60] at f55; cases f55), Ne.symm (fun q9 => by rw [q9, hq60] at f54; cases f54), Ne.symm (fun q9 => by rw [q9, hq60] at f53; cases f53)⟩)
      have hap6 : hb_ap [q1, q12, q25, q40, q57, q76] := hap5.push (L := [q1, q12, q25, q40, q57]) (by simp only [List.mem_cons, List.not_mem_nil, or_false, not_or]; exact ⟨Ne.symm (fun q9 => by rw [q9, hq79] at f75; cases f75), Ne.symm (fun q9 => by rw [q9, hq79] at f74; cases f74), Ne.symm (fun q9 => by rw [q9, hq79] at f73; cases f73), Ne.symm (fun q9 => by rw [q9, hq79] at f72; cases f72), Ne.symm (fun q9 => by rw [q9, hq79] at f71; cases f71)⟩)
      have hap7 : hb_ap [q1, q12, q25, q40, q57, q76, q97] := hap6.push (L := [q1, q12, q25, q40, q57, q76]) (by simp only [List.mem_cons, List.not_mem_nil, or_false, not_or]; exact ⟨Ne.symm (fun q9 => by rw [q9, hq100] at f96; cases f96), Ne.symm (fun q9 => by rw [q9, hq100] at f95; cases f95), Ne.symm (fun q9 => by rw [q9, hq100] at f94; cases f94), Ne.symm (fun q9 => by rw [q9, hq100] at f93; cases f93), Ne.symm (fun q9 => by rw [q9, hq100] at f92; cases f92), Ne.symm (fun q9 => by rw [q9, hq100] at f91; cases f91)⟩)
      have hap8 : hb_ap [q1, q12, q25, q40, q57, q76, q97, q120] := hap7.push (L := [q1, q12, q25, q40, q57, q76, q97]) (by simp only [List.mem_cons, List.not_mem_nil, or_false, not_or]; exact ⟨Ne.symm (fun q9 => by rw [q9, hq123] at f119; cases f119), Ne.symm (fun q9 => by rw [q9, hq123] at f118; cases f118), Ne.symm (fun q9 => by rw [q9, hq123] at f117; cases f117), Ne.symm (fun q9 => by rw [q9, hq123] at f116; cases f116), Ne.symm (fun q9 => by rw [q9, hq123] at f115; cases f115), Ne.symm (fun q9 => by rw [q9, hq123] at f114; cases f114), Ne.symm (fun q9 => by rw [q9, hq123] at f113; cases f113)⟩)
      have hap9 : hb_ap [q1, q12, q25, q40, q57, q76, q97, q120, q145] := hap8.push (L := [q1, q12, q25, q40, q57, q76, q97, q120]) (by simp only [List.mem_cons, List.not_mem_nil, or_false, not_or]; exact ⟨Ne.symm (fun q9 => by rw [q9, hq148] at f144; cases f144), Ne.symm (fun q9 => by rw [q9, hq148] at f143; cases f143), Ne.symm (fun q9 => by rw [q9, hq148] at f142; cases f142), Ne.symm (fun q9 => by rw [q9, hq148] at f141; cases f141), Ne.symm (fun q9 => by rw [q9, hq148] at f140; cases f140), Ne.symm (fun q9 => by rw [q9, hq148] at f139; cases f139), Ne.symm (fun q9 => by rw [q9, hq148] at f138; cases f138), Ne.symm (fun q9 => by rw [q9, hq148] at f137; cases f137)⟩)
      have hap10 : hb_ap [q1, q12, q25, q40, q57, q76, q97, q120, q145, q172] := hap9.push (L := [q1, q12, q25, q40, q57, q76, q97, q120, q145]) (by simp only [List.mem_cons, List.not_mem_nil, or_false, not_or]; exact ⟨Ne.symm (fun q9 => by rw [q9, hq175] at f171; cases f171), Ne.symm (fun q9 => by rw [q9, hq175] at f170; cases f170), Ne.symm (fun q9 => by rw [q9, hq175] at f169; cases f169), Ne.symm (fun q9 => by rw [q9, hq175] at f168; cases f168), Ne.symm (fun q9 => by rw [q9, hq175] at f167; cases f167), Ne.symm (fun q9 => by rw [q9, hq175] at f166; cases f166), Ne.symm (fun q9 => by rw [q9, hq175] at f165; cases f165), Ne.symm (fun q9 => by rw [q9, hq175] at f164; cases f164), Ne.symm (fun q9 => by rw [q9, hq175] at f163; cases f163)⟩)
      have hap11 : hb_ap [q1, q12, q25, q40, q57, q76, q97, q120, q145, q172, q201] := hap10.push (L := [q1, q12, q25, q40, q57, q76, q97, q120, q145, q172]) (by simp only [List.mem_cons, List.not_mem_nil, or_false, not_or]; exact ⟨Ne.symm (fun q9 => by rw [q9, hq204] at f200; cases f200), Ne.symm (fun q9 => by rw [q9, hq204] at f199; cases f199), Ne.symm (fun q9 => by rw [q9, hq204] at f198; cases f198), Ne.symm (fun q9 => by rw [q9, hq204] at f197; cases f197), Ne.symm (fun q9 => by rw [q9, hq204] at f196; cases f196), Ne.symm (fun q9 => by rw [q9, hq204] at f195; cases f195), Ne.symm (fun q9 => by rw [q9, hq204] at f194; cases f194), Ne.symm (fun q9 => by rw [q9, hq204] at f193; cases f193), Ne.symm (fun q9 => by rw [q9, hq204] at f192; cases f192), Ne.symm (fun q9 => by rw [q9, hq204] at f191; cases f191)⟩)
      have hap12 : hb_ap [q1, q12, q25, q40, q57, q76, q97, q120, q145, q172, q201, q232] := hap11.push (L := [q1, q12, q25, q40, q57, q76, q97, q120, q145, q172, q201]) (by simp only [List.mem_cons, List.not_mem_nil, or_false, not_or]; exact ⟨Ne.symm (fun q9 => by rw [q9, hq235] at f231; cases f231), Ne.symm (fun q9 => by rw [q9, hq235] at f230; cases f230), Ne.symm (fun q9 => by rw [q9, hq235] at f229; cases f229), Ne.symm (fun q9 => by rw [q9, hq235] at f228; cases f228), Ne.symm (fun q9 => by rw [q9, hq235] at f227; cases f227), Ne.symm (fun q9 => by rw [q9, hq235] at f226; cases f226), Ne.symm (fun q9 => by rw [q9, hq235] at f225; cases f225), Ne.symm (fun q9 => by rw [q9, hq235] at f224; cases f224), Ne.symm (fun q9 => by rw [q9, hq235] at f223; cases f223), Ne.symm (fun q9 => by rw [q9, hq235] at f222; cases f222), Ne.symm (fun q9 => by rw [q9, hq235] at f221; cases f221)⟩)
      exact hb_vret hAe hx hb hr hlocks hP hD hS (Nat.le_of_ble_eq_true rfl) (Nat.le_of_ble_eq_true rfl) (⟨rfl, q1, q12, q25, q40, q57, q76, q97, q120, q145, q172, q201, q232, by rw [if_pos c265n, if_pos c406n]; exact ⟨f440, f452, f451, f450, f449, f448, f447, f446, f445, f444, f443, f442, f441, hap12⟩⟩) d_Md_init_154
set_option maxHeartbeats 4000000 in
set_option maxRecDepth 100000 in
/-- key: at -/
theorem c_Md_key_at {l : Launch} {s0 : State} {D : va_G} {cI cJ cO : ClassId} {e0 mi : Nat} (hE : hb_E l s0 D cI cJ cO e0 mi) (M : hb_M) (y b0 b1 b2 b3 b4 b5 b6 b7 b8 b9 b10 b11 : Nat) (cd ho pa tm : Int32) (na np : Nat) (bal mi : Nat → Int64) (ky ac st : Nat → Int32) (he cl : Nat → Int64) (un dn ds : Nat → Int32) (dd : Nat → Int64) (dl : Nat → Int32) (h : mR cI cJ M y b0 b1 b2 b3 b4 b5 b6 b7 b8 b9 b10 b11 cd ho pa tm na np bal mi ky ac st he cl un dn ds dd dl) (hna : na ≤ 16) (hnp : np ≤ 60) (k : Int32) (h0 : ¬ k < 0) (i : Nat) (hi : i < np) (hri : nI (hb_cn ky (ky i) np) = k) (hbf : ∀ p, p < i → nI (hb_cn ky (ky p) np) ≠ k) : hb_Met l D hb_cl s0 y_Md_key b_Md_key 5 (some .int) { frames := 3, cells := 0, slots := 0, locals := 100 } [.ref y, .int k] M (fun v M1 => v = some (.int (ky i)) ∧ mR cI cJ M1 y b0 b1 b2 b3 b4 b5 b6 b7 b8 b9 b10 b11 0 ho pa tm na np bal mi ky ac st he cl un dn ds dd dl) := by
  refine hb_Met.of (by decide) (Nat.le_of_ble_eq_true rfl) ?_
  intro p e s m below meth c A hAe hX hz hP hD hA hS ls hl
  obtain ⟨hx, hb, hr, hml, hown, hlocks, hnm, hG, hnh⟩ := id hX
  have hown : s.vm.findClass "HoldBookModel" = some m.cls := hown
  have hts := hE.ts hG ([.ref y, .int k] : List Value).toArray
  have hK := hE.kn hG
  have hl : lv_has ls 5 [(0, .ref y), (1, .int k)] := hl
  obtain ⟨fy, g0, g1, g2, g3, g4, g5, g6, g7, g8, g9, g10, g11, hap⟩ := id h
  refine lv_aload_n hx hb d_Md_key_0 rfl (lv_at hl 0 rfl) ?_
  refine lv_iload_n hx hb d_Md_key_1 rfl (lv_at hl 1 rfl) ?_
  refine lv_if_lt (tgt := 9) hx hb d_Md_key_2 (by decide) (fun c1 => ?_) (fun c1 => ?_)
  · skip
    exact absurd c1 h0
  · skip
    refine lv_iconst (v := 1) hx hb d_Md_key_5 (by decide) ?_
    refine lv_goto (tgt := 10) hx hb d_Md_key_6 (by decide) ?_
    have hm2 : mR cI cJ M y b0 b1 b2 b3 b4 b5 b6 b7 b8 b9 b10 b11 cd ho pa tm na np bal mi ky ac st he cl un dn ds dd dl := ⟨fy, g0, g1, g2, g3, g4, g5, g6, g7, g8, g9, g10, g11, hap⟩
    refine hb_callV (rest := []) hX hts hb_gd Y_Md_goes (c_Md_goes hE M y b0 b1 b2 b3 b4 b5 b6 b7 b8 b9 b10 b11 cd ho pa tm na np bal mi ky ac st he cl un dn ds dd dl hm2 (by omega) (by omega) 1 (by decide)) ml_Md_83 im_Md_goes se_Md_goes hK fy hC_Md.1 hz hP hD hS hA rfl hl.1 rfl (Nat.le_of_ble_eq_true rfl) ⟨Nat.le_of_ble_eq_true rfl, Nat.le_of_ble_eq_true rfl⟩ ⟨Nat.le_of_ble_eq_true rfl, Nat.le_of_ble_eq_true rfl⟩ d_Md_key_10 (fun v5 M3 H locs hq4 hP hD hS _ hkp => ?_)
    obtain ⟨ev6, h7⟩ := hq4
    subst ev6
    rw [if_neg (by decide : ¬ (1 : Int32) = 0)] at h7
    obtain ⟨fy8, g9, g10, g11, g12, g13, g14, g15, g16, g17, g18, g19, g20, -⟩ := id h7
    refine W.eq (g2 := F0 m 13 ls [.int 1]) rfl ?_
    refine lv_if_ne (tgt := 18) hx hb d_Md_key_13 (by decide) (fun c21 => ?_) (fun c21 => ?_)
    · skip
      refine lv_iconst (v := 0) hx hb d_Md_key_18 (by decide) ?_
      refine lv_istore_n (lv' := [(2, .int 0), (0, .ref y), (1, .int k)]) hx hb d_Md_key_19 rfl hl (by decide) rfl (fun ls hl => ?_)
      have loop_p1 : ∀ (d_p1 p1 : Nat), np - p1 < d_p1 → p1 ≤ np → p1 ≤ i → ∀ (H : Heap) (locs : List Loc), hb_P D hb_cl M3 H → hb_D A M3 → va_S A s.heap H locs → ∀ ls : Array Slot, lv_has ls 5 [(2, .int (nI p1)), (0, .ref y), (1, .int k)] → W p l e ({ frames := 3, cells := 0, slots := 0, locals := 100 } : Room) s m ([.ref y, .int k] : List Value).toArray below meth c H locs 0 0 (MQ below (hb_Post D hb_cl s.heap.size M (fun v M1 => v = some (.int (ky i)) ∧ mR cI cJ M1 y b0 b1 b2 b3 b4 b5 b6 b7 b8 b9 b10 b11 0 ho pa tm na np bal mi ky ac st he cl un dn ds dd dl)) ([.ref y, .int k] : List Value).toArray s 0 0 A) (F0 m 20 ls []) := by
        intro d_p1
        induction d_p1 with
        | zero => intro p1 h9; exact absurd h9 (by omega)
        | succ d_p1 ih_p1 =>
          intro p1 hd_p1 hn_p1 hinv_p1 H locs hP hD hS ls hl
          refine lv_iload_n hx hb d_Md_key_20 rfl (lv_at hl 0 rfl) ?_
          refine lv_aload_n hx hb d_Md_key_21 rfl (lv_at hl 1 rfl) ?_
          refine hb_get hx hb hts hown hC_Md hK hP fy8 7 (by decide) rfl fl_Md_60 rfl d_Md_key_22 ?_
          refine lv_icmp_ge (tgt := 90) hx hb d_Md_key_25 (by decide) (fun c22 => ?_) (fun c22 => ?_)
          · skip
            have c22n := hb_ngti c22
            have he_p1 : p1 = np := Nat.le_antisymm hn_p1 (by have := (nI_leI (by omega) (by omega)).mp c22; omega)
            refine lv_iconst (v := (-1)) hx hb d_Md_key_90 (by decide) ?_
            exact hb_iret hAe hx hb hr hlocks hP hD hS (Nat.le_of_ble_eq_true rfl) (Nat.le_of_ble_eq_true rfl) (⟨absurd hinv_p1 (by omega), ⟨fy8, g9, g10, g11, g12, g13, g14, g15, g16, g17, g18, g19, g20, hap⟩⟩) d_Md_key_91
          · skip
            have c22n := hb_gti c22
            have hlt_p1 : p1 < np := Nat.lt_of_not_le (fun z => c22 (nI_le z (by omega)))
            refine lv_iconst (v := 0) hx hb d_Md_key_28 (by decide) ?_
            refine lv_istore_n (lv' := [(3, .int 0), (2, .int (nI p1)), (0, .ref y), (1, .int k)]) hx hb d_Md_key_29 rfl hl (by decide) rfl (fun ls hl => ?_)
            refine lv_iconst (v := 0) hx hb d_Md_key_30 (by decide) ?_
            refine lv_istore (lv' := [(4, .int 0), (3, .int 0), (2, .int (nI p1)), (0, .ref y), (1, .int k)]) hx hb d_Md_key_31 hl (by decide) rfl (fun ls hl => ?_)
            have loop_q1 : ∀ (d_q1 q1 : Nat), np - q1 < d_q1 → q1 ≤ np → True → ∀ (H : Heap) (locs : List Loc), hb_P D hb_cl M3 H → hb_D A M3 → va_S A s.heap H locs → ∀ ls : Array Slot, lv_has ls 5 [(4, .int (nI q1)), (3, .int (nI (hb_cn ky (ky p1) q1))), (2, .int (nI p1)), (0, .ref y), (1, .int k)] → W p l e ({ frames := 3, cells := 0, slots := 0, locals := 100 } : Room) s m ([.ref y, .int k] : List Value).toArray below meth c H locs 0 0 (MQ below (hb_Post D hb_cl s.heap.size M (fun v M1 => v = some (.int (ky i)) ∧ mR cI cJ M1 y b0 b1 b2 b3 b4 b5 b6 b7 b8 b9 b10 b11 0 ho pa tm na np bal mi ky ac st he cl un dn ds dd dl)) ([.ref y, .int k] : List Value).toArray s 0 0 A) (F0 m 33 ls []) := by
              intro d_q1
              induction d_q1 with
              | zero => intro q1 h9; exact absurd h9 (by omega)
              | succ d_q1 ih_q1 =>
                intro q1 hd_q1 hn_q1 hinv_q1 H locs hP hD hS ls hl
                refine lv_iload hx hb d_Md_key_33 (lv_at hl 0 rfl) ?_
                refine lv_aload_n hx hb d_Md_key_35 rfl (lv_at hl 3 rfl) ?_
                refine hb_get hx hb hts hown hC_Md hK hP fy8 7 (by decide) rfl fl_Md_60 rfl d_Md_key_36 ?_
                refine lv_icmp_ge (tgt := 72) hx hb d_Md_key_39 (by decide) (fun c23 => ?_) (fun c23 => ?_)
                · skip
                  have c23n := hb_ngti c23
                  have he_q1 : q1 = np := Nat.le_antisymm hn_q1 (by have := (nI_leI (by omega) (by omega)).mp c23; omega)
                  refine lv_iload_n hx hb d_Md_key_72 rfl (lv_at hl 1 rfl) ?_
                  refine lv_iload_n hx hb d_Md_key_73 rfl (lv_at hl 4 rfl) ?_
                  refine lv_icmp_ne (tgt := 84) hx hb d_Md_key_74 (by decide) (fun c24 => ?_) (fun c24 => ?_)
                  · skip
                    rw [he_q1] at c24
                    refine lv_iinc (v := (nI p1) + 1) (lv' := [(2, .int ((nI p1) + 1)), (4, .int (nI q1)), (3, .int (nI (hb_cn ky (ky p1) q1))), (0, .ref y), (1, .int k)]) hx hb d_Md_key_84 hl (k := 2) rfl (by rfl) (by decide) rfl (fun ls hl => ?_)
                    refine lv_goto (tgt := 20) hx hb d_Md_key_87 (by decide) ?_
                    have hl : lv_has ls 5 [(2, .int (nI (p1 + 1))), (0, .ref y), (1, .int k)] := by rw [← nI_1]; exact lv_sub hl [0, 3, 4] rfl
                    exact ih_p1 (p1 + 1) (by omega) (by omega) (by have hpi : p1 ≠ i := (fun z => c24 (by rw [z]; exact hri)); omega) _ _ hP hD hS _ hl
                  · skip
                    rw [he_q1] at c24
                    refine lv_aload_n hx hb d_Md_key_77 rfl (lv_at hl 3 rfl) ?_
                    refine hb_get hx hb hts hown hC_Md hK hP fy8 8 (by decide) rfl fl_Md_16 rfl d_Md_key_78 ?_
                    refine lv_iload_n hx hb d_Md_key_81 rfl (lv_at hl 2 rfl) ?_
                    refine va_iald hx hb hK (hP.one g11) 0 0 rfl rfl (vp_in_nI (by omega) (by omega)) d_Md_key_82 ?_
                    refine W.eq (g2 := F0 m 83 ls [.int (ky p1)]) (by rw [nI_clamp (show p1 < 2 ^ 31 by omega)]) ?_
                    exact hb_iret hAe hx hb hr hlocks hP hD hS (Nat.le_of_ble_eq_true rfl) (Nat.le_of_ble_eq_true rfl) (⟨by have hpi : p1 = i := Nat.le_antisymm hinv_p1 (Nat.le_of_not_lt (fun z => hbf p1 z c24)); rw [hpi], ⟨fy8, g9, g10, g11, g12, g13, g14, g15, g16, g17, g18, g19, g20, hap⟩⟩) d_Md_key_83
                · skip
                  have c23n := hb_gti c23
                  have hlt_q1 : q1 < np := Nat.lt_of_not_le (fun z => c23 (nI_le z (by omega)))
                  refine lv_iload_n hx hb d_Md_key_42 rfl (lv_at hl 1 rfl) ?_
                  refine lv_aload_n hx hb d_Md_key_43 rfl (lv_at hl 3 rfl) ?_
                  refine hb_get hx hb hts hown hC_Md hK hP fy8 8 (by decide) rfl fl_Md_16 rfl d_Md_key_44 ?_
                  refine lv_iload hx hb d_Md_key_47 (lv_at hl 0 rfl) ?_
                  refine va_iald hx hb hK (hP.one g11) 0 0 rfl rfl (vp_in_nI (by omega) (by omega)) d_Md_key_49 ?_
                  refine W.eq (g2 := F0 m 50 ls [.int (ky q1), .int (nI (hb_cn ky (ky p1) q1))]) (by rw [nI_clamp (show q1 < 2 ^ 31 by omega)]) ?_
                  refine lv_aload_n hx hb d_Md_key_50 rfl (lv_at hl 3 rfl) ?_
                  refine hb_get hx hb hts hown hC_Md hK hP fy8 8 (by decide) rfl fl_Md_16 rfl d_Md_key_51 ?_
                  refine lv_iload_n hx hb d_Md_key_54 rfl (lv_at hl 2 rfl) ?_
                  refine va_iald hx hb hK (hP.one g11) 0 0 rfl rfl (vp_in_nI (by omega) (by omega)) d_Md_key_55 ?_
                  refine W.eq (g2 := F0 m 56 ls [.int (ky p1), .int (ky q1), .int (nI (hb_cn ky (ky p1) q1))]) (by rw [nI_clamp (show p1 < 2 ^ 31 by omega)]) ?_
                  refine lv_icmp_ge (tgt := 63) hx hb d_Md_key_56 (by decide) (fun c25 => ?_) (fun c25 => ?_)
                  · skip
                    have c25n := hb_ngti c25
                    refine lv_iconst (v := 0) hx hb d_Md_key_63 (by decide) ?_
                    refine lv_iadd hx hb d_Md_key_64 ?_
                    refine lv_istore_n (lv' := [(3, .int ((nI (hb_cn ky (ky p1) q1)) + 0)), (4, .int (nI q1)), (2, .int (nI p1)), (0, .ref y), (1, .int k)]) hx hb d_Md_key_65 rfl hl (by decide) rfl (fun ls hl => ?_)
                    refine lv_iinc (v := (nI q1) + 1) (lv' := [(4, .int ((nI q1) + 1)), (3, .int ((nI (hb_cn ky (ky p1) q1)) + 0)), (2, .int (nI p1)), (0, .ref y), (1, .int k)]) hx hb d_Md_key_66 hl (k := 1) rfl (by rfl) (by decide) rfl (fun ls hl => ?_)
                    refine lv_goto (tgt := 33) hx hb d_Md_key_69 (by decide) ?_
                    have hl : lv_has ls 5 [(4, .int (nI (q1 + 1))), (3, .int (nI (hb_cn ky (ky p1) (q1 + 1)))), (2, .int (nI p1)), (0, .ref y), (1, .int k)] := by rw [hb_cn_0 c25n, ← nI_1]; exact lv_sub hl [0, 1, 2, 3, 4] rfl
                    exact ih_q1 (q1 + 1) (by omega) (by omega) trivial _ _ hP hD hS _ hl
                  · skip
                    have c25n := hb_gti c25
                    refine lv_iconst (v := 1) hx hb d_Md_key_59 (by decide) ?_
                    refine lv_goto (tgt := 64) hx hb d_Md_key_60 (by decide) ?_
                    refine lv_iadd hx hb d_Md_key_64 ?_
                    refine lv_istore_n (lv' := [(3, .int ((nI (hb_cn ky (ky p1) q1)) + 1)), (4, .int (nI q1)), (2, .int (nI p1)), (0, .ref y), (1, .int k)]) hx hb d_Md_key_65 rfl hl (by decide) rfl (fun ls hl => ?_)
                    refine lv_iinc (v := (nI q1) + 1) (lv' := [(4, .int ((nI q1) + 1)), (3, .int ((nI (hb_cn ky (ky p1) q1)) + 1)), (2, .int (nI p1)), (0, .ref y), (1, .int k)]) hx hb d_Md_key_66 hl (k := 1) rfl (by rfl) (by decide) rfl (fun ls hl => ?_)
                    refine lv_goto (tgt := 33) hx hb d_Md_key_69 (by decide) ?_
                    have hl : lv_has ls 5 [(4, .int (nI (q1 + 1))), (3, .int (nI (hb_cn ky (ky p1) (q1 + 1)))), (2, .int (nI p1)), (0, .ref y), (1, .int k)] := by rw [hb_cn_1 c25n, ← nI_1]; exact lv_sub hl [0, 1, 2, 3, 4] rfl
                    exact ih_q1 (q1 + 1) (by omega) (by omega) trivial _ _ hP hD hS _ hl
            exact loop_q1 (np + 1) 0 (by omega) (by omega) trivial _ _ hP hD hS _ (lv_sub hl [0, 1, 2, 3, 4] rfl)
      exact loop_p1 (np + 1) 0 (by omega) (by omega) (Nat.zero_le _) _ _ hP hD hS _ (lv_sub hl [0, 1, 2] rfl)
    · skip
      exfalso; revert c21; decide
set_option maxHeartbeats 4000000 in
set_option maxRecDepth 100000 in
/-- key: no -/
theorem c_Md_key_no {l : Launch} {s0 : State} {D : va_G} {cI cJ cO : ClassId} {e0 mi : Nat} (hE : hb_E l s0 D cI cJ cO e0 mi) (M : hb_M) (y b0 b1 b2 b3 b4 b5 b6 b7 b8 b9 b10 b11 : Nat) (cd ho pa tm : Int32) (na np : Nat) (bal mi : Nat → Int64) (ky ac st : Nat → Int32) (he cl : Nat → Int64) (un dn ds : Nat → Int32) (dd : Nat → Int64) (dl : Nat → Int32) (h : mR cI cJ M y b0 b1 b2 b3 b4 b5 b6 b7 b8 b9 b10 b11 cd ho pa tm na np bal mi ky ac st he cl un dn ds dd dl) (hna : na ≤ 16) (hnp : np ≤ 60) (k : Int32) (h0 : ¬ k < 0) (hno : ∀ p, p < np → nI (hb_cn ky (ky p) np) ≠ k) : hb_Met l D hb_cl s0 y_Md_key b_Md_key 5 (some .int) { frames := 3, cells := 0, slots := 0, locals := 100 } [.ref y, .int k] M (fun v M1 => v = some (.int (-1)) ∧ mR cI cJ M1 y b0 b1 b2 b3 b4 b5 b6 b7 b8 b9 b10 b11 0 ho pa tm na np bal mi ky ac st he cl un dn ds dd dl) := by
  refine hb_Met.of (by decide) (Nat.le_of_ble_eq_true rfl) ?_
  intro p e s m below meth c A hAe hX hz hP hD hA hS ls hl
  obtain ⟨hx, hb, hr, hml, hown, hlocks, hnm, hG, hnh⟩ := id hX
  have hown : s.vm.findClass "HoldBookModel" = some m.cls := hown
  have hts := hE.ts hG ([.ref y, .int k] : List Value).toArray
  have hK := hE.kn hG
  have hl : lv_has ls 5 [(0, .ref y), (1, .int k)] := hl
  obtain ⟨fy, g0, g1, g2, g3, g4, g5, g6, g7, g8, g9, g10, g11, hap⟩ := id h
  refine lv_aload_n hx hb d_Md_key_0 rfl (lv_at hl 0 rfl) ?_
  refine lv_iload_n hx hb d_Md_key_1 rfl (lv_at hl 1 rfl) ?_
  refine lv_if_lt (tgt := 9) hx hb d_Md_key_2 (by decide) (fun c1 => ?_) (fun c1 => ?_)
  · skip
    exact absurd c1 h0
  · skip
    refine lv_iconst (v := 1) hx hb d_Md_key_5 (by decide) ?_
    refine lv_goto (tgt := 10) hx hb d_Md_key_6 (by decide) ?_
    have hm2 : mR cI cJ M y b0 b1 b2 b3 b4 b5 b6 b7 b8 b9 b10 b11 cd ho pa tm na np bal mi ky ac st he cl un dn ds dd dl := ⟨fy, g0, g1, g2, g3, g4, g5, g6, g7, g8, g9, g10, g11, hap⟩
    refine hb_callV (rest := []) hX hts hb_gd Y_Md_goes (c_Md_goes hE M y b0 b1 b2 b3 b4 b5 b6 b7 b8 b9 b10 b11 cd ho pa tm na np bal mi ky ac st he cl un dn ds dd dl hm2 (by omega) (by omega) 1 (by decide)) ml_Md_83 im_Md_goes se_Md_goes hK fy hC_Md.1 hz hP hD hS hA rfl hl.1 rfl (Nat.le_of_ble_eq_true rfl) ⟨Nat.le_of_ble_eq_true rfl, Nat.le_of_ble_eq_true rfl⟩ ⟨Nat.le_of_ble_eq_true rfl, Nat.le_of_ble_eq_true rfl⟩ d_Md_key_10 (fun v5 M3 H locs hq4 hP hD hS _ hkp => ?_)
    obtain ⟨ev6, h7⟩ := hq4
    subst ev6
    rw [if_neg (by decide : ¬ (1 : Int32) = 0)] at h7
    obtain ⟨fy8, g9, g10, g11, g12, g13, g14, g15, g16, g17, g18, g19, g20, -⟩ := id h7
    refine W.eq (g2 := F0 m 13 ls [.int 1]) rfl ?_
    refine lv_if_ne (tgt := 18) hx hb d_Md_key_13 (by decide) (fun c21 => ?_) (fun c21 => ?_)
    · skip
      refine lv_iconst (v := 0) hx hb d_Md_key_18 (by decide) ?_
      refine lv_istore_n (lv' := [(2, .int 0), (0, .ref y), (1, .int k)]) hx hb d_Md_key_19 rfl hl (by decide) rfl (fun ls hl => ?_)
      have loop_p1 : ∀ (d_p1 p1 : Nat), np - p1 < d_p1 → p1 ≤ np → True → ∀ (H : Heap) (locs : List Loc), hb_P D hb_cl M3 H → hb_D A M3 → va_S A s.heap H locs → ∀ ls : Array Slot, lv_has ls 5 [(2, .int (nI p1)), (0, .ref y), (1, .int k)] → W p l e ({ frames := 3, cells := 0, slots := 0, locals := 100 } : Room) s m ([.ref y, .int k] : List Value).toArray below meth c H locs 0 0 (MQ below (hb_Post D hb_cl s.heap.size M (fun v M1 => v = some (.int (-1)) ∧ mR cI cJ M1 y b0 b1 b2 b3 b4 b5 b6 b7 b8 b9 b10 b11 0 ho pa tm na np bal mi ky ac st he cl un dn ds dd dl)) ([.ref y, .int k] : List Value).toArray s 0 0 A) (F0 m 20 ls []) := by
        intro d_p1
        induction d_p1 with
        | zero => intro p1 h9; exact absurd h9 (by omega)
        | succ d_p1 ih_p1 =>
          intro p1 hd_p1 hn_p1 hinv_p1 H locs hP hD hS ls hl
          refine lv_iload_n hx hb d_Md_key_20 rfl (lv_at hl 0 rfl) ?_
          refine lv_aload_n hx hb d_Md_key_21 rfl (lv_at hl 1 rfl) ?_
          refine hb_get hx hb hts hown hC_Md hK hP fy8 7 (by decide) rfl fl_Md_60 rfl d_Md_key_22 ?_
          refine lv_icmp_ge (tgt := 90) hx hb d_Md_key_25 (by decide) (fun c22 => ?_) (fun c22 => ?_)
          · skip
            have c22n := hb_ngti c22
            have he_p1 : p1 = np := Nat.le_antisymm hn_p1 (by have := (nI_leI (by omega) (by omega)).mp c22; omega)
            refine lv_iconst (v := (-1)) hx hb d_Md_key_90 (by decide) ?_
            exact hb_iret hAe hx hb hr hlocks hP hD hS (Nat.le_of_ble_eq_true rfl) (Nat.le_of_ble_eq_true rfl) (⟨rfl, ⟨fy8, g9, g10, g11, g12, g13, g14, g15, g16, g17, g18, g19, g20, hap⟩⟩) d_Md_key_91
          · skip
            have c22n := hb_gti c22
            have hlt_p1 : p1 < np := Nat.lt_of_not_le (fun z => c22 (nI_le z (by omega)))
            refine lv_iconst (v := 0) hx hb d_Md_key_28 (by decide) ?_
            refine lv_istore_n (lv' := [(3, .int 0), (2, .int (nI p1)), (0, .ref y), (1, .int k)]) hx hb d_Md_key_29 rfl hl (by decide) rfl (fun ls hl => ?_)
            refine lv_iconst (v := 0) hx hb d_Md_key_30 (by decide) ?_
            refine lv_istore (lv' := [(4, .int 0), (3, .int 0), (2, .int (nI p1)), (0, .ref y), (1, .int k)]) hx hb d_Md_key_31 hl (by decide) rfl (fun ls hl => ?_)
            have loop_q1 : ∀ (d_q1 q1 : Nat), np - q1 < d_q1 → q1 ≤ np → True → ∀ (H : Heap) (locs : List Loc), hb_P D hb_cl M3 H → hb_D A M3 → va_S A s.heap H locs → ∀ ls : Array Slot, lv_has ls 5 [(4, .int (nI q1)), (3, .int (nI (hb_cn ky (ky p1) q1))), (2, .int (nI p1)), (0, .ref y), (1, .int k)] → W p l e ({ frames := 3, cells := 0, slots := 0, locals := 100 } : Room) s m ([.ref y, .int k] : List Value).toArray below meth c H locs 0 0 (MQ below (hb_Post D hb_cl s.heap.size M (fun v M1 => v = some (.int (-1)) ∧ mR cI cJ M1 y b0 b1 b2 b3 b4 b5 b6 b7 b8 b9 b10 b11 0 ho pa tm na np bal mi ky ac st he cl un dn ds dd dl)) ([.ref y, .int k] : List Value).toArray s 0 0 A) (F0 m 33 ls []) := by
              intro d_q1
              induction d_q1 with
              | zero => intro q1 h9; exact absurd h9 (by omega)
              | succ d_q1 ih_q1 =>
                intro q1 hd_q1 hn_q1 hinv_q1 H locs hP hD hS ls hl
                refine lv_iload hx hb d_Md_key_33 (lv_at hl 0 rfl) ?_
                refine lv_aload_n hx hb d_Md_key_35 rfl (lv_at hl 3 rfl) ?_
                refine hb_get hx hb hts hown hC_Md hK hP fy8 7 (by decide) rfl fl_Md_60 rfl d_Md_key_36 ?_
                refine lv_icmp_ge (tgt := 72) hx hb d_Md_key_39 (by decide) (fun c23 => ?_) (fun c23 => ?_)
                · skip
                  have c23n := hb_ngti c23
                  have he_q1 : q1 = np := Nat.le_antisymm hn_q1 (by have := (nI_leI (by omega) (by omega)).mp c23; omega)
                  refine lv_iload_n hx hb d_Md_key_72 rfl (lv_at hl 1 rfl) ?_
                  refine lv_iload_n hx hb d_Md_key_73 rfl (lv_at hl 4 rfl) ?_
                  refine lv_icmp_ne (tgt := 84) hx hb d_Md_key_74 (by decide) (fun c24 => ?_) (fun c24 => ?_)
                  · skip
                    rw [he_q1] at c24
                    refine lv_iinc (v := (nI p1) + 1) (lv' := [(2, .int ((nI p1) + 1)), (4, .int (nI q1)), (3, .int (nI (hb_cn ky (ky p1) q1))), (0, .ref y), (1, .int k)]) hx hb d_Md_key_84 hl (k := 2) rfl (by rfl) (by decide) rfl (fun ls hl => ?_)
                    refine lv_goto (tgt := 20) hx hb d_Md_key_87 (by decide) ?_
                    have hl : lv_has ls 5 [(2, .int (nI (p1 + 1))), (0, .ref y), (1, .int k)] := by rw [← nI_1]; exact lv_sub hl [0, 3, 4] rfl
                    exact ih_p1 (p1 + 1) (by omega) (by omega) trivial _ _ hP hD hS _ hl
                  · skip
                    rw [he_q1] at c24
                    refine lv_aload_n hx hb d_Md_key_77 rfl (lv_at hl 3 rfl) ?_
                    refine hb_get hx hb hts hown hC_Md hK hP fy8 8 (by decide) rfl fl_Md_16 rfl d_Md_key_78 ?_
                    refine lv_iload_n hx hb d_Md_key_81 rfl (lv_at hl 2 rfl) ?_
                    refine va_iald hx hb hK (hP.one g11) 0 0 rfl rfl (vp_in_nI (by omega) (by omega)) d_Md_key_82 ?_
                    refine W.eq (g2 := F0 m 83 ls [.int (ky p1)]) (by rw [nI_clamp (show p1 < 2 ^ 31 by omega)]) ?_
                    exact hb_iret hAe hx hb hr hlocks hP hD hS (Nat.le_of_ble_eq_true rfl) (Nat.le_of_ble_eq_true rfl) (⟨absurd c24 (hno p1 hlt_p1), ⟨fy8, g9, g10, g11, g12, g13, g14, g15, g16, g17, g18, g19, g20, hap⟩⟩) d_Md_key_83
                · skip
                  have c23n := hb_gti c23
                  have hlt_q1 : q1 < np := Nat.lt_of_not_le (fun z => c23 (nI_le z (by omega)))
                  refine lv_iload_n hx hb d_Md_key_42 rfl (lv_at hl 1 rfl) ?_
                  refine lv_aload_n hx hb d_Md_key_43 rfl (lv_at hl 3 rfl) ?_
                  refine hb_get hx hb hts hown hC_Md hK hP fy8 8 (by decide) rfl fl_Md_16 rfl d_Md_key_44 ?_
                  refine lv_iload hx hb d_Md_key_47 (lv_at hl 0 rfl) ?_
                  refine va_iald hx hb hK (hP.one g11) 0 0 rfl rfl (vp_in_nI (by omega) (by omega)) d_Md_key_49 ?_
                  refine W.eq (g2 := F0 m 50 ls [.int (ky q1), .int (nI (hb_cn ky (ky p1) q1))]) (by rw [nI_clamp (show q1 < 2 ^ 31 by omega)]) ?_
                  refine lv_aload_n hx hb d_Md_key_50 rfl (lv_at hl 3 rfl) ?_
                  refine hb_get hx hb hts hown hC_Md hK hP fy8 8 (by decide) rfl fl_Md_16 rfl d_Md_key_51 ?_
                  refine lv_iload_n hx hb d_Md_key_54 rfl (lv_at hl 2 rfl) ?_
                  refine va_iald hx hb hK (hP.one g11) 0 0 rfl rfl (vp_in_nI (by omega) (by omega)) d_Md_key_55 ?_
                  refine W.eq (g2 := F0 m 56 ls [.int (ky p1), .int (ky q1), .int (nI (hb_cn ky (ky p1) q1))]) (by rw [nI_clamp (show p1 < 2 ^ 31 by omega)]) ?_
                  refine lv_icmp_ge (tgt := 63) hx hb d_Md_key_56 (by decide) (fun c25 => ?_) (fun c25 => ?_)
                  · skip
                    have c25n := hb_ngti c25
                    refine lv_iconst (v := 0) hx hb d_Md_key_63 (by decide) ?_
                    refine lv_iadd hx hb d_Md_key_64 ?_
                    refine lv_istore_n (lv' := [(3, .int ((nI (hb_cn ky (ky p1) q1)) + 0)), (4, .int (nI q1)), (2, .int (nI p1)), (0, .ref y), (1, .int k)]) hx hb d_Md_key_65 rfl hl (by decide) rfl (fun ls hl => ?_)
                    refine lv_iinc (v := (nI q1) + 1) (lv' := [(4, .int ((nI q1) + 1)), (3, .int ((nI (hb_cn ky (ky p1) q1)) + 0)), (2, .int (nI p1)), (0, .ref y), (1, .int k)]) hx hb d_Md_key_66 hl (k := 1) rfl (by rfl) (by decide) rfl (fun ls hl => ?_)
                    refine lv_goto (tgt := 33) hx hb d_Md_key_69 (by decide) ?_
                    have hl : lv_has ls 5 [(4, .int (nI (q1 + 1))), (3, .int (nI (hb_cn ky (ky p1) (q1 + 1)))), (2, .int (nI p1)), (0, .ref y), (1, .int k)] := by rw [hb_cn_0 c25n, ← nI_1]; exact lv_sub hl [0, 1, 2, 3, 4] rfl
                    exact ih_q1 (q1 + 1) (by omega) (by omega) trivial _ _ hP hD hS _ hl
                  · skip
                    have c25n := hb_gti c25
                    refine lv_iconst (v := 1) hx hb d_Md_key_59 (by decide) ?_
                    refine lv_goto (tgt := 64) hx hb d_Md_key_60 (by decide) ?_
                    refine lv_iadd hx hb d_Md_key_64 ?_
                    refine lv_istore_n (lv' := [(3, .int ((nI (hb_cn ky (ky p1) q1)) + 1)), (4, .int (nI q1)), (2, .int (nI p1)), (0, .ref y), (1, .int k)]) hx hb d_Md_key_65 rfl hl (by decide) rfl (fun ls hl => ?_)
                    refine lv_iinc (v := (nI q1) + 1) (lv' := [(4, .int ((nI q1) + 1)), (3, .int ((nI (hb_cn ky (ky p1) q1)) + 1)), (2, .int (nI p1)), (0, .ref y), (1, .int k)]) hx hb d_Md_key_66 hl (k := 1) rfl (by rfl) (by decide) rfl (fun ls hl => ?_)
                    refine lv_goto (tgt := 33) hx hb d_Md_key_69 (by decide) ?_
                    have hl : lv_has ls 5 [(4, .int (nI (q1 + 1))), (3, .int (nI (hb_cn ky (ky p1) (q1 + 1)))), (2, .int (nI p1)), (0, .ref y), (1, .int k)] := by rw [hb_cn_1 c25n, ← nI_1]; exact lv_sub hl [0, 1, 2, 3, 4] rfl
                    exact ih_q1 (q1 + 1) (by omega) (by omega) trivial _ _ hP hD hS _ hl
            exact loop_q1 (np + 1) 0 (by omega) (by omega) trivial _ _ hP hD hS _ (lv_sub hl [0, 1, 2, 3, 4] rfl)
      exact loop_p1 (np + 1) 0 (by omega) (by omega) trivial _ _ hP hD hS _ (lv_sub hl [0, 1, 2] rfl)
    · skip
      exfalso; revert c21; decide
