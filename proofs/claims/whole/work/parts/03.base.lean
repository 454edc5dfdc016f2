/-! MAPS OF CELLS: a world is a map M from addresses to cells. -/
abbrev hb_M : Type := Nat → Option va_E
def hb_P (D : va_G) (cl : List vw_C) (M : hb_M) (H : Heap) : Prop := ∀ (a : Nat) (e : va_E), M a = some e → va_at D cl (a, e) H
def hb_D (A : Nat → Prop) (M : hb_M) : Prop := ∀ (a : Nat) (e : va_E), M a = some e → A a
def hb_A (M : hb_M) (sz : Nat) : Nat → Prop := fun q => M q ≠ none ∨ sz ≤ q
def hb_up (M : hb_M) (a : Nat) (e : va_E) : hb_M := fun b => if b = a then some e else M b
theorem hb_up_self {M : hb_M} {a : Nat} {e : va_E} : hb_up M a e a = some e := by simp [hb_up]
theorem hb_up_ne {M : hb_M} {a b : Nat} {e : va_E} (h : b ≠ a) : hb_up M a e b = M b := by simp [hb_up, h]
theorem hb_up_idem {M : hb_M} {a : Nat} {e e' : va_E} : hb_up (hb_up M a e) a e' = hb_up M a e' := by
  funext b; by_cases h : b = a <;> simp [hb_up, h]
theorem hb_up_same {M : hb_M} {a : Nat} {e : va_E} (h : M a = some e) : hb_up M a e = M := by
  funext b; by_cases hb : b = a <;> simp [hb_up, hb, h]
theorem hb_up_comm {M : hb_M} {a b : Nat} {e f : va_E} (h : a ≠ b) : hb_up (hb_up M a e) b f = hb_up (hb_up M b f) a e := by
  funext c
  by_cases h1 : c = a
  · subst h1; simp [hb_up, h]
  · by_cases h2 : c = b
    · subst h2; simp [hb_up, h1]
    · simp [hb_up, h1, h2]
theorem hb_P.lt {D : va_G} {cl : List vw_C} {M : hb_M} {H : Heap} (h : hb_P D cl M H) {a : Nat} {e : va_E} (ha : M a = some e) : a < H.size := (h a e ha).lt
theorem hb_P.kept {D : va_G} {cl : List vw_C} {M : hb_M} {H H1 : Heap} (h : hb_P D cl M H) (hk : ∀ (a : Nat) (e : va_E), M a = some e → H1[a]? = H[a]?) : hb_P D cl M H1 := fun a e ha => (h a e ha).kept (hk a e ha)
theorem hb_P.one {D : va_G} {cl : List vw_C} {M : hb_M} {H : Heap} (h : hb_P D cl M H) {a : Nat} {e : va_E} (ha : M a = some e) : va_P D cl [(a, e)] H := by
  intro k q hk
  match k, hk with
  | 0, hk => cases hk; exact h a e ha
  | k + 1, hk => simp at hk
theorem hb_P.two {D : va_G} {cl : List vw_C} {M : hb_M} {H : Heap} (h : hb_P D cl M H) {a b : Nat} {e f : va_E} (ha : M a = some e) (hb : M b = some f) : va_P D cl [(a, e), (b, f)] H := by
  intro k q hk
  match k, hk with
  | 0, hk => cases hk; exact h a e ha
  | 1, hk => cases hk; exact h b f hb
  | k + 2, hk => simp at hk
def hb_L (M : hb_M) (n : Nat) : va_W := (List.range n).filterMap (fun a => (M a).map (fun e => (a, e)))
theorem hb_L_mem {M : hb_M} {n : Nat} {q : Nat × va_E} : q ∈ hb_L M n ↔ q.1 < n ∧ M q.1 = some q.2 := by
  obtain ⟨a, e⟩ := q
  simp only [hb_L, List.mem_filterMap, List.mem_range, Option.map_eq_some_iff]
  constructor
  · rintro ⟨b, hb, x, hx, hq⟩
    cases hq
    exact ⟨hb, hx⟩
  · rintro ⟨h1, h2⟩
    exact ⟨a, h1, e, h2, rfl⟩
theorem hb_L_P {D : va_G} {cl : List vw_C} {M : hb_M} {H : Heap} (h : hb_P D cl M H) (n : Nat) : va_P D cl (hb_L M n) H := fun _ q hk => h q.1 q.2 (hb_L_mem.mp (List.mem_of_getElem? hk)).2
theorem hb_L_at {D : va_G} {cl : List vw_C} {M : hb_M} {H : Heap} (h : hb_P D cl M H) {a : Nat} {e : va_E} (ha : M a = some e) : ∃ k : Nat, (hb_L M H.size)[k]? = some (a, e) := List.getElem?_of_mem (hb_L_mem.mpr ⟨h.lt ha, ha⟩)
theorem hb_L_pw (M : hb_M) (n : Nat) : (hb_L M n).Pairwise (fun p q => p.1 < q.1) := by
  refine List.Pairwise.filterMap _ ?_ List.pairwise_lt_range
  intro a b hab p hp q hq
  simp only [Option.map_eq_some_iff] at hp hq
  obtain ⟨x, -, rfl⟩ := hp
  obtain ⟨y, -, rfl⟩ := hq
  exact hab
theorem hb_L_D {A : Nat → Prop} {M : hb_M} (h : hb_D A M) (n : Nat) : va_D A (hb_L M n) := by
  refine ⟨?_, fun k q hk => h q.1 q.2 (hb_L_mem.mp (List.mem_of_getElem? hk)).2⟩
  intro i j p q hi hj hpq
  have hw := List.pairwise_iff_getElem.mp (hb_L_pw M n)
  obtain ⟨hi1, hi2⟩ := List.getElem?_eq_some_iff.mp hi
  obtain ⟨hj1, hj2⟩ := List.getElem?_eq_some_iff.mp hj
  rcases Nat.lt_trichotomy i j with h1 | h1 | h1
  · have := hw i j hi1 hj1 h1
    rw [hi2, hj2] at this
    omega
  · exact h1
  · have := hw j i hj1 hi1 h1
    rw [hi2, hj2] at this
    omega
theorem hb_set {D : va_G} {cl : List vw_C} {M : hb_M} {H H1 : Heap} {k a : Nat} {e e' : va_E} (hP : hb_P D cl M H) (hk : (hb_L M H.size)[k]? = some (a, e)) (h : va_P D cl ((hb_L M H.size).set k (a, e')) H1) : hb_P D cl (hb_up M a e') H1 := by
  intro b x hb
  have hkl := (List.getElem?_eq_some_iff.mp hk).1
  by_cases hba : b = a
  · subst hba
    rw [hb_up_self] at hb
    cases hb
    exact h k (b, e') (by rw [List.getElem?_set]; simp [hkl])
  · rw [hb_up_ne hba] at hb
    obtain ⟨j, hj⟩ := hb_L_at hP hb
    refine h j (b, x) ?_
    have hjk : k ≠ j := by
      intro q
      subst q
      rw [hk] at hj
      cases hj
      exact hba rfl
    rw [List.getElem?_set_ne hjk]
    exact hj
theorem hb_setD {A : Nat → Prop} {M : hb_M} {a : Nat} {e e' : va_E} (hD : hb_D A M) (ha : M a = some e) : hb_D A (hb_up M a e') := by
  intro b x hb
  by_cases hba : b = a
  · subst hba; exact hD b e ha
  · rw [hb_up_ne hba] at hb; exact hD b x hb
theorem hb_push {D : va_G} {cl : List vw_C} {A : Nat → Prop} {M : hb_M} {H H1 : Heap} {q : Nat} {e : va_E} (hP : hb_P D cl M H) (h : va_P D cl (hb_L M H.size ++ [(q, e)]) H1) (hd : va_D A (hb_L M H.size ++ [(q, e)])) : M q = none ∧ hb_P D cl (hb_up M q e) H1 ∧ A q := by
  have hlast : (hb_L M H.size ++ [(q, e)])[(hb_L M H.size).length]? = some (q, e) := by simp
  refine ⟨?_, ?_, hd.2 _ _ hlast⟩
  · cases hx : M q with
    | none => rfl
    | some x =>
      obtain ⟨j, hj⟩ := hb_L_at hP hx
      have hjl := (List.getElem?_eq_some_iff.mp hj).1
      have := hd.1 j _ (q, x) (q, e) (by rw [List.getElem?_append_left hjl]; exact hj) hlast rfl
      omega
  · intro b x hb
    by_cases hba : b = q
    · subst hba
      rw [hb_up_self] at hb
      cases hb
      exact h _ _ hlast
    · rw [hb_up_ne hba] at hb
      obtain ⟨j, hj⟩ := hb_L_at hP hb
      have hjl := (List.getElem?_eq_some_iff.mp hj).1
      exact h j (b, x) (by rw [List.getElem?_append_left hjl]; exact hj)
theorem hb_pushD {A : Nat → Prop} {M : hb_M} {q : Nat} {e : va_E} (hD : hb_D A M) (hq : A q) : hb_D A (hb_up M q e) := by
  intro b x hb
  by_cases hba : b = q
  · subst hba; exact hq
  · rw [hb_up_ne hba] at hb; exact hD b x hb
/-- what a program decides of a class: its place, its words, its types, its names -/
def hb_C (cl : List vw_C) (Ts : List Cond) (C : String) (T : u_T) (N ci : Nat) (ty0 : Nat → FieldType) : Prop := cl[ci]? = some (C, T, N) ∧ (∀ w ∈ u_ws C T N, w ∈ Ts) ∧ (∀ k, k < N → parseFieldDescriptor (T k).2.2.1 = some (ty0 k)) ∧ ∀ a, a < N → ∀ b, b < N → a ≠ b → (T a).2.1 ≠ (T b).2.1
section HB
variable {p : Program} {l : Launch} {e : Env} {R : Room} {s : State} {m : MethodId} {args : Array Value} {below : List Frame} {meth : Method} {c : Code} {H : Heap} {locs : List Loc} {cells slots : Nat} {Q : State → Prop}
variable {cc : ByteArray} {pc : Nat} {ls : Array Slot} {rest : List Value} {D : va_G} {cl : List vw_C} {A : Nat → Prop} {a : Nat} {tys : List (ClassId × FieldType)} {M : hb_M} {H0 : Heap}
variable {own C : String} {T : u_T} {N ci index : Nat} {Ts : List Cond} {ty0 : Nat → FieldType}
theorem hb_get (hx : p.tables.exec = Jvm.exec) (hb : c.code = cc) (hts : ∀ w ∈ Ts, w.before args s = true) (hown : s.vm.findClass own = some m.cls) (hC : hb_C cl Ts C T N ci ty0) (hK : va_K D cl tys s) (hP : hb_P D cl M H) {fs : List Value} (he : M a = some (.inr (ci, fs))) (k : Nat) (hk : k < N) (ho : (T k).1 = C) (hlink : Cond.fieldLink own index C (T k).2.1 (T k).2.2.1 ∈ Ts) {v : Value} (hv : fs[k]? = some v) (hdg : decode cc pc = .ok (.getfield index, 3))
    (kk : W p l e R s m args below meth c H locs cells slots Q (F0 m (pc + 3) ls (v :: rest))) : W p l e R s m args below meth c H locs cells slots Q (F0 m pc ls (.ref a :: rest)) :=
  va_get hx hb hts hC.2.1 hown hK (hP.one he) 0 rfl hC.1 k hk (hts _ hlink) (fun _ h9 => by rw [ho] at h9; exact h9) hv hdg kk
theorem hb_put (hx : p.tables.exec = Jvm.exec) (hb : c.code = cc) (hts : ∀ w ∈ Ts, w.before args s = true) (hown : s.vm.findClass own = some m.cls) (hC : hb_C cl Ts C T N ci ty0) (hK : va_K D cl tys s) (hP : hb_P D cl M H) (hD : hb_D A M) (hS : va_S A H0 H locs) {fs : List Value} (he : M a = some (.inr (ci, fs))) (k : Nat) (hk : k < N) (ho : (T k).1 = C) (hlink : Cond.fieldLink own index C (T k).2.1 (T k).2.2.1 ∈ Ts) (hfin : (T k).2.2.2 = false) {ty : FieldType} {v : Value} (hd : parseFieldDescriptor (T k).2.2.1 = some ty) (hn : narrow ty v = v) (hfit : fits ty v = true) (hl : k < fs.length) (hdg : decode cc pc = .ok (.putfield index, 3))
    (kk : ∀ (M1 : hb_M) (H1 : Heap) (locs1 : List Loc), M1 = hb_up M a (.inr (ci, fs.set k v)) → hb_P D cl M1 H1 → hb_D A M1 → va_S A H0 H1 locs1 → W p l e R s m args below meth c H1 locs1 cells slots Q (F0 m (pc + 3) ls rest)) : W p l e R s m args below meth c H locs cells slots Q (F0 m pc ls (v :: .ref a :: rest)) := by
  obtain ⟨q0, hq⟩ := hb_L_at hP he
  exact va_put hx hb hts hC.2.1 ty0 hC.2.2.1 hC.2.2.2 hown hK (hb_L_P hP _) (hb_L_D hD _) hS q0 hq hC.1 k hk (hts _ hlink) (fun _ h9 => by rw [ho] at h9; exact h9) hfin hd hn hfit hl hdg (fun H1 locs1 h1 _ h3 => kk _ H1 locs1 rfl (hb_set hP hq h1) (hb_setD hD he) h3)
theorem hb_putF (hx : p.tables.exec = Jvm.exec) (hb : c.code = cc) (hts : ∀ w ∈ Ts, w.before args s = true) (hown : s.vm.findClass own = some m.cls) (hC : hb_C cl Ts C T N ci ty0) (hK : va_K D cl tys s) (hP : hb_P D cl M H) (hD : hb_D A M) (hS : va_S A H0 H locs) {fs : List Value} (he : M a = some (.inr (ci, fs))) (k : Nat) (hk : k < N) (ho : (T k).1 = C) (hlink : Cond.fieldLink own index C (T k).2.1 (T k).2.2.1 ∈ Ts) (hfin : (T k).2.2.2 = true) (hin2 : meth.name = "<init>") (hdecl : (T k).1 = own) {ty : FieldType} {v : Value} (hd : parseFieldDescriptor (T k).2.2.1 = some ty) (hn : narrow ty v = v) (hfit : fits ty v = true) (hl : k < fs.length) (hdg : decode cc pc = .ok (.putfield index, 3))
    (kk : ∀ (M1 : hb_M) (H1 : Heap) (locs1 : List Loc), M1 = hb_up M a (.inr (ci, fs.set k v)) → hb_P D cl M1 H1 → hb_D A M1 → va_S A H0 H1 locs1 → W p l e R s m args below meth c H1 locs1 cells slots Q (F0 m (pc + 3) ls rest)) : W p l e R s m args below meth c H locs cells slots Q (F0 m pc ls (v :: .ref a :: rest)) := by
  obtain ⟨q0, hq⟩ := hb_L_at hP he
  exact va_putF hx hb hts hC.2.1 ty0 hC.2.2.1 hC.2.2.2 hown hK (hb_L_P hP _) (hb_L_D hD _) hS q0 hq hC.1 k hk (hts _ hlink) (fun _ h9 => by rw [ho] at h9; exact h9) hfin hin2 hdecl hd hn hfit hl hdg (fun H1 locs1 h1 _ h3 => kk _ H1 locs1 rfl (hb_set hP hq h1) (hb_setD hD he) h3)
theorem hb_new (hx : p.tables.exec = Jvm.exec) (hb : c.code = cc) (hts : ∀ w ∈ Ts, w.before args s = true) (hown : s.vm.findClass own = some m.cls) (hC : hb_C cl Ts C T N ci ty0) (hcl : Cond.classLink own index C ∈ Ts) (hinst : Cond.instantiable C N ∈ Ts) (hini : Cond.initialized C ∈ Ts) (hK : va_K D cl tys s) (hP : hb_P D cl M H) (hD : hb_D A M) (hS : va_S A H0 H locs) (hA : ∀ q, H0.size ≤ q → A q) {fs : List Value} (hfs : ∀ j, j < N → defaultValue (ty0 j) = vp_V fs j) (hcells : cells + 1 ≤ R.cells) (hslots : slots + N ≤ R.slots) (hdg : decode cc pc = .ok (.new index, 3))
    (kk : ∀ (q : Nat) (M1 : hb_M) (H1 : Heap), M q = none → A q → M1 = hb_up M q (.inr (ci, fs)) → hb_P D cl M1 H1 → hb_D A M1 → va_S A H0 H1 locs → W p l e R s m args below meth c H1 locs (cells + 1) (slots + N) Q (F0 m (pc + 3) ls (.ref q :: rest))) : W p l e R s m args below meth c H locs cells slots Q (F0 m pc ls rest) :=
  va_new hx hb hts hC.2.1 ty0 hC.2.2.1 hown (hts _ hcl) (hts _ hinst) (hts _ hini) hK (hb_L_P hP _) (hb_L_D hD _) hS hA hC.1 hfs hcells hslots hdg (fun q H1 h1 h2 h3 => by
    obtain ⟨g1, g2, g3⟩ := hb_push hP h1 h2
    exact kk q _ H1 g1 g3 rfl g2 (hb_pushD hD g3) h3)
end HB
