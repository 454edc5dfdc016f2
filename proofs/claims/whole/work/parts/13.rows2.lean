/-! MORE ROWS over maps: inherited fields, arrays, statics -/
theorem hb_sf {args : Array Value} {s : State} {ref owner name desc : String} (h : (Cond.sameField ref owner name desc).before args s = true) : ∀ x, s.fieldFound? owner name desc = some x → s.fieldFound? ref name desc = some x := by
  intro x hx
  cases hr : s.fieldFound? ref name desc with
  | none => simp [Cond.before, Cond.holds, Cond.value, hr] at h
  | some y =>
    obtain ⟨c, k, i, f⟩ := y
    have h2 := Cond.sameField_spec hr h
    rw [h2] at hx
    exact hx
section HB2
variable {p : Program} {l : Launch} {e : Env} {R : Room} {s0 s : State} {m : MethodId} {args : Array Value} {below : List Frame} {meth : Method} {c : Code} {H : Heap} {locs : List Loc} {cells slots : Nat} {Q : State → Prop}
variable {cc : ByteArray} {pc : Nat} {ls : Array Slot} {rest : List Value} {D : va_G} {cl : List vw_C} {A : Nat → Prop} {a : Nat} {tys : List (ClassId × FieldType)} {M : hb_M} {H0 : Heap}
variable {own C : String} {T : u_T} {N ci index : Nat} {Ts : List Cond} {ty0 : Nat → FieldType} {cI cJ cO : ClassId} {e0 mi : Nat}
theorem hb_getm {ref : String} (hx : p.tables.exec = Jvm.exec) (hb : c.code = cc) (hts : ∀ w ∈ Ts, w.before args s = true) (hown : s.vm.findClass own = some m.cls) (hC : hb_C cl Ts C T N ci ty0) (hK : va_K D cl tys s) (hP : hb_P D cl M H) {fs : List Value} (he : M a = some (.inr (ci, fs))) (k : Nat) (hk : k < N) (hlink : Cond.fieldLink own index ref (T k).2.1 (T k).2.2.1 ∈ Ts) (hsf : Cond.sameField ref (T k).1 (T k).2.1 (T k).2.2.1 ∈ Ts) {v : Value} (hv : fs[k]? = some v) (hdg : decode cc pc = .ok (.getfield index, 3))
    (kk : W p l e R s m args below meth c H locs cells slots Q (F0 m (pc + 3) ls (v :: rest))) : W p l e R s m args below meth c H locs cells slots Q (F0 m pc ls (.ref a :: rest)) :=
  va_get hx hb hts hC.2.1 hown hK (hP.one he) 0 rfl hC.1 k hk (hts _ hlink) (hb_sf (hts _ hsf)) hv hdg kk
theorem hb_putm {ref : String} (hx : p.tables.exec = Jvm.exec) (hb : c.code = cc) (hts : ∀ w ∈ Ts, w.before args s = true) (hown : s.vm.findClass own = some m.cls) (hC : hb_C cl Ts C T N ci ty0) (hK : va_K D cl tys s) (hP : hb_P D cl M H) (hD : hb_D A M) (hS : va_S A H0 H locs) {fs : List Value} (he : M a = some (.inr (ci, fs))) (k : Nat) (hk : k < N) (hlink : Cond.fieldLink own index ref (T k).2.1 (T k).2.2.1 ∈ Ts) (hsf : Cond.sameField ref (T k).1 (T k).2.1 (T k).2.2.1 ∈ Ts) (hfin : (T k).2.2.2 = false) {ty : FieldType} {v : Value} (hd : parseFieldDescriptor (T k).2.2.1 = some ty) (hn : narrow ty v = v) (hfit : fits ty v = true) (hl : k < fs.length) (hdg : decode cc pc = .ok (.putfield index, 3))
    (kk : ∀ (M1 : hb_M) (H1 : Heap) (locs1 : List Loc), M1 = hb_up M a (.inr (ci, fs.set k v)) → hb_P D cl M1 H1 → hb_D A M1 → va_S A H0 H1 locs1 → W p l e R s m args below meth c H1 locs1 cells slots Q (F0 m (pc + 3) ls rest)) : W p l e R s m args below meth c H locs cells slots Q (F0 m pc ls (v :: .ref a :: rest)) := by
  obtain ⟨q0, hq⟩ := hb_L_at hP he
  exact va_put hx hb hts hC.2.1 ty0 hC.2.2.1 hC.2.2.2 hown hK (hb_L_P hP _) (hb_L_D hD _) hS q0 hq hC.1 k hk (hts _ hlink) (hb_sf (hts _ hsf)) hfin hd hn hfit hl hdg (fun H1 locs1 h1 _ h3 => kk _ H1 locs1 rfl (hb_set hP hq h1) (hb_setD hD he) h3)
theorem hb_puto (hx : p.tables.exec = Jvm.exec) (hb : c.code = cc) (hts : ∀ w ∈ Ts, w.before args s = true) (hown : s.vm.findClass own = some m.cls) (hC : hb_C cl Ts C T N ci ty0) (hK : va_K D cl tys s) (hP : hb_P D cl M H) (hD : hb_D A M) (hS : va_S A H0 H locs) {fs : List Value} (he : M a = some (.inr (ci, fs))) (k : Nat) (hk : k < N) (hlink : Cond.fieldLink own index (T k).1 (T k).2.1 (T k).2.2.1 ∈ Ts) (hfin : (T k).2.2.2 = false) {ty : FieldType} {v : Value} (hd : parseFieldDescriptor (T k).2.2.1 = some ty) (hn : narrow ty v = v) (hfit : fits ty v = true) (hl : k < fs.length) (hdg : decode cc pc = .ok (.putfield index, 3))
    (kk : ∀ (M1 : hb_M) (H1 : Heap) (locs1 : List Loc), M1 = hb_up M a (.inr (ci, fs.set k v)) → hb_P D cl M1 H1 → hb_D A M1 → va_S A H0 H1 locs1 → W p l e R s m args below meth c H1 locs1 cells slots Q (F0 m (pc + 3) ls rest)) : W p l e R s m args below meth c H locs cells slots Q (F0 m pc ls (v :: .ref a :: rest)) := by
  obtain ⟨q0, hq⟩ := hb_L_at hP he
  exact va_put hx hb hts hC.2.1 ty0 hC.2.2.1 hC.2.2.2 hown hK (hb_L_P hP _) (hb_L_D hD _) hS q0 hq hC.1 k hk (hts _ hlink) (fun _ h9 => h9) hfin hd hn hfit hl hdg (fun H1 locs1 h1 _ h3 => kk _ H1 locs1 rfl (hb_set hP hq h1) (hb_setD hD he) h3)
abbrev hb_tys (cI cJ cO : ClassId) : List (ClassId × FieldType) := [(cI, .int), (cJ, .long), (cO, .object "java/lang/Object")]
theorem hb_iast (hx : p.tables.exec = Jvm.exec) (hb : c.code = cc) (hK : va_K D cl (hb_tys cI cJ cO) s) (hP : hb_P D cl M H) (hD : hb_D A M) (hS : va_S A H0 H locs) {n : Nat} {f : Nat → Int32} (he : M a = some (.inl (cI, n, .inl f))) {i x : Int32} (hin : vp_in i n) (hdg : decode cc pc = .ok (.iastore, 1))
    (kk : ∀ (M1 : hb_M) (H1 : Heap) (locs1 : List Loc), M1 = hb_up M a (.inl (cI, n, .inl (upd f i.toNatClampNeg x))) → hb_P D cl M1 H1 → hb_D A M1 → va_S A H0 H1 locs1 → W p l e R s m args below meth c H1 locs1 cells slots Q (F0 m (pc + 1) ls rest)) : W p l e R s m args below meth c H locs cells slots Q (F0 m pc ls (.int x :: .int i :: .ref a :: rest)) := by
  obtain ⟨q0, hq⟩ := hb_L_at hP he
  exact va_iast hx hb hK (hb_L_P hP _) (hb_L_D hD _) hS q0 0 hq rfl hin hdg (fun H1 locs1 h1 _ h3 => kk _ H1 locs1 rfl (hb_set hP hq h1) (hb_setD hD he) h3)
theorem hb_last (hx : p.tables.exec = Jvm.exec) (hb : c.code = cc) (hK : va_K D cl (hb_tys cI cJ cO) s) (hP : hb_P D cl M H) (hD : hb_D A M) (hS : va_S A H0 H locs) {n : Nat} {f : Nat → Int64} (he : M a = some (.inl (cJ, n, .inr (.inl f)))) {i : Int32} {x : Int64} (hin : vp_in i n) (hdg : decode cc pc = .ok (.lastore, 1))
    (kk : ∀ (M1 : hb_M) (H1 : Heap) (locs1 : List Loc), M1 = hb_up M a (.inl (cJ, n, .inr (.inl (vp_updL f i.toNatClampNeg x)))) → hb_P D cl M1 H1 → hb_D A M1 → va_S A H0 H1 locs1 → W p l e R s m args below meth c H1 locs1 cells slots Q (F0 m (pc + 1) ls rest)) : W p l e R s m args below meth c H locs cells slots Q (F0 m pc ls (.long x :: .int i :: .ref a :: rest)) := by
  obtain ⟨q0, hq⟩ := hb_L_at hP he
  exact va_last hx hb hK (hb_L_P hP _) (hb_L_D hD _) hS q0 1 hq rfl hin hdg (fun H1 locs1 h1 _ h3 => kk _ H1 locs1 rfl (hb_set hP hq h1) (hb_setD hD he) h3)
/-- an array of references with contents f, as a cell -/
abbrev hb_ar (cO : ClassId) (n : Nat) (f : Nat → Option Nat) : va_E := .inl (cO, n, .inr (.inr (.inr (.inr f))))
theorem hb_astq {v : Nat} (hx : p.tables.exec = Jvm.exec) (hb : c.code = cc) (hK : va_K D cl (hb_tys cI cJ cO) s) (hP : hb_P D cl M H) (hD : hb_D A M) (hS : va_S A H0 H locs) {n : Nat} {f : Nat → Option Nat} (he : M a = some (hb_ar cO n f)) (hr : va_Any "java/lang/Object" s H v) {i : Int32} (hin : vp_in i n) (hdg : decode cc pc = .ok (.aastore, 1))
    (kk : ∀ (M1 : hb_M) (H1 : Heap) (locs1 : List Loc), M1 = hb_up M a (hb_ar cO n (va_up f i.toNatClampNeg (some v))) → hb_P D cl M1 H1 → hb_D A M1 → va_S A H0 H1 locs1 → W p l e R s m args below meth c H1 locs1 cells slots Q (F0 m (pc + 1) ls rest)) : W p l e R s m args below meth c H locs cells slots Q (F0 m pc ls (.ref v :: .int i :: .ref a :: rest)) := by
  obtain ⟨q0, hq⟩ := hb_L_at hP he
  exact va_astqM hx hb hK (hb_L_P hP _) (hb_L_D hD _) hS q0 2 hq rfl hr hin hdg (fun H1 locs1 h1 _ h3 => kk _ H1 locs1 rfl (hb_set hP hq h1) (hb_setD hD he) h3)
theorem hb_astqN (hx : p.tables.exec = Jvm.exec) (hb : c.code = cc) (hK : va_K D cl (hb_tys cI cJ cO) s) (hP : hb_P D cl M H) (hD : hb_D A M) (hS : va_S A H0 H locs) {n : Nat} {f : Nat → Option Nat} (he : M a = some (hb_ar cO n f)) {i : Int32} (hin : vp_in i n) (hdg : decode cc pc = .ok (.aastore, 1))
    (kk : ∀ (M1 : hb_M) (H1 : Heap) (locs1 : List Loc), M1 = hb_up M a (hb_ar cO n (va_up f i.toNatClampNeg none)) → hb_P D cl M1 H1 → hb_D A M1 → va_S A H0 H1 locs1 → W p l e R s m args below meth c H1 locs1 cells slots Q (F0 m (pc + 1) ls rest)) : W p l e R s m args below meth c H locs cells slots Q (F0 m pc ls (.null :: .int i :: .ref a :: rest)) := by
  obtain ⟨q0, hq⟩ := hb_L_at hP he
  exact va_astqN hx hb hK (hb_L_P hP _) (hb_L_D hD _) hS q0 2 hq rfl hin hdg (fun H1 locs1 h1 _ h3 => kk _ H1 locs1 rfl (hb_set hP hq h1) (hb_setD hD he) h3)
theorem hb_newq (hx : p.tables.exec = Jvm.exec) (hb : c.code = cc) (hts : ∀ w ∈ Ts, w.before args s = true) (hown : s.vm.findClass own = some m.cls) (hcl : Cond.classLink own index "java/lang/Object" ∈ Ts) (hao : va_AO "java/lang/Object" s) (hK : va_K D cl (hb_tys cI cJ cO) s) (hP : hb_P D cl M H) (hD : hb_D A M) (hS : va_S A H0 H locs) (hA : ∀ q, H0.size ≤ q → A q)
    {n : Int32} {N' : Nat} (hn : ¬ n < 0) (hN : n.toNatClampNeg = N') (hbytes : N' * 4 ≤ 536870912) (hcells : cells + 1 ≤ R.cells) (hslots : slots + N' ≤ R.slots) (hdg : decode cc pc = .ok (.anewarray index, 3))
    (kk : ∀ (q : Nat) (M1 : hb_M) (H1 : Heap), M q = none → A q → M1 = hb_up M q (hb_ar cO N' (fun _ => none)) → hb_P D cl M1 H1 → hb_D A M1 → va_S A H0 H1 locs → W p l e R s m args below meth c H1 locs (cells + 1) (slots + N') Q (F0 m (pc + 3) ls (.ref q :: rest))) : W p l e R s m args below meth c H locs cells slots Q (F0 m pc ls (.int n :: rest)) := by
  refine va_newq hx hb hown (hts _ hcl) hao hK (hb_L_P hP H.size) (hb_L_D hD H.size) hS hA hn hN hbytes hcells hslots hdg (fun q cA H1 hk h1 h2 h3 => ?_)
  have e1 : cA = cO := by
    obtain ⟨_, _, _, _, _, g1⟩ := (hk.2 3 (cA, .object "java/lang/Object") rfl).2
    obtain ⟨_, _, _, _, _, g2⟩ := (hK.2 2 (cO, .object "java/lang/Object") rfl).2
    exact Option.some.inj (g1.symm.trans g2)
  subst e1
  obtain ⟨g1, g2, g3⟩ := hb_push hP h1 h2
  exact kk q _ H1 g1 g3 rfl g2 (hb_pushD hD g3) h3
theorem hb_newI (hx : p.tables.exec = Jvm.exec) (hb : c.code = cc) (hts : ∀ w ∈ Ts, w.before args s = true) (hac : Cond.arrayClass .int ∈ Ts) (hK : va_K D cl (hb_tys cI cJ cO) s) (hP : hb_P D cl M H) (hD : hb_D A M) (hS : va_S A H0 H locs) (hA : ∀ q, H0.size ≤ q → A q)
    {n : Int32} {N' : Nat} (hn : ¬ n < 0) (hN : n.toNatClampNeg = N') (hbytes : N' * componentBytes .int ≤ 536870912) (hcells : cells + 1 ≤ R.cells) (hslots : slots + N' ≤ R.slots) (hdg : decode cc pc = .ok (.newarray .int, 2))
    (kk : ∀ (q : Nat) (M1 : hb_M) (H1 : Heap), M q = none → A q → M1 = hb_up M q (.inl (cI, N', .inl (fun _ => 0))) → hb_P D cl M1 H1 → hb_D A M1 → va_S A H0 H1 locs → W p l e R s m args below meth c H1 locs (cells + 1) (slots + N') Q (F0 m (pc + 2) ls (.ref q :: rest))) : W p l e R s m args below meth c H locs cells slots Q (F0 m pc ls (.int n :: rest)) := by
  refine va_newa (ty := .int) (a0 := (N', .inl (fun _ => 0))) hx hb (hts (Cond.arrayClass (newarray.typeOf .int)) hac) rfl hK (hb_L_P hP H.size) (hb_L_D hD H.size) hS hA (fun cA => rfl) hn hN hbytes hcells hslots hdg (fun q cA H1 hk h1 h2 h3 => ?_)
  have e1 : cA = cI := Option.some.inj ((show s.vm.findClass ("[" ++ FieldType.int.toString) = some cA from (hk.2 3 (cA, .int) rfl).2).symm.trans (hK.2 0 (cI, .int) rfl).2)
  subst e1
  obtain ⟨g1, g2, g3⟩ := hb_push hP h1 h2
  exact kk q _ H1 g1 g3 rfl g2 (hb_pushD hD g3) h3
theorem hb_newJ (hx : p.tables.exec = Jvm.exec) (hb : c.code = cc) (hts : ∀ w ∈ Ts, w.before args s = true) (hac : Cond.arrayClass .long ∈ Ts) (hK : va_K D cl (hb_tys cI cJ cO) s) (hP : hb_P D cl M H) (hD : hb_D A M) (hS : va_S A H0 H locs) (hA : ∀ q, H0.size ≤ q → A q)
    {n : Int32} {N' : Nat} (hn : ¬ n < 0) (hN : n.toNatClampNeg = N') (hbytes : N' * componentBytes .long ≤ 536870912) (hcells : cells + 1 ≤ R.cells) (hslots : slots + N' ≤ R.slots) (hdg : decode cc pc = .ok (.newarray .long, 2))
    (kk : ∀ (q : Nat) (M1 : hb_M) (H1 : Heap), M q = none → A q → M1 = hb_up M q (.inl (cJ, N', .inr (.inl (fun _ => 0)))) → hb_P D cl M1 H1 → hb_D A M1 → va_S A H0 H1 locs → W p l e R s m args below meth c H1 locs (cells + 1) (slots + N') Q (F0 m (pc + 2) ls (.ref q :: rest))) : W p l e R s m args below meth c H locs cells slots Q (F0 m pc ls (.int n :: rest)) := by
  refine va_newa (ty := .long) (a0 := (N', .inr (.inl (fun _ => 0)))) hx hb (hts (Cond.arrayClass (newarray.typeOf .long)) hac) rfl hK (hb_L_P hP H.size) (hb_L_D hD H.size) hS hA (fun cA => rfl) hn hN hbytes hcells hslots hdg (fun q cA H1 hk h1 h2 h3 => ?_)
  have e1 : cA = cJ := Option.some.inj ((show s.vm.findClass ("[" ++ FieldType.long.toString) = some cA from (hk.2 3 (cA, .long) rfl).2).symm.trans (hK.2 1 (cJ, .long) rfl).2)
  subst e1
  obtain ⟨g1, g2, g3⟩ := hb_push hP h1 h2
  exact kk q _ H1 g1 g3 rfl g2 (hb_pushD hD g3) h3
theorem hb_copyq {src : Nat} (hx : p.tables.exec = Jvm.exec) (hb : c.code = cc) (hml : c.maxLocals = ls.size) (hts : ∀ w ∈ Ts, w.before args s = true) (hown : s.vm.findClass own = some m.cls) (hlink : Cond.methodLink own index arraycopyName ∈ Ts) (hnat : Cond.native arraycopyName ∈ Ts) (hstat : Cond.static arraycopyName ∈ Ts) (hini : Cond.initialized "java/lang/System" ∈ Ts)
    (hK : va_K D cl (hb_tys cI cJ cO) s) (hP : hb_P D cl M H) (hD : hb_D A M) (hS : va_S A H0 H locs) {n0 n1 : Nat} {f g : Nat → Option Nat} (he0 : M src = some (hb_ar cO n0 f)) (he : M a = some (hb_ar cO n1 g)) {sp dp n : Int32} (h1 : ¬ sp < 0) (h2 : ¬ dp < 0) (h3 : ¬ n < 0) (h4 : sp.toNatClampNeg + n.toNatClampNeg ≤ n0) (h5 : dp.toNatClampNeg + n.toNatClampNeg ≤ n1) (hel : ∀ i : Nat, i < n.toNatClampNeg → ∀ y : Nat, f (sp.toNatClampNeg + i) = some y → va_Any "java/lang/Object" s H y)
    (hframes : 1 ≤ R.frames) (hlocals : (rest.map fun v => v.category).sum + (nativeFrameWords "java/lang/System" "arraycopy" 5 + 11) ≤ R.locals) (hdg : decode cc pc = .ok (.invokestatic index, 3))
    (kk : ∀ (M1 : hb_M) (H1 : Heap) (locs1 : List Loc), M1 = hb_up M a (hb_ar cO n1 (va_cpy f g sp.toNatClampNeg dp.toNatClampNeg n.toNatClampNeg)) → hb_P D cl M1 H1 → hb_D A M1 → va_S A H0 H1 locs1 → W p l e R s m args below meth c H1 locs1 cells slots Q (F0 m (pc + 3) ls rest)) : W p l e R s m args below meth c H locs cells slots Q (F0 m pc ls (.int n :: .int dp :: .ref a :: .int sp :: .ref src :: rest)) := by
  obtain ⟨q0, hq0⟩ := hb_L_at hP he0
  obtain ⟨q1, hq⟩ := hb_L_at hP he
  exact va_copyM hx hb hml hown (hts _ hlink) (hts _ hnat) (hts _ hstat) (hts _ hini) hK (hb_L_P hP _) (hb_L_D hD _) hS q0 q1 2 2 hq0 hq rfl rfl h1 h2 h3 h4 h5 hel hframes hlocals hdg (fun H1 locs1 h1 _ h3 => kk _ H1 locs1 rfl (hb_set hP hq h1) (hb_setD hD he) h3)
end HB2
section ENV2
variable {l : Launch} {s0 s : State} {D : va_G} {cI cJ cO : ClassId} {e0 mi : Nat} {A : Nat → Prop}
theorem hb_E.zs (hE : hb_E l s0 D cI cJ cO e0 mi) (hG : hb_G s0 s) (hz : hb_Z s0 A) : va_Z "java/util/ArrayList" "DEFAULTCAPACITY_EMPTY_ELEMENTDATA" "[Ljava/lang/Object;" (.ref e0) A s s.heap := (((hE.2.2.2.1).moved hG.1.alike).kept (fun a h _ => hG.2.2 a h)).narrow hz
theorem hb_E.et (hE : hb_E l s0 D cI cJ cO e0 mi) (hG : hb_G s0 s) (hz : hb_Z s0 A) : va_T (.object "java/lang/Object") e0 0 (fun _ => .null) A s s.heap := by
  obtain ⟨cell, h1, h2, h3, h4, h5, h6, h7⟩ := ((hE.2.2.2.2.1).moved hG.1.alike).kept (H1 := s.heap) (fun a h _ => hG.2.2 a h)
  exact ⟨cell, h1, h2, h3, h4, h5, h6, fun q => h7 (hz _ q)⟩
theorem hb_E.e0lt (hE : hb_E l s0 D cI cJ cO e0 mi) : e0 < s0.heap.size := by
  obtain ⟨cell, h1, -⟩ := hE.2.2.2.2.1
  exact (Array.getElem?_eq_some_iff.mp h1).1
theorem hb_E.ao (hE : hb_E l s0 D cI cJ cO e0 mi) (hG : hb_G s0 s) : va_AO "java/lang/Object" s := hE.2.2.2.2.2.1.moved hG.1.alike
theorem hb_E.mo (hE : hb_E l s0 D cI cJ cO e0 mi) (hG : hb_G s0 s) : va_Mi "[Ljava/lang/Object;" mi s := hE.2.2.2.2.2.2.1.moved hG.1.alike
theorem hb_E.dc (hE : hb_E l s0 D cI cJ cO e0 mi) (hG : hb_G s0 s) : va_Dc s := hE.2.2.2.2.2.2.2.1.moved hG.1.alike
theorem hb_E.nw (hE : hb_E l s0 D cI cJ cO e0 mi) : ∀ w ∈ hb_tb2, va_Nw w s0 := hE.2.2.2.2.2.2.2.2.1
/-- an account or a payment is an object -/
theorem hb_any {M : hb_M} {H : Heap} {v ci : Nat} {fs : List Value} (hE : hb_E l s0 D cI cJ cO e0 mi) (hG : hb_G s0 s) (hP : hb_P D hb_cl M H) (he : M v = some (.inr (ci, fs))) (hci : ci = 0 ∨ ci = 1) : va_Any "java/lang/Object" s H v := by
  rcases hci with rfl | rfl
  · exact va_rAny (hE.kn hG) (hP.one he) (q0 := 0) rfl rfl (fun comp c0 => vb_asgC (va_Nw.warmC hG.1 (hE.nw _ (by decide +kernel))) comp c0)
  · exact va_rAny (hE.kn hG) (hP.one he) (q0 := 0) rfl rfl (fun comp c0 => vb_asgC (va_Nw.warmC hG.1 (hE.nw _ (by decide +kernel))) comp c0)
end ENV2
