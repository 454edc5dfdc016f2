/-! MAPS SIDE BY SIDE: the frame rule for contracts; calls from the law; handlers -/
def hb_jn (M F : hb_M) : hb_M := fun q => match M q with
  | some e => some e
  | none => F q
def hb_dj (M F : hb_M) : Prop := ∀ q, M q = none ∨ F q = none
def hb_one (o : Nat) (e : va_E) : hb_M := fun q => if q = o then some e else none
section JN
variable {M F G : hb_M} {q : Nat} {e : va_E}
theorem hb_jn_l (h : M q = some e) : hb_jn M F q = some e := by unfold hb_jn; rw [h]
theorem hb_jn_r (h : M q = none) : hb_jn M F q = F q := by unfold hb_jn; rw [h]
theorem hb_jn_some (h : hb_jn M F q = some e) : M q = some e ∨ (M q = none ∧ F q = some e) := by
  cases hm : M q with
  | some x => rw [hb_jn_l hm] at h; exact Or.inl h
  | none => rw [hb_jn_r hm] at h; exact Or.inr ⟨rfl, h⟩
theorem hb_jn_none : hb_jn M F q = none ↔ M q = none ∧ F q = none := by
  cases hm : M q with
  | some x => rw [hb_jn_l hm]; simp
  | none => rw [hb_jn_r hm]; simp
theorem hb_jn_comm (h : hb_dj M F) : hb_jn M F = hb_jn F M := by
  funext q
  rcases h q with h1 | h1
  · rw [hb_jn_r h1]
    cases hf : F q with
    | some x => rw [hb_jn_l hf]
    | none => rw [hb_jn_r hf, h1]
  · rw [hb_jn_r h1]
    cases hf : M q with
    | some x => rw [hb_jn_l hf]
    | none => rw [hb_jn_r hf, h1]
theorem hb_jn_assoc : hb_jn (hb_jn M F) G = hb_jn M (hb_jn F G) := by
  funext q
  cases hm : M q with
  | some x => rw [hb_jn_l hm, hb_jn_l (hb_jn_l hm)]
  | none =>
    rw [hb_jn_r hm]
    cases hf : F q with
    | some x => rw [hb_jn_l hf, hb_jn_l (by rw [hb_jn_r hm]; exact hf)]
    | none => rw [hb_jn_r hf, hb_jn_r (by rw [hb_jn_r hm]; exact hf)]
theorem hb_dj.symm (h : hb_dj M F) : hb_dj F M := fun q => (h q).symm
theorem hb_dj.jn (h1 : hb_dj M G) (h2 : hb_dj F G) : hb_dj (hb_jn M F) G := fun q => by
  rcases h1 q with a | a
  · rcases h2 q with b | b
    · exact Or.inl (hb_jn_none.mpr ⟨a, b⟩)
    · exact Or.inr b
  · exact Or.inr a
theorem hb_dj.l (h : hb_dj (hb_jn M F) G) : hb_dj M G := fun q => (h q).imp_left (fun a => (hb_jn_none.mp a).1)
theorem hb_dj.r (h : hb_dj (hb_jn M F) G) : hb_dj F G := fun q => (h q).imp_left (fun a => (hb_jn_none.mp a).2)
theorem hb_one_at {o : Nat} : hb_one o e o = some e := if_pos rfl
theorem hb_one_ne {o : Nat} (h : q ≠ o) : hb_one o e q = none := if_neg h
theorem hb_dj_one {o : Nat} : hb_dj M (hb_one o e) ↔ M o = none := by
  constructor
  · intro h
    rcases h o with a | a
    · exact a
    · rw [hb_one_at] at a; cases a
  · intro h q
    by_cases hq : q = o
    · rw [hq]; exact Or.inl h
    · exact Or.inr (hb_one_ne hq)
theorem hb_up_jn {o : Nat} {e' : va_E} (h : M o = none) : hb_up (hb_jn M (hb_one o e)) o e' = hb_jn M (hb_one o e') := by
  funext q
  by_cases hq : q = o
  · rw [hq, hb_up_self, hb_jn_r h, hb_one_at]
  · rw [hb_up_ne hq]
    cases hm : M q with
    | some x => rw [hb_jn_l hm, hb_jn_l hm]
    | none => rw [hb_jn_r hm, hb_jn_r hm, hb_one_ne hq, hb_one_ne hq]
end JN
section FRM
variable {l : Launch} {D : va_G} {cl : List vw_C} {s0 : State} {sz : Nat} {M F M1 : hb_M} {st t : State}
theorem hb_P.jl {H : Heap} (h : hb_P D cl (hb_jn M F) H) : hb_P D cl M H := fun a e ha => h a e (hb_jn_l ha)
theorem hb_D.jl {A : Nat → Prop} (h : hb_D A (hb_jn M F)) : hb_D A M := fun a e ha => h a e (hb_jn_l ha)
theorem hb_frm (hdj : hb_dj M F) (hsz : st.heap.size = sz) (hPF : hb_P D cl (hb_jn M F) st.heap) (h1 : hb_P D cl M1 t.heap) (h2 : hb_D (hb_A M sz) M1) (hF : va_F (hb_A M sz) st t) : hb_P D cl (hb_jn M1 F) t.heap ∧ hb_D (hb_A (hb_jn M F) sz) (hb_jn M1 F) ∧ hb_dj M1 F ∧ va_F (hb_A (hb_jn M F) sz) st t := by
  have hFlt : ∀ q e, F q = some e → M q = none ∧ q < sz := by
    intro q e hq
    have hm : M q = none := by
      rcases hdj q with a | a
      · exact a
      · rw [hq] at a; cases a
    exact ⟨hm, by rw [← hsz]; exact hPF.lt (by rw [hb_jn_r hm]; exact hq)⟩
  have hdj1 : hb_dj M1 F := by
    intro q
    cases hq : M1 q with
    | none => exact Or.inl rfl
    | some x =>
      right
      cases hf : F q with
      | none => rfl
      | some y =>
        obtain ⟨a, b⟩ := hFlt q y hf
        rcases h2 q x hq with c | c
        · exact absurd a c
        · exact absurd b (by omega)
  have hsub : ∀ q, hb_A M sz q → hb_A (hb_jn M F) sz q := by
    intro q hq
    rcases hq with c | c
    · exact Or.inl (fun z => c (hb_jn_none.mp z).1)
    · exact Or.inr c
  refine ⟨?_, ?_, hdj1, hF.1, fun q h3 h4 => hF.2 q h3 (fun z => h4 (hsub q z))⟩
  · intro a e ha
    rcases hb_jn_some ha with c | ⟨-, c⟩
    · exact h1 a e c
    · obtain ⟨x1, x2⟩ := hFlt a e c
      refine (hPF a e (by rw [hb_jn_r x1]; exact c)).kept (hF.2 a (by rw [hsz]; exact x2) (fun z => ?_))
      rcases z with z | z
      · exact z x1
      · omega
  · intro a e ha
    rcases hb_jn_some ha with c | ⟨-, c⟩
    · exact hsub a (h2 a e c)
    · obtain ⟨x1, -⟩ := hFlt a e c
      exact Or.inl (by rw [hb_jn_r x1, c]; simp)
theorem hb_A.sub {q : Nat} (h : hb_A M sz q) : hb_A (hb_jn M F) sz q := by
  rcases h with c | c
  · exact Or.inl (fun z => c (hb_jn_none.mp z).1)
  · exact Or.inr c
theorem hb_frameMet {y : MethodName} {ws : List Cond} {rm : Room} {av : List Value} {post : Option Value → hb_M → Prop} {mc ms : Nat} (h : ∀ sz : Nat, Met l y ws rm (va_Pc av (hb_Pre D cl s0 sz M)) (hb_Post D cl sz M post) mc ms (hb_A M sz)) (hdj : hb_dj M F) :
    ∀ sz : Nat, Met l y ws rm (va_Pc av (hb_Pre D cl s0 sz (hb_jn M F))) (hb_Post D cl sz (hb_jn M F) (fun v M1 => ∃ M2, post v M2 ∧ M1 = hb_jn M2 F ∧ hb_dj M2 F)) mc ms (hb_A (hb_jn M F) sz) := by
  intro sz p e ha hc hk s m args below hf happ hP hK
  obtain ⟨rfl, hsz, hP1, hD1, hG⟩ := hP
  obtain ⟨n, o, h1, h2, h3, ⟨⟨v, M1, a1, a2, a3, a4⟩, a5⟩, L, a6, a7⟩ := h sz p e ha hc hk s m _ below hf happ ⟨rfl, hsz, hP1.jl, hD1.jl, hG⟩ hK
  obtain ⟨b1, b2, b3, b4⟩ := hb_frm hdj hsz hP1 a3 a4 a5
  exact ⟨n, o, h1, h2, h3, ⟨⟨v, _, a1, ⟨M1, a2, rfl, b3⟩, b1, b2⟩, b4⟩, L, a6, fun q hq => (a7 q hq).sub⟩
theorem hb_Met.frame {y : MethodName} {b : ByteArray} {n : Nat} {ret : Option FieldType} {rm : Room} {av : List Value} {post : Option Value → hb_M → Prop} (h : hb_Met l D cl s0 y b n ret rm av M post) (hdj : hb_dj M F) : hb_Met l D cl s0 y b n ret rm av (hb_jn M F) (fun v M1 => ∃ M2, post v M2 ∧ M1 = hb_jn M2 F ∧ hb_dj M2 F) := hb_frameMet h hdj
theorem hb_Thr.frame {y : MethodName} {b : ByteArray} {n : Nat} {ret : Option FieldType} {rm : Room} {av : List Value} {E : String} (h : hb_Thr l D cl s0 y b n ret rm av M E) (hdj : hb_dj M F) : hb_Thr l D cl s0 y b n ret rm av (hb_jn M F) E := by
  intro sz p e ha hc hk s m args below hf happ hP hK
  obtain ⟨rfl, hsz, hP1, hD1, hG⟩ := hP
  obtain ⟨n, o, h1, h2, h3, h4⟩ := h sz p e ha hc hk s m _ below hf happ ⟨rfl, hsz, hP1.jl, hD1.jl, hG⟩ hK
  refine ⟨n, o, h1, h2, h3, ?_⟩
  rcases h4 with ⟨hf, -⟩ | ⟨q, hq, E', ce, L, ⟨x1, x2, x3⟩, c1, c2, c3, c4, c5, c6⟩
  · exact hf.elim
  · obtain ⟨b1, b2, b3, b4⟩ := hb_frm (M1 := M) hdj hsz hP1 x2 (fun a e ha => Or.inl (by rw [ha]; simp)) x3
    exact Or.inr ⟨q, hq, E', ce, L, ⟨x1, b1, b4⟩, c1, c2, c3, c4, c5, fun z hz => (c6 z hz).sub⟩
/-- a contract of a method with handlers -/
def hb_MetW (l : Launch) (D : va_G) (cl : List vw_C) (s0 : State) (y : MethodName) (b : ByteArray) (n : Nat) (ret : Option FieldType) (hh : List (Nat × Nat × Nat × Nat)) (rm : Room) (av : List Value) (M : hb_M) (post : Option Value → hb_M → Prop) : Prop :=
  ∀ sz : Nat, Met l y [.codeWith y b n ret hh] rm (va_Pc av (hb_Pre D cl s0 sz M)) (hb_Post D cl sz M post) rm.cells rm.slots (hb_A M sz)
theorem hb_MetW.frame {y : MethodName} {b : ByteArray} {n : Nat} {ret : Option FieldType} {hh : List (Nat × Nat × Nat × Nat)} {rm : Room} {av : List Value} {post : Option Value → hb_M → Prop} (h : hb_MetW l D cl s0 y b n ret hh rm av M post) (hdj : hb_dj M F) : hb_MetW l D cl s0 y b n ret hh rm av (hb_jn M F) (fun v M1 => ∃ M2, post v M2 ∧ M1 = hb_jn M2 F ∧ hb_dj M2 F) := hb_frameMet h hdj
theorem hb_MetW.mono {y : MethodName} {b : ByteArray} {n : Nat} {ret : Option FieldType} {hh : List (Nat × Nat × Nat × Nat)} {rm : Room} {av : List Value} {post post' : Option Value → hb_M → Prop} (h : hb_MetW l D cl s0 y b n ret hh rm av M post) (hp : ∀ v M1, post v M1 → post' v M1) : hb_MetW l D cl s0 y b n ret hh rm av M post' := by
  intro sz p e ha hc hk s m args below hf happ hP hK
  obtain ⟨n, o, h1, h2, h3, h4, h5⟩ := h sz p e ha hc hk s m args below hf happ hP hK
  obtain ⟨⟨v, M1, a1, a2, a3, a4⟩, a5⟩ := h4
  exact ⟨n, o, h1, h2, h3, ⟨⟨v, M1, a1, hp v M1 a2, a3, a4⟩, a5⟩, h5⟩
/-- what a body with handlers stands on -/
def hb_CxW (p : Program) (s0 s : State) (m : MethodId) (meth : Method) (c : Code) (y : MethodName) (b : ByteArray) (n : Nat) (ret : Option FieldType) (hh : List (Nat × Nat × Nat × Nat)) : Prop :=
  p.tables.exec = Jvm.exec ∧ c.code = b ∧ meth.sig.returnType = ret ∧ c.maxLocals = n ∧ s.vm.findClass y.cls = some m.cls ∧ meth.locks = false ∧ hb_G s0 s ∧ c.exceptionTable.toList = tableOf hh
theorem hb_MetW.of {y : MethodName} {b : ByteArray} {n : Nat} {ret : Option FieldType} {hh : List (Nat × Nat × Nat × Nat)} {rm : Room} {av : List Value} {post : Option Value → hb_M → Prop}
    (hy : plainName y.cls = true) (hlen : (lg_sl av).length ≤ n)
    (body : ∀ (p : Program) (e : Env) (s : State) (m : MethodId) (below : List Frame) (meth : Method) (c : Code) (A : Nat → Prop), hb_A M s.heap.size = A → hb_CxW p s0 s m meth c y b n ret hh → hb_Z s0 A → hb_P D cl M s.heap → hb_D A M → (∀ q, s.heap.size ≤ q → A q) → va_S A s.heap s.heap [] → ∀ ls : Array Slot, lv_has ls n (lv_args 0 av) →
      W p l e rm s m av.toArray below meth c s.heap [] 0 0 (MQ below (hb_Post D cl s.heap.size M post) av.toArray s rm.cells rm.slots A) (F0 m 0 ls [])) : hb_MetW l D cl s0 y b n ret hh rm av M post := by
  intro sz
  refine va_MetW (cc := b) (maxL := n) (ret := ret) (hh := hh) hy rfl ?_
  intro p e s m args below meth c s₁ B hml hv
  obtain ⟨rfl, hsz, hP, hD, hG⟩ := hv
  subst hsz
  have hw : (Cond.codeWith y b n ret hh).before av.toArray s = true := atoms_spec (ws := [.codeWith y b n ret hh]) B.pre _ List.mem_cons_self
  have hl := lv_entry av hlen
  rw [lg_entry_eq]
  exact body p e s m below meth c _ rfl ⟨B.exec, B.bytes, B.returns, hml, findClass_of_methodNamed B.named, B.notSynchronized, hG, vx_table (x := y) B hw⟩ (hb_A.z hD hG.2.1) hP (fun a x ha => Or.inl (by rw [ha]; simp)) (fun q hq => Or.inr hq) va_S.rf _ hl
end FRM
/-- what a call needs of its caller -/
def hb_Cy (p : Program) (s0 s : State) (m : MethodId) (c : Code) (own : String) (bo : ByteArray) (no : Nat) : Prop := p.tables.exec = Jvm.exec ∧ c.code = bo ∧ c.maxLocals = no ∧ s.vm.findClass own = some m.cls ∧ hb_G s0 s
def hb_YW (Ts : List Cond) (y : MethodName) (b : ByteArray) (n : Nat) (ret : Option FieldType) (hh : List (Nat × Nat × Nat × Nat)) (k : Nat) : Prop :=
  Cond.codeWith y b n ret hh ∈ Ts ∧ Cond.initialized y.cls ∈ Ts ∧ (y.cls ≠ "java/lang/invoke/MethodHandle" ∧ y.cls ≠ "java/lang/invoke/VarHandle") ∧ (parseMethodDescriptor y.desc).map (fun d => d.parameters.length) = some k
section LCC
variable {p : Program} {l : Launch} {e : Env} {R : Room} {s0 s : State} {m : MethodId} {args : Array Value} {below : List Frame} {meth : Method} {c : Code} {H : Heap} {locs : List Loc} {cells slots : Nat} {Q : State → Prop}
variable {pc : Nat} {ls : Array Slot} {st0 rest : List Value} {D : va_G} {cl : List vw_C} {A : Nat → Prop} {M1 : hb_M} {post : Option Value → hb_M → Prop} {Ts : List Cond} {tys : List (ClassId × FieldType)}
variable {own : String} {y : MethodName} {bo b : ByteArray} {no n k index : Nat} {ret : Option FieldType} {rm : Room} {As : List Value}
theorem hb_lcb (hts : ∀ w ∈ Ts, w.before args s = true) (hgd : ∀ w ∈ Ts, goodWord w = true) (hY : hb_Y Ts y b n ret k) (hlink : Cond.methodLink own index y ∈ Ts) (hR : rm.frames + 1 ≤ R.frames ∧ 8 + (n + 11) + rm.locals ≤ R.locals) :
    CallB R s args own index y b n ret [.code y b n ret] rm rm.cells rm.slots k := by
  refine ⟨rfl, rfl, hR.1, hR.2, ?_, List.mem_cons_self, hts _ hY.1, hts _ hY.2.1, hY.2.2.1, ?_, hts _ hlink⟩
  · intro w hw a' U hW
    rw [List.mem_singleton] at hw
    subst hw
    exact word_at hW (good_of_word (hgd _ hY.1)) (hts _ hY.1)
  · intro sig hs
    have := hY.2.2.2
    rw [hs] at this
    exact (Option.some.inj this).symm
theorem hb_lcS (hX : hb_Cy p s0 s m c own bo no) (hts : ∀ w ∈ Ts, w.before args s = true) (hgd : ∀ w ∈ Ts, goodWord w = true) (hY : hb_Y Ts y b n ret k) (hM : hb_Met l D cl s0 y b n ret rm As M1 post) (hlink : Cond.methodLink own index y ∈ Ts) (hst : Cond.static y ∈ Ts)
    (hz : hb_Z s0 A) (hP : hb_P D cl M1 H) (hD : hb_D A M1) (hS : va_S A s.heap H locs) (hA : ∀ q, s.heap.size ≤ q → A q) (hn : As.length = k) (hsz : ls.size = no) (hstack : st0 = As.reverse ++ rest) (hW : (rest.map fun v => v.category).sum ≤ 8) (hR : rm.frames + 1 ≤ R.frames ∧ 8 + (n + 11) + rm.locals ≤ R.locals) (hf : cells + rm.cells ≤ R.cells ∧ slots + rm.slots ≤ R.slots) (hdg : decode bo pc = .ok (.invokestatic index, 3))
    (kk : ∀ (v : Option Value) (M2 : hb_M) (H1 : Heap) (locs1 : List Loc), post v M2 → hb_P D cl M2 H1 → hb_D A M2 → va_S A s.heap H1 locs1 → H.size ≤ H1.size → (∀ q, q < H.size → M1 q = none → H1[q]? = H[q]?) → W p l e R s m args below meth c H1 locs1 (cells + rm.cells) (slots + rm.slots) Q (F0 m (pc + 3) ls (v.toList ++ rest))) : W p l e R s m args below meth c H locs cells slots Q (F0 m pc ls st0) := by
  obtain ⟨hx, hb, hml, hown, hG⟩ := hX
  exact hb_back (va_runS (Ts := Ts) (own := own) ⟨hx, hb, hml, hown, hts⟩ (hM H.size) ⟨hb_lcb hts hgd hY hlink hR, hts _ hst⟩ (hb_PreS hG hz hP hD hS) rfl hn hsz hstack (lv_room hW) hdg hf) hD hS hA kk
theorem hb_lcI {a : Nat} (hX : hb_Cy p s0 s m c own bo no) (hts : ∀ w ∈ Ts, w.before args s = true) (hgd : ∀ w ∈ Ts, goodWord w = true) (hY : hb_Y Ts y b n none k) (hM : hb_Met l D cl s0 y b n none rm (.ref a :: As) M1 post) (hlink : Cond.methodLink own index y ∈ Ts) (hin : Cond.instanceMethod y ∈ Ts) (hy1 : y.name = "<init>")
    (hz : hb_Z s0 A) (hP : hb_P D cl M1 H) (hD : hb_D A M1) (hS : va_S A s.heap H locs) (hA : ∀ q, s.heap.size ≤ q → A q) (hn : As.length = k) (hsz : ls.size = no) (hstack : st0 = As.reverse ++ .ref a :: rest) (hW : (rest.map fun v => v.category).sum ≤ 8) (hR : rm.frames + 1 ≤ R.frames ∧ 8 + (n + 11) + rm.locals ≤ R.locals) (hf : cells + rm.cells ≤ R.cells ∧ slots + rm.slots ≤ R.slots) (hdg : decode bo pc = .ok (.invokespecial index, 3))
    (kk : ∀ (v : Option Value) (M2 : hb_M) (H1 : Heap) (locs1 : List Loc), post v M2 → hb_P D cl M2 H1 → hb_D A M2 → va_S A s.heap H1 locs1 → H.size ≤ H1.size → (∀ q, q < H.size → M1 q = none → H1[q]? = H[q]?) → W p l e R s m args below meth c H1 locs1 (cells + rm.cells) (slots + rm.slots) Q (F0 m (pc + 3) ls (v.toList ++ rest))) : W p l e R s m args below meth c H locs cells slots Q (F0 m pc ls st0) := by
  obtain ⟨hx, hb, hml, hown, hG⟩ := hX
  exact hb_back (va_runI (Ts := Ts) (own := own) ⟨hx, hb, hml, hown, hts⟩ (hM H.size) ⟨hb_lcb hts hgd hY hlink hR, hy1, hts _ hin⟩ (hb_PreS hG hz hP hD hS) rfl hn hsz hstack (lv_room hW) hdg hf) hD hS hA kk
theorem hb_lcV {a ci N : Nat} {C : String} {Tt : u_T} {fs : List Value} (hX : hb_Cy p s0 s m c own bo no) (hts : ∀ w ∈ Ts, w.before args s = true) (hgd : ∀ w ∈ Ts, goodWord w = true) (hY : hb_Y Ts y b n ret k) (hM : hb_Met l D cl s0 y b n ret rm (.ref a :: As) M1 post) (hlink : Cond.methodLink own index y ∈ Ts) (hin : Cond.instanceMethod y ∈ Ts) (hsel : Cond.selects C y y ∈ Ts) (hK : va_K D cl tys s) (he : M1 a = some (.inr (ci, fs))) (hc : cl[ci]? = some (C, Tt, N))
    (hz : hb_Z s0 A) (hP : hb_P D cl M1 H) (hD : hb_D A M1) (hS : va_S A s.heap H locs) (hA : ∀ q, s.heap.size ≤ q → A q) (hn : As.length = k) (hsz : ls.size = no) (hstack : st0 = As.reverse ++ .ref a :: rest) (hW : (rest.map fun v => v.category).sum ≤ 8) (hR : rm.frames + 1 ≤ R.frames ∧ 8 + (n + 11) + rm.locals ≤ R.locals) (hf : cells + rm.cells ≤ R.cells ∧ slots + rm.slots ≤ R.slots) (hdg : decode bo pc = .ok (.invokevirtual index, 3))
    (kk : ∀ (v : Option Value) (M2 : hb_M) (H1 : Heap) (locs1 : List Loc), post v M2 → hb_P D cl M2 H1 → hb_D A M2 → va_S A s.heap H1 locs1 → H.size ≤ H1.size → (∀ q, q < H.size → M1 q = none → H1[q]? = H[q]?) → W p l e R s m args below meth c H1 locs1 (cells + rm.cells) (slots + rm.slots) Q (F0 m (pc + 3) ls (v.toList ++ rest))) : W p l e R s m args below meth c H locs cells slots Q (F0 m pc ls st0) := by
  obtain ⟨hx, hb, hml, hown, hG⟩ := hX
  have hp := hb_PreS (As := .ref a :: As) hG hz hP hD hS
  exact hb_back (va_runV (Ts := Ts) (own := own) (C := C) ⟨hx, hb, hml, hown, hts⟩ (hM H.size) ⟨hb_lcb hts hgd hY hlink hR, hts _ hin, hts _ hsel⟩ ⟨hp.1, va_recv hK (hP.one he) hc (q0 := 0) rfl, hp.2⟩ rfl hn hsz hstack (lv_room hW) hdg hf) hD hS hA kk
/-- a static call of a method with handlers -/
theorem hb_lcSW {hh : List (Nat × Nat × Nat × Nat)} (hX : hb_Cy p s0 s m c own bo no) (hts : ∀ w ∈ Ts, w.before args s = true) (hgd : ∀ w ∈ Ts, goodWord w = true) (hY : hb_YW Ts y b n ret hh k) (hM : hb_MetW l D cl s0 y b n ret hh rm As M1 post) (hlink : Cond.methodLink own index y ∈ Ts) (hst : Cond.static y ∈ Ts)
    (hz : hb_Z s0 A) (hP : hb_P D cl M1 H) (hD : hb_D A M1) (hS : va_S A s.heap H locs) (hA : ∀ q, s.heap.size ≤ q → A q) (hn : As.length = k) (hsz : ls.size = no) (hstack : st0 = As.reverse ++ rest) (hW : (rest.map fun v => v.category).sum ≤ 8) (hR : rm.frames + 1 ≤ R.frames ∧ 8 + (n + 11) + rm.locals ≤ R.locals) (hf : cells + rm.cells ≤ R.cells ∧ slots + rm.slots ≤ R.slots) (hdg : decode bo pc = .ok (.invokestatic index, 3))
    (kk : ∀ (v : Option Value) (M2 : hb_M) (H1 : Heap) (locs1 : List Loc), post v M2 → hb_P D cl M2 H1 → hb_D A M2 → va_S A s.heap H1 locs1 → H.size ≤ H1.size → (∀ q, q < H.size → M1 q = none → H1[q]? = H[q]?) → W p l e R s m args below meth c H1 locs1 (cells + rm.cells) (slots + rm.slots) Q (F0 m (pc + 3) ls (v.toList ++ rest))) : W p l e R s m args below meth c H locs cells slots Q (F0 m pc ls st0) := by
  obtain ⟨hx, hb, hml, hown, hG⟩ := hX
  have cw : vx_CSW R s args own index y b n ret hh [.codeWith y b n ret hh] rm rm.cells rm.slots k := by
    refine ⟨⟨rfl, rfl, hR.1, hR.2, ?_, List.mem_cons_self⟩, hts _ hY.1, hts _ hY.2.1, hY.2.2.1, ?_, hts _ hlink, hts _ hst⟩
    · intro w hw a' U hW
      rw [List.mem_singleton] at hw
      subst hw
      exact word_at hW (good_of_word (hgd _ hY.1)) (hts _ hY.1)
    · intro sig hs
      have := hY.2.2.2
      rw [hs] at this
      exact (Option.some.inj this).symm
  exact hb_back (vx_runSW (Ts := Ts) (own := own) ⟨hx, hb, hml, hown, hts⟩ (hM H.size) cw (hb_PreS hG hz hP hD hS) rfl hn hsz hstack (lv_room hW) hdg hf) hD hS hA kk
/-- a virtual call that throws, caught by a row of this method's table -/
theorem hb_catV {a ci N : Nat} {C E name : String} {Tt : u_T} {fs : List Value} (hX : hb_Cy p s0 s m c own bo no) (hts : ∀ w ∈ Ts, w.before args s = true) (hgd : ∀ w ∈ Ts, goodWord w = true) (hY : hb_Y Ts y b n ret k) (hM : hb_Thr l D cl s0 y b n ret rm (.ref a :: As) M1 E) (hlink : Cond.methodLink own index y ∈ Ts) (hin : Cond.instanceMethod y ∈ Ts) (hsel : Cond.selects C y y ∈ Ts) (hK : va_K D cl tys s) (he : M1 a = some (.inr (ci, fs))) (hc : cl[ci]? = some (C, Tt, N))
    (hz : hb_Z s0 A) (hP : hb_P D cl M1 H) (hD : hb_D A M1) (hS : va_S A s.heap H locs) (hA : ∀ q, s.heap.size ≤ q → A q) (hn : As.length = k) (hsz : ls.size = no) (hstack : st0 = As.reverse ++ .ref a :: rest) (hW : (rest.map fun v => v.category).sum ≤ 8) (hR : rm.frames + 1 ≤ R.frames ∧ 8 + (n + 11) + rm.locals ≤ R.locals) (hf : cells + rm.cells ≤ R.cells ∧ slots + rm.slots ≤ R.slots) (hdg : decode bo pc = .ok (.invokevirtual index, 3))
    (pre : List ExceptionTableEntry) (x : ExceptionTableEntry) (suf : List ExceptionTableEntry) (hsplit : c.exceptionTable.toList = pre ++ x :: suf)
    (hpass : ∀ z ∈ pre, covers z pc = false ∨ (z.catchType ≠ 0 ∧ ∃ nm : String, (Cond.classLink own z.catchType nm).before args s = true ∧ va_Nc E nm s)) (hcov : covers x pc = true) (h0 : x.catchType ≠ 0)
    (hcl2 : (Cond.classLink own x.catchType name).before args s = true) (hcast : (Cond.castable E name).before args s = true)
    (kk : ∀ (q : Nat) (H1 : Heap) (locs1 : List Loc), hb_P D cl M1 H1 → va_S A s.heap H1 locs1 → W p l e R s m args below meth c H1 locs1 (cells + rm.cells) (slots + rm.slots) Q (F0 m x.handlerPc ls [.ref q])) : W p l e R s m args below meth c H locs cells slots Q (F0 m pc ls st0) := by
  obtain ⟨hx, hb, hml, hown, hG⟩ := hX
  have hp := hb_PreS (As := .ref a :: As) hG hz hP hD hS
  have hr := vx_runV (l := l) (e := e) (below := below) (meth := meth) (locs := locs) (cells := cells) (slots := slots) (g := F0 m pc ls st0) (rest := rest) (Ts := Ts) (own := own) (C := C) ⟨hx, hb, hml, hown, hts⟩ (hM H.size) ⟨hb_lcb hts hgd hY hlink hR, hts _ hin, hts _ hsel⟩ ⟨hp.1, va_recv hK (hP.one he) hc (q0 := 0) rfl, hp.2⟩ rfl hn hsz hstack (lv_room hW) hdg hf
  have hsub : ∀ q, hb_A M1 H.size q → A q := by
    intro q hq
    rcases hq with hq | hq
    · cases hx : M1 q with
      | none => exact absurd hx hq
      | some x => exact hD q x hx
    · exact hA q (Nat.le_trans hS.1 hq)
  intro T hT X
  rcases hr T hT X with ⟨v, st₀, t, T', L, h0, X', hL, e1, e2, hf, st⟩ | ⟨q, st₀, t, T', L, E', ce, h0', X', hL, e1, e2, hxc, hce, hcv, hcl, st⟩
  · exact hf.elim
  · obtain ⟨rfl, hP1, hF⟩ := hxc
    obtain ⟨k1, k2, k3⟩ := vx_keep h0' e1 hS (fun q _ h => hsub q h) hsub hL hF
    have out := vx_catch (p := p) (l := l) (e := e) (R := R) (s := s) (m := m) (args := args) (below := below) (meth := meth) (c := c) (H := T'.heap) (locs := locs ++ L) (cells := cells + rm.cells) (slots := slots + rm.slots) (Q := Q) (pc := pc) (ls := ls) (rest := rest) hown pre x suf hsplit hpass hcov h0 hcl2 hcast (by rw [e1]; exact hce) hcv hcl (kk q T'.heap (locs ++ L) (by rw [e1]; exact hP1) k3)
    obtain ⟨t2, a1, b1⟩ := out T' rfl X'
    exact ⟨t2, st.trans a1, b1⟩
end LCC
