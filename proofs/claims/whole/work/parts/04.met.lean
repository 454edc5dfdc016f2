/-! CONTRACTS OVER MAPS OF CELLS. s0: the law's first state; every cell that it had stays; the tables only grow warmer. -/
def hb_G (s0 U : State) : Prop := s0.WarmedH U.vm ∧ s0.heap.size ≤ U.heap.size ∧ ∀ q, q < s0.heap.size → U.heap[q]? = s0.heap[q]?
def hb_Z (s0 : State) (A : Nat → Prop) : Prop := ∀ q, A q → s0.heap.size ≤ q
def hb_Pre (D : va_G) (cl : List vw_C) (s0 : State) (sz : Nat) (M : hb_M) (U : State) : Prop := U.heap.size = sz ∧ hb_P D cl M U.heap ∧ hb_D (fun q => s0.heap.size ≤ q) M ∧ hb_G s0 U
def hb_Post (D : va_G) (cl : List vw_C) (sz : Nat) (M : hb_M) (post : Option Value → hb_M → Prop) : Array Value → State → Outcome → State → Prop := fun _ st oc t => (∃ (v : Option Value) (M1 : hb_M), oc = .returned v ∧ post v M1 ∧ hb_P D cl M1 t.heap ∧ hb_D (hb_A M sz) M1) ∧ va_F (hb_A M sz) st t
def hb_Met (l : Launch) (D : va_G) (cl : List vw_C) (s0 : State) (y : MethodName) (b : ByteArray) (n : Nat) (ret : Option FieldType) (rm : Room) (av : List Value) (M : hb_M) (post : Option Value → hb_M → Prop) : Prop :=
  ∀ sz : Nat, Met l y [.code y b n ret] rm (va_Pc av (hb_Pre D cl s0 sz M)) (hb_Post D cl sz M post) rm.cells rm.slots (hb_A M sz)
theorem hb_G.moved {s0 s U : State} {H : Heap} {locs : List Loc} {A : Nat → Prop} (h : hb_G s0 s) (hS : va_S A s.heap H locs) (hz : hb_Z s0 A) (hU : U.heap = H) (hW : s.WarmedH U.vm) : hb_G s0 U := by
  obtain ⟨h1, h2, h3⟩ := h
  refine ⟨State.WarmedH.trans h1 hW, by rw [hU]; exact Nat.le_trans h2 hS.1, fun q hq => ?_⟩
  rw [hU, hS.2.1 q (Nat.lt_of_lt_of_le hq h2) (fun ha => Nat.lt_irrefl _ (Nat.lt_of_lt_of_le hq (hz q ha)))]
  exact h3 q hq
theorem hb_A.z {s0 : State} {M : hb_M} {sz : Nat} (h : hb_D (fun q => s0.heap.size ≤ q) M) (hs : s0.heap.size ≤ sz) : hb_Z s0 (hb_A M sz) := by
  intro q hq
  rcases hq with hq | hq
  · cases hx : M q with
    | none => exact absurd hx hq
    | some x => exact h q x hx
  · exact Nat.le_trans hs hq
theorem hb_Pre.blind {D : va_G} {cl : List vw_C} {s0 : State} {sz : Nat} {M : hb_M} {av : List Value} : FrameBlind (va_Pc av (hb_Pre D cl s0 sz M)) := fun _ _ _ _ h => ⟨h.1, h.2.1, h.2.2.1, h.2.2.2.1, h.2.2.2.2.1, h.2.2.2.2.2.1, h.2.2.2.2.2.2⟩
/-- what a body stands on -/
def hb_Cx (p : Program) (s0 s : State) (m : MethodId) (meth : Method) (c : Code) (y : MethodName) (b : ByteArray) (n : Nat) (ret : Option FieldType) : Prop :=
  p.tables.exec = Jvm.exec ∧ c.code = b ∧ meth.sig.returnType = ret ∧ c.maxLocals = n ∧ s.vm.findClass y.cls = some m.cls ∧ meth.locks = false ∧ meth.name = y.name ∧ hb_G s0 s ∧ c.exceptionTable.isEmpty = true
theorem hb_Met.of {l : Launch} {D : va_G} {cl : List vw_C} {s0 : State} {y : MethodName} {b : ByteArray} {n : Nat} {ret : Option FieldType} {rm : Room} {av : List Value} {M : hb_M} {post : Option Value → hb_M → Prop}
    (hy : plainName y.cls = true) (hlen : (lg_sl av).length ≤ n)
    (body : ∀ (p : Program) (e : Env) (s : State) (m : MethodId) (below : List Frame) (meth : Method) (c : Code) (A : Nat → Prop), hb_A M s.heap.size = A → hb_Cx p s0 s m meth c y b n ret → hb_Z s0 A → hb_P D cl M s.heap → hb_D A M → (∀ q, s.heap.size ≤ q → A q) → va_S A s.heap s.heap [] → ∀ ls : Array Slot, lv_has ls n (lv_args 0 av) →
      W p l e rm s m av.toArray below meth c s.heap [] 0 0 (MQ below (hb_Post D cl s.heap.size M post) av.toArray s rm.cells rm.slots A) (F0 m 0 ls [])) : hb_Met l D cl s0 y b n ret rm av M post := by
  intro sz
  refine Met.ofW (cc := b) (maxL := n) (ret := ret) hy rfl ?_
  intro p e s m args below meth c s₁ B hml hv
  obtain ⟨rfl, hsz, hP, hD, hG⟩ := hv
  subst hsz
  have hw : (Cond.code y b n ret).before av.toArray s = true := atoms_spec (ws := [.code y b n ret]) B.pre _ List.mem_cons_self
  have hl := lv_entry av hlen
  rw [lg_entry_eq]
  exact body p e s m below meth c _ rfl ⟨B.exec, B.bytes, B.returns, hml, findClass_of_methodNamed B.named, B.notSynchronized, (name_of_methodNamed B.named B.method).1, hG, B.noHandlers hw⟩ (hb_A.z hD hG.2.1) hP (fun a x ha => Or.inl (by rw [ha]; simp)) (fun q hq => Or.inr hq) va_S.rf _ hl
section HBR
variable {p : Program} {l : Launch} {e : Env} {R : Room} {s0 s : State} {m : MethodId} {args : Array Value} {below : List Frame} {meth : Method} {c : Code} {H : Heap} {locs : List Loc} {cells slots : Nat} {Q : State → Prop}
variable {cc : ByteArray} {pc : Nat} {ls : Array Slot} {rest : List Value} {D : va_G} {cl : List vw_C} {A : Nat → Prop} {M M1 : hb_M} {post : Option Value → hb_M → Prop} {mc ms : Nat}
theorem hb_lret {v : Int64} (hA : hb_A M s.heap.size = A) (hx : p.tables.exec = Jvm.exec) (hb : c.code = cc) (hr : meth.sig.returnType = some .long) (hlocks : meth.locks = false) (hP : hb_P D cl M1 H) (hD : hb_D A M1) (hS : va_S A s.heap H locs) (hc : cells ≤ mc) (hs : slots ≤ ms) (hq : post (some (.long v)) M1) (hdg : decode cc pc = .ok (.lreturn, 1)) :
    W p l e R s m args below meth c H locs cells slots (MQ below (hb_Post D cl s.heap.size M post) args s mc ms A) (F0 m pc ls [.long v]) := by
  subst hA
  exact W.widen hc hs (W.lret hx hb hr (fun t ht _ => ⟨⟨_, M1, rfl, hq, by rw [ht]; exact hP, hD⟩, hS.F ht⟩) hS.2.2 hdg hlocks)
theorem hb_iret {v : Int32} (hA : hb_A M s.heap.size = A) (hx : p.tables.exec = Jvm.exec) (hb : c.code = cc) (hr : meth.sig.returnType = some .int) (hlocks : meth.locks = false) (hP : hb_P D cl M1 H) (hD : hb_D A M1) (hS : va_S A s.heap H locs) (hc : cells ≤ mc) (hs : slots ≤ ms) (hq : post (some (.int v)) M1) (hdg : decode cc pc = .ok (.ireturn, 1)) :
    W p l e R s m args below meth c H locs cells slots (MQ below (hb_Post D cl s.heap.size M post) args s mc ms A) (F0 m pc ls [.int v]) := by
  subst hA
  exact W.widen hc hs (W.iret hx hb hr (fun t ht _ => ⟨⟨_, M1, rfl, hq, by rw [ht]; exact hP, hD⟩, hS.F ht⟩) hS.2.2 hdg hlocks)
theorem hb_zret {v : Int32} (hA : hb_A M s.heap.size = A) (hx : p.tables.exec = Jvm.exec) (hb : c.code = cc) (hr : meth.sig.returnType = some .boolean) (hn : narrow .boolean (.int v) = .int v) (hlocks : meth.locks = false) (hP : hb_P D cl M1 H) (hD : hb_D A M1) (hS : va_S A s.heap H locs) (hc : cells ≤ mc) (hs : slots ≤ ms) (hq : post (some (.int v)) M1) (hdg : decode cc pc = .ok (.ireturn, 1)) :
    W p l e R s m args below meth c H locs cells slots (MQ below (hb_Post D cl s.heap.size M post) args s mc ms A) (F0 m pc ls [.int v]) := by
  subst hA
  exact W.widen hc hs (W.zret hx hb hr hn (fun t ht _ => ⟨⟨_, M1, rfl, hq, by rw [ht]; exact hP, hD⟩, hS.F ht⟩) hS.2.2 hdg hlocks)
theorem hb_vret (hA : hb_A M s.heap.size = A) (hx : p.tables.exec = Jvm.exec) (hb : c.code = cc) (hr : meth.sig.returnType = none) (hlocks : meth.locks = false) (hP : hb_P D cl M1 H) (hD : hb_D A M1) (hS : va_S A s.heap H locs) (hc : cells ≤ mc) (hs : slots ≤ ms) (hq : post none M1) (hdg : decode cc pc = .ok (.return_, 1)) :
    W p l e R s m args below meth c H locs cells slots (MQ below (hb_Post D cl s.heap.size M post) args s mc ms A) (F0 m pc ls []) := by
  subst hA
  exact W.widen hc hs (W.vret hx hb hr (fun t ht _ => ⟨⟨_, M1, rfl, hq, by rw [ht]; exact hP, hD⟩, hS.F ht⟩) hS.2.2 hdg hlocks)
theorem hb_aret {v : Value} {rt : FieldType} (hA : hb_A M s.heap.size = A) (hx : p.tables.exec = Jvm.exec) (hb : c.code = cc) (hr : meth.sig.returnType = some rt) (hrt : (∃ n, rt = .object n) ∨ ∃ t, rt = .array t) (hv : v = .null ∨ ∃ a, v = .ref a) (hlocks : meth.locks = false) (hP : hb_P D cl M1 H) (hD : hb_D A M1) (hS : va_S A s.heap H locs) (hc : cells ≤ mc) (hs : slots ≤ ms) (hq : post (some v) M1) (hdg : decode cc pc = .ok (.areturn, 1)) :
    W p l e R s m args below meth c H locs cells slots (MQ below (hb_Post D cl s.heap.size M post) args s mc ms A) (F0 m pc ls [v]) := by
  subst hA
  exact W.widen hc hs (W.aret hx hb hr hrt hv (fun t ht _ => ⟨⟨_, M1, rfl, hq, by rw [ht]; exact hP, hD⟩, hS.F ht⟩) hS.2.2 hdg hlocks)
/-- behind a call -/
theorem hb_back {st0 : List Value} {a : Array Value} (hr : va_Run p l e R s m args below meth c H locs cells slots mc ms (F0 m pc ls st0) rest (hb_Post D cl H.size M1 post a) (hb_A M1 H.size)) (hD : hb_D A M1) (hS : va_S A s.heap H locs) (hA : ∀ q, s.heap.size ≤ q → A q)
    (kk : ∀ (v : Option Value) (M2 : hb_M) (H1 : Heap) (locs1 : List Loc), post v M2 → hb_P D cl M2 H1 → hb_D A M2 → va_S A s.heap H1 locs1 → H.size ≤ H1.size → (∀ q, q < H.size → M1 q = none → H1[q]? = H[q]?) → W p l e R s m args below meth c H1 locs1 (cells + mc) (slots + ms) Q (F0 m (pc + 3) ls (v.toList ++ rest))) : W p l e R s m args below meth c H locs cells slots Q (F0 m pc ls st0) := by
  have hsub : ∀ q, hb_A M1 H.size q → A q := by
    intro q hq
    rcases hq with hq | hq
    · cases hx : M1 q with
      | none => exact absurd hx hq
      | some x => exact hD q x hx
    · exact hA q (Nat.le_trans hS.1 hq)
  intro T hT X
  obtain ⟨v, st₀, t, T', L, h0, X', hL, e1, e2, ⟨⟨v', M2, hv, hp, hP2, hD2⟩, hz, hk⟩, st⟩ := hr T hT X
  cases hv
  rw [h0] at hz hk
  have hk' : ∀ q, q < H.size → ¬ hb_A M1 H.size q → T'.heap[q]? = H[q]? := fun q h1 h2 => by rw [e1]; exact hk q h1 h2
  obtain ⟨t2, a1, b1⟩ := kk v M2 T'.heap (locs ++ L) hp (by rw [e1]; exact hP2) (fun q x hq => hsub q (hD2 q x hq))
    ⟨Nat.le_trans hS.1 (by rw [e1]; exact hz), fun q h1 h2 => by rw [hk' q (Nat.lt_of_lt_of_le h1 hS.1) (fun z => h2 (hsub q z))]; exact hS.2.1 q h1 h2, fun q hq => by
      rcases List.mem_append.mp hq with h | h
      · exact hS.2.2 q h
      · exact hsub _ (hL q h)⟩ (by rw [e1]; exact hz) (fun q h1 h2 => hk' q h1 (fun z => by
      rcases z with z | z
      · exact z h2
      · omega)) T' rfl X'
  exact ⟨t2, st t2 a1, b1⟩
end HBR
/-- what a program decides of a method -/
def hb_Y (Ts : List Cond) (y : MethodName) (b : ByteArray) (n : Nat) (ret : Option FieldType) (k : Nat) : Prop :=
  Cond.code y b n ret ∈ Ts ∧ Cond.initialized y.cls ∈ Ts ∧ (y.cls ≠ "java/lang/invoke/MethodHandle" ∧ y.cls ≠ "java/lang/invoke/VarHandle") ∧ (parseMethodDescriptor y.desc).map (fun d => d.parameters.length) = some k
section HBC
variable {p : Program} {l : Launch} {e : Env} {R : Room} {s0 s : State} {m : MethodId} {args : Array Value} {below : List Frame} {meth : Method} {c : Code} {H : Heap} {locs : List Loc} {cells slots : Nat} {Q : State → Prop}
variable {pc : Nat} {ls : Array Slot} {st0 rest : List Value} {D : va_G} {cl : List vw_C} {A : Nat → Prop} {M1 : hb_M} {post : Option Value → hb_M → Prop} {Ts : List Cond} {tys : List (ClassId × FieldType)}
variable {yo y : MethodName} {bo b : ByteArray} {no n k index : Nat} {ro ret : Option FieldType} {rm : Room} {As : List Value}
theorem hb_cb (hts : ∀ w ∈ Ts, w.before args s = true) (hgd : ∀ w ∈ Ts, goodWord w = true) (hY : hb_Y Ts y b n ret k) (hlink : Cond.methodLink yo.cls index y ∈ Ts) (hR : rm.frames + 1 ≤ R.frames ∧ 8 + (n + 11) + rm.locals ≤ R.locals) :
    CallB R s args yo.cls index y b n ret [.code y b n ret] rm rm.cells rm.slots k := by
  refine ⟨rfl, rfl, hR.1, hR.2, ?_, List.mem_cons_self, hts _ hY.1, hts _ hY.2.1, hY.2.2.1, ?_, hts _ hlink⟩
  · intro w hw a' U hW
    rw [List.mem_singleton] at hw
    subst hw
    exact word_at hW (good_of_word (hgd _ hY.1)) (hts _ hY.1)
  · intro sig hs
    have := hY.2.2.2
    rw [hs] at this
    exact (Option.some.inj this).symm
theorem hb_PreS (hG : hb_G s0 s) (hz : hb_Z s0 A) (hP : hb_P D cl M1 H) (hD : hb_D A M1) (hS : va_S A s.heap H locs) : PreS s H (va_Pc As (hb_Pre D cl s0 H.size M1)) As :=
  ⟨hb_Pre.blind, fun U hU hW => ⟨rfl, by rw [hU], by rw [hU]; exact hP, fun q x hq => hz q (hD q x hq), hG.moved hS hz hU hW⟩⟩
theorem hb_callS (hX : hb_Cx p s0 s m meth c yo bo no ro) (hts : ∀ w ∈ Ts, w.before args s = true) (hgd : ∀ w ∈ Ts, goodWord w = true) (hY : hb_Y Ts y b n ret k) (hM : hb_Met l D cl s0 y b n ret rm As M1 post) (hlink : Cond.methodLink yo.cls index y ∈ Ts) (hst : Cond.static y ∈ Ts)
    (hz : hb_Z s0 A) (hP : hb_P D cl M1 H) (hD : hb_D A M1) (hS : va_S A s.heap H locs) (hA : ∀ q, s.heap.size ≤ q → A q) (hn : As.length = k) (hsz : ls.size = no) (hstack : st0 = As.reverse ++ rest) (hW : (rest.map fun v => v.category).sum ≤ 8) (hR : rm.frames + 1 ≤ R.frames ∧ 8 + (n + 11) + rm.locals ≤ R.locals) (hf : cells + rm.cells ≤ R.cells ∧ slots + rm.slots ≤ R.slots) (hdg : decode bo pc = .ok (.invokestatic index, 3))
    (kk : ∀ (v : Option Value) (M2 : hb_M) (H1 : Heap) (locs1 : List Loc), post v M2 → hb_P D cl M2 H1 → hb_D A M2 → va_S A s.heap H1 locs1 → H.size ≤ H1.size → (∀ q, q < H.size → M1 q = none → H1[q]? = H[q]?) → W p l e R s m args below meth c H1 locs1 (cells + rm.cells) (slots + rm.slots) Q (F0 m (pc + 3) ls (v.toList ++ rest))) : W p l e R s m args below meth c H locs cells slots Q (F0 m pc ls st0) := by
  obtain ⟨hx, hb, -, hml, hown, -, -, hG, -⟩ := hX
  exact hb_back (va_runS (Ts := Ts) (own := yo.cls) ⟨hx, hb, hml, hown, hts⟩ (hM H.size) ⟨hb_cb hts hgd hY hlink hR, hts _ hst⟩ (hb_PreS hG hz hP hD hS) rfl hn hsz hstack (lv_room hW) hdg hf) hD hS hA kk
theorem hb_callI {a : Nat} (hX : hb_Cx p s0 s m meth c yo bo no ro) (hts : ∀ w ∈ Ts, w.before args s = true) (hgd : ∀ w ∈ Ts, goodWord w = true) (hY : hb_Y Ts y b n none k) (hM : hb_Met l D cl s0 y b n none rm (.ref a :: As) M1 post) (hlink : Cond.methodLink yo.cls index y ∈ Ts) (hin : Cond.instanceMethod y ∈ Ts) (hy1 : y.name = "<init>")
    (hz : hb_Z s0 A) (hP : hb_P D cl M1 H) (hD : hb_D A M1) (hS : va_S A s.heap H locs) (hA : ∀ q, s.heap.size ≤ q → A q) (hn : As.length = k) (hsz : ls.size = no) (hstack : st0 = As.reverse ++ .ref a :: rest) (hW : (rest.map fun v => v.category).sum ≤ 8) (hR : rm.frames + 1 ≤ R.frames ∧ 8 + (n + 11) + rm.locals ≤ R.locals) (hf : cells + rm.cells ≤ R.cells ∧ slots + rm.slots ≤ R.slots) (hdg : decode bo pc = .ok (.invokespecial index, 3))
    (kk : ∀ (v : Option Value) (M2 : hb_M) (H1 : Heap) (locs1 : List Loc), post v M2 → hb_P D cl M2 H1 → hb_D A M2 → va_S A s.heap H1 locs1 → H.size ≤ H1.size → (∀ q, q < H.size → M1 q = none → H1[q]? = H[q]?) → W p l e R s m args below meth c H1 locs1 (cells + rm.cells) (slots + rm.slots) Q (F0 m (pc + 3) ls (v.toList ++ rest))) : W p l e R s m args below meth c H locs cells slots Q (F0 m pc ls st0) := by
  obtain ⟨hx, hb, -, hml, hown, -, -, hG, -⟩ := hX
  exact hb_back (va_runI (Ts := Ts) (own := yo.cls) ⟨hx, hb, hml, hown, hts⟩ (hM H.size) ⟨hb_cb hts hgd hY hlink hR, hy1, hts _ hin⟩ (hb_PreS hG hz hP hD hS) rfl hn hsz hstack (lv_room hW) hdg hf) hD hS hA kk
theorem hb_callV {a ci N : Nat} {C : String} {Tt : u_T} {fs : List Value} (hX : hb_Cx p s0 s m meth c yo bo no ro) (hts : ∀ w ∈ Ts, w.before args s = true) (hgd : ∀ w ∈ Ts, goodWord w = true) (hY : hb_Y Ts y b n ret k) (hM : hb_Met l D cl s0 y b n ret rm (.ref a :: As) M1 post) (hlink : Cond.methodLink yo.cls index y ∈ Ts) (hin : Cond.instanceMethod y ∈ Ts) (hsel : Cond.selects C y y ∈ Ts) (hK : va_K D cl tys s) (he : M1 a = some (.inr (ci, fs))) (hc : cl[ci]? = some (C, Tt, N))
    (hz : hb_Z s0 A) (hP : hb_P D cl M1 H) (hD : hb_D A M1) (hS : va_S A s.heap H locs) (hA : ∀ q, s.heap.size ≤ q → A q) (hn : As.length = k) (hsz : ls.size = no) (hstack : st0 = As.reverse ++ .ref a :: rest) (hW : (rest.map fun v => v.category).sum ≤ 8) (hR : rm.frames + 1 ≤ R.frames ∧ 8 + (n + 11) + rm.locals ≤ R.locals) (hf : cells + rm.cells ≤ R.cells ∧ slots + rm.slots ≤ R.slots) (hdg : decode bo pc = .ok (.invokevirtual index, 3))
    (kk : ∀ (v : Option Value) (M2 : hb_M) (H1 : Heap) (locs1 : List Loc), post v M2 → hb_P D cl M2 H1 → hb_D A M2 → va_S A s.heap H1 locs1 → H.size ≤ H1.size → (∀ q, q < H.size → M1 q = none → H1[q]? = H[q]?) → W p l e R s m args below meth c H1 locs1 (cells + rm.cells) (slots + rm.slots) Q (F0 m (pc + 3) ls (v.toList ++ rest))) : W p l e R s m args below meth c H locs cells slots Q (F0 m pc ls st0) := by
  obtain ⟨hx, hb, -, hml, hown, -, -, hG, -⟩ := hX
  have hp := hb_PreS (As := .ref a :: As) hG hz hP hD hS
  exact hb_back (va_runV (Ts := Ts) (own := yo.cls) (C := C) ⟨hx, hb, hml, hown, hts⟩ (hM H.size) ⟨hb_cb hts hgd hY hlink hR, hts _ hin, hts _ hsel⟩ ⟨hp.1, va_recv hK (hP.one he) hc (q0 := 0) rfl, hp.2⟩ rfl hn hsz hstack (lv_room hW) hdg hf) hD hS hA kk
end HBC
