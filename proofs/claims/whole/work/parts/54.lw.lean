/-! THE CLAIM OUT OF ONE WALK OF THE LAW'S BODY. Your part is whole_start (and what it stands on); all else here is the same for every law, but numbers. -/
def R_law : String := "HoldBookLaw"
def lw_P (b : Addr) (xs : List Int32) (args : Array Value) (s : State) : Prop := args = #[.ref b] ∧ s.IntsAt b xs ∧ xs.length ≤ 3074 ∧ (Jvm.Cond.and given_1 narrow_1).before args s = true
def lw_Q (_ : Array Value) (s : State) (o : Outcome) (t : State) : Prop := o = .returned (some (.int 1)) ∧ Framed s o t [] 601024 7293000
def lw_Z (below : List Frame) (a : Array Value) (s : State) : State → Prop := fun t => ∃ o, t.status = .running ∧ Ended t below o ∧ lw_Q a s o t
/-- the law's own end, with 1 on the stack, nothing written that was there before, its room as the claim has it -/
theorem lw_ret {p : Program} {l : Launch} {e : Env} {s : State} {m : MethodId} {below : List Frame} {meth : Method} {c : Code} {b : Nat} (hx : p.tables.exec = Jvm.exec) (hb : c.code = code) (hr : meth.sig.returnType = ret) (hlocks : meth.locks = false) {pc : Nat} {H : Heap} {ls : Array Slot} (hdg : decode code pc = .ok (.ireturn, 1)) : W p l e room_1 s m #[Value.ref b] below meth c H [] 601024 7293000 (lw_Z below #[Value.ref b] s) (F0 m pc ls [.int 1]) := by
  intro T hT X
  obtain ⟨fs, hret, hrun, hended, hW, hframe⟩ := X.leave (v := some (.int 1)) (hlocks := hlocks) (fun h => by rw [hr] at h; cases h)
  have hmeth' : T.vm.method? m = some meth := X.method'
  refine ⟨T.setFrames fs, ?_, .returned (some (.int 1)), hrun, hended, rfl, ⟨_, rfl⟩, hW, hframe⟩
  jvm_step X.here [X.here.top, hx, hb, hdg, hmeth', hr, ret, narrow_b1]
  (try refine ⟨rfl, ?_⟩); (try refine ⟨rfl, ?_⟩)
  first | (intro acts; rw [hret _ acts rfl rfl rfl]) | rw [hret _ _ rfl rfl rfl]
  exact Steps.refl _
/-- what holds at the law's entry: the machine, the code, the tables' words (any of lw_tbl by 'hts w (by decide +kernel)'), the script of L ints xs at the cell b, what the Statement gives of the start (any of its parts by flat_of_before) -/
def lw_At (p : Program) (s : State) (m : MethodId) (meth : Method) (c : Code) (b L : Nat) (xs : Nat → Int32) : Prop :=
  p.tables.exec = Jvm.exec ∧ c.code = code ∧ meth.sig.returnType = ret ∧ c.maxLocals = 8 ∧ s.vm.findClass R_law = some m.cls ∧ (∀ w ∈ lw_tbl, w.before #[Value.ref b] s = true) ∧ va_X b L xs s s.heap ∧ b < s.heap.size ∧ meth.locks = false ∧ (Jvm.Cond.and given_1 narrow_1).before #[Value.ref b] s = true
/-! THE START: the environment, the first invariant -/
theorem lb_AO {s : State} (h : va_AO "java/lang/Object" s) : ∃ cO, ArrOfT s cO (.object "java/lang/Object") ∧ va_RA s cO (.object "java/lang/Object") := by
  obtain ⟨comp, c, k, h1, h2, h3, h4, h5⟩ := Cond.arrayOver_spec h
  exact ⟨c, fun n z => ⟨fun k h => (by cases h), k, h3, comp, h4⟩, k, comp, h3, h4, h1, h5⟩
theorem lb_AC {args : Array Value} {s : State} {ty : FieldType} (h : (Cond.arrayClass ty).before args s = true) : ∃ cA, ArrOfT s cA ty ∧ s.vm.findClass ("[" ++ ty.toString) = some cA := by
  obtain ⟨c, k, comp, h1, h2, h3⟩ := Cond.arrayClass_spec h
  exact ⟨c, fun n z => ⟨fun k h => (by cases h), k, h2, comp, h3⟩, h1⟩
set_option maxRecDepth 100000 in
set_option maxHeartbeats 4000000 in
theorem lb_E {l : Launch} {p : Program} {s : State} {m : MethodId} {meth : Method} {c : Code} {b L : Nat} {xs : Nat → Int32} (htr : l.stackTraces = false) (C0 : lw_At p s m meth c b L xs) : ∃ (D : va_G) (cI cJ cO : ClassId) (e0 mi0 : Nat), hb_E l s D cI cJ cO e0 mi0 := by
  obtain ⟨hx, hb, hr, hml, hown, hts, hX, hbl, hlocks, hgv⟩ := id C0
  have hfl := flat_of_before _ hgv
  have ht : ∀ w ∈ hb_tbl, w.before #[] s = true := fun w hw => word_at (State.WarmedH.refl s) (good_of_word (hb_gd w hw)) (hts w (List.mem_filter.mp hw).1)
  have hA : ∀ a : Nat, a < s.heap.size → ¬ (fun q : Nat => s.heap.size ≤ q) a := fun a h => Nat.not_le.mpr h
  obtain ⟨c0, iS0, hKn0⟩ := u_known (C := C_Acc) (T := T_Acc) (N := 6) (n := 6) ht hC_Acc.2.1 (ht _ it_Acc)
  obtain ⟨c1, iS1, hKn1⟩ := u_known (C := C_Pay) (T := T_Pay) (N := 10) (n := 10) ht hC_Pay.2.1 (ht _ it_Pay)
  obtain ⟨c2, iS2, hKn2⟩ := u_known (C := C_Hb) (T := T_Hb) (N := 6) (n := 6) ht hC_Hb.2.1 (ht _ it_Hb)
  obtain ⟨c3, iS3, hKn3⟩ := u_known (C := C_Al) (T := T_Al) (N := 3) (n := 3) ht hC_Al.2.1 (ht _ it_Al)
  obtain ⟨c4, iS4, hKn4⟩ := u_known (C := C_Md) (T := T_Md) (N := 18) (n := 18) ht hC_Md.2.1 (ht _ it_Md)
  have hKc : ∀ (k : Nat) (q : vw_C), hb_cl[k]? = some q → u_Kn s q.1 q.2.1 q.2.2 ((fun k => if k = 0 then c0 else if k = 1 then c1 else if k = 2 then c2 else if k = 3 then c3 else c4) k) ((fun k => if k = 0 then iS0 else if k = 1 then iS1 else if k = 2 then iS2 else if k = 3 then iS3 else iS4) k) := by
    intro k q hq
    match k, hq with
    | 0, hq => cases hq; exact hKn0
    | 1, hq => cases hq; exact hKn1
    | 2, hq => cases hq; exact hKn2
    | 3, hq => cases hq; exact hKn3
    | 4, hq => cases hq; exact hKn4
    | k + 5, hq => simp at hq
  have hao : va_AO "java/lang/Object" s := va_AO.of (hts (Cond.arrayOver (.object "java/lang/Object")) (List.mem_of_getElem? (i := 345) (by decide +kernel)))
  obtain ⟨cO, o1, o2⟩ := lb_AO hao
  obtain ⟨cI, i1, i2⟩ := lb_AC (ht _ ac_int)
  obtain ⟨cJ, j1, j2⟩ := lb_AC (ht _ ac_long)
  have hKt : ∀ (k : Nat) (q : ClassId × FieldType), ([(cI, .int), (cJ, .long), (cO, .object "java/lang/Object")] : List (ClassId × FieldType))[k]? = some q → ArrOfT s q.1 q.2 ∧ va_RA s q.1 q.2 := by
    intro k q hq
    match k, hq with
    | 0, hq => cases hq; exact ⟨i1, i2⟩
    | 1, hq => cases hq; exact ⟨j1, j2⟩
    | 2, hq => cases hq; exact ⟨o1, o2⟩
    | k + 3, hq => simp at hq
  obtain ⟨e0, he, hT0⟩ := va_Tof (tm := Term.static "java/util/ArrayList" "DEFAULTCAPACITY_EMPTY_ELEMENTDATA" "[Ljava/lang/Object;") (ty := .object "java/lang/Object") (N := 0) (f := fun _ => .null) (A := fun q : Nat => s.heap.size ≤ q) (by decide) (hfl (Cond.arrayOf (Term.static "java/util/ArrayList" "DEFAULTCAPACITY_EMPTY_ELEMENTDATA" "[Ljava/lang/Object;") (.object "java/lang/Object")) (by decide +kernel)) (va_eqt (hfl (Cond.eq (.length (Term.static "java/util/ArrayList" "DEFAULTCAPACITY_EMPTY_ELEMENTDATA" "[Ljava/lang/Object;")) (.int 0)) (by decide +kernel))) (fun j hj => absurd hj (by omega)) hA
  have hZ0 : va_Z "java/util/ArrayList" "DEFAULTCAPACITY_EMPTY_ELEMENTDATA" "[Ljava/lang/Object;" (.ref e0) (fun q => s.heap.size ≤ q) s s.heap := va_Zof (hts _ (List.mem_of_getElem? (i := 62) (by decide +kernel))) (ht _ in_Al) he hA
  obtain ⟨mi0, hmi⟩ := va_Mi.of (hfl (Cond.isRef (.mirror "[Ljava/lang/Object;")) (by decide +kernel))
  have hdc : va_Dc s := va_Dc.of (hts _ (List.mem_of_getElem? (i := 742) (by decide +kernel)))
  have h2 : ∀ w ∈ hb_tb2, va_Nw w s := List.forall_mem_cons.mpr ⟨va_Nw.of rfl (hts (Cond.castable "HoldBook$Payment" "java/lang/Object") (List.mem_of_getElem? (i := 746) (by decide +kernel))), List.forall_mem_cons.mpr ⟨va_Nw.of rfl (hts (Cond.castable "HoldBook$Account" "java/lang/Object") (List.mem_of_getElem? (i := 744) (by decide +kernel))), List.forall_mem_cons.mpr ⟨va_Nw.of rfl (hts (Cond.castable "java/lang/IllegalArgumentException" "java/lang/IllegalArgumentException") (List.mem_of_getElem? (i := 221) (by decide +kernel))), List.forall_mem_cons.mpr ⟨va_Nw.of rfl (hts (Cond.castable "java/lang/IllegalStateException" "java/lang/IllegalStateException") (List.mem_of_getElem? (i := 289) (by decide +kernel))), List.forall_mem_cons.mpr ⟨va_Nw.of rfl (hts (Cond.declares ⟨"java/lang/RuntimeException", "<init>", "(Ljava/lang/String;)V"⟩) (List.mem_of_getElem? (i := 223) (by decide +kernel))), List.forall_mem_cons.mpr ⟨va_Nw.of rfl (hts (Cond.declares ⟨"java/lang/Exception", "<init>", "(Ljava/lang/String;)V"⟩) (List.mem_of_getElem? (i := 225) (by decide +kernel))), List.forall_mem_cons.mpr ⟨va_Nw.of rfl (hts (Cond.declares ⟨"java/lang/Throwable", "<init>", "(Ljava/lang/String;)V"⟩) (List.mem_of_getElem? (i := 227) (by decide +kernel))), fun _ h => absurd h List.not_mem_nil⟩⟩⟩⟩⟩⟩⟩
  have hu := vx_Zqof (A := fun q : Nat => s.heap.size ≤ q) (hts (Cond.laysStatic "java/lang/Throwable" "UNASSIGNED_STACK" "[Ljava/lang/StackTraceElement;") (List.mem_of_getElem? (i := 246) (by decide +kernel))) (hts (Cond.initialized "java/lang/Throwable") (List.mem_of_getElem? (i := 30) (by decide +kernel))) (hfl (Cond.isRef (.static "java/lang/Throwable" "UNASSIGNED_STACK" "[Ljava/lang/StackTraceElement;")) (by decide +kernel)) hA
  have hn := vx_Zqof (A := fun q : Nat => s.heap.size ≤ q) (hts (Cond.laysStatic "java/lang/Throwable" "SUPPRESSED_SENTINEL" "Ljava/util/List;") (List.mem_of_getElem? (i := 248) (by decide +kernel))) (hts (Cond.initialized "java/lang/Throwable") (List.mem_of_getElem? (i := 30) (by decide +kernel))) (hfl (Cond.isRef (.static "java/lang/Throwable" "SUPPRESSED_SENTINEL" "Ljava/util/List;")) (by decide +kernel)) hA
  have hst : hb_str s := by
    intro k tx hk
    have h1 := hts _ hk
    obtain ⟨cc, kk, hfc, -⟩ := Cond.instantiable_spec (ht _ it_Hb)
    obtain ⟨k9, cf, i9, a, -, -, -, -, -, hev⟩ := Cond.stringRef_spec (cls := "HoldBook") hfc h1
    exact ⟨a, vk_R.of h1 hev⟩
  have hc1 : va_Nc "java/lang/IllegalArgumentException" "java/lang/IllegalStateException" s := va_Nc.of (hfl (Cond.not (.castable "java/lang/IllegalArgumentException" "java/lang/IllegalStateException")) (by decide +kernel))
  have hc2 : va_Nc "java/lang/IllegalStateException" "java/lang/IllegalArgumentException" s := va_Nc.of (hfl (Cond.not (.castable "java/lang/IllegalStateException" "java/lang/IllegalArgumentException")) (by decide +kernel))
  exact ⟨(_, _), cI, cJ, cO, e0, mi0, htr, ht, ⟨hKc, hKt⟩, hZ0, hT0, hao, hmi, hdc, h2, hu, hn, hst, hc1, hc2⟩
