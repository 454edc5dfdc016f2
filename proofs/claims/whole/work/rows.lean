section
-- ===== PART A: goes FIRST, ahead of the names: the tables' words, and 'selects' of the private methods out of them =====
/-- a private method of a class that the tables say can be made, by its rows of tables_1 -/
def lw_okq (q : MethodName × Nat) : Prop := (q.1.cls ≠ "java/lang/invoke/MethodHandle" ∧ q.1.cls ≠ "java/lang/invoke/VarHandle") ∧ Cond.instantiable q.1.cls q.2 ∈ tables_1 ∧ Cond.privateMethod q.1 ∈ tables_1 ∧ Cond.instanceMethod q.1 ∈ tables_1
theorem lw_p0 : lw_okq (⟨"HoldBook", "isOver", "(LHoldBook$Payment;)Z"⟩, 6) := ⟨⟨by decide +kernel, by decide +kernel⟩, List.mem_of_getElem? (i := 20) (by decide +kernel), List.mem_of_getElem? (i := 137) (by decide +kernel), List.mem_of_getElem? (i := 138) (by decide +kernel)⟩
theorem lw_p1 : lw_okq (⟨"HoldBook", "isLongDone", "(LHoldBook$Payment;)Z"⟩, 6) := ⟨⟨by decide +kernel, by decide +kernel⟩, List.mem_of_getElem? (i := 20) (by decide +kernel), List.mem_of_getElem? (i := 141) (by decide +kernel), List.mem_of_getElem? (i := 142) (by decide +kernel)⟩
theorem lw_p2 : lw_okq (⟨"java/util/ArrayList", "fastRemove", "([Ljava/lang/Object;I)V"⟩, 3) := ⟨⟨by decide +kernel, by decide +kernel⟩, List.mem_of_getElem? (i := 28) (by decide +kernel), List.mem_of_getElem? (i := 149) (by decide +kernel), List.mem_of_getElem? (i := 150) (by decide +kernel)⟩
theorem lw_p3 : lw_okq (⟨"HoldBook", "agrees", "(LHoldBook$Account;)Z"⟩, 6) := ⟨⟨by decide +kernel, by decide +kernel⟩, List.mem_of_getElem? (i := 20) (by decide +kernel), List.mem_of_getElem? (i := 164) (by decide +kernel), List.mem_of_getElem? (i := 165) (by decide +kernel)⟩
theorem lw_p4 : lw_okq (⟨"java/lang/Throwable", "fillInStackTrace", "(I)Ljava/lang/Throwable;"⟩, 6) := ⟨⟨by decide +kernel, by decide +kernel⟩, List.mem_of_getElem? (i := 235) (by decide +kernel), List.mem_of_getElem? (i := 233) (by decide +kernel), List.mem_of_getElem? (i := 234) (by decide +kernel)⟩
theorem lw_p5 : lw_okq (⟨"java/util/ArrayList", "add", "(Ljava/lang/Object;[Ljava/lang/Object;I)V"⟩, 3) := ⟨⟨by decide +kernel, by decide +kernel⟩, List.mem_of_getElem? (i := 28) (by decide +kernel), List.mem_of_getElem? (i := 286) (by decide +kernel), List.mem_of_getElem? (i := 287) (by decide +kernel)⟩
theorem lw_p6 : lw_okq (⟨"java/util/ArrayList", "grow", "()[Ljava/lang/Object;"⟩, 3) := ⟨⟨by decide +kernel, by decide +kernel⟩, List.mem_of_getElem? (i := 28) (by decide +kernel), List.mem_of_getElem? (i := 290) (by decide +kernel), List.mem_of_getElem? (i := 291) (by decide +kernel)⟩
theorem lw_p7 : lw_okq (⟨"java/util/ArrayList", "grow", "(I)[Ljava/lang/Object;"⟩, 3) := ⟨⟨by decide +kernel, by decide +kernel⟩, List.mem_of_getElem? (i := 28) (by decide +kernel), List.mem_of_getElem? (i := 294) (by decide +kernel), List.mem_of_getElem? (i := 295) (by decide +kernel)⟩
theorem lw_p8 : lw_okq (⟨"HoldBook", "checkAccount", "(I)V"⟩, 6) := ⟨⟨by decide +kernel, by decide +kernel⟩, List.mem_of_getElem? (i := 20) (by decide +kernel), List.mem_of_getElem? (i := 342) (by decide +kernel), List.mem_of_getElem? (i := 343) (by decide +kernel)⟩
theorem lw_p9 : lw_okq (⟨"HoldBook", "find", "(I)LHoldBook$Payment;"⟩, 6) := ⟨⟨by decide +kernel, by decide +kernel⟩, List.mem_of_getElem? (i := 20) (by decide +kernel), List.mem_of_getElem? (i := 351) (by decide +kernel), List.mem_of_getElem? (i := 352) (by decide +kernel)⟩
theorem lw_p10 : lw_okq (⟨"HoldBook", "placeOf", "(I)I"⟩, 6) := ⟨⟨by decide +kernel, by decide +kernel⟩, List.mem_of_getElem? (i := 20) (by decide +kernel), List.mem_of_getElem? (i := 355) (by decide +kernel), List.mem_of_getElem? (i := 356) (by decide +kernel)⟩
theorem lw_p11 : lw_okq (⟨"HoldBook", "enter", "(LHoldBook$Payment;)V"⟩, 6) := ⟨⟨by decide +kernel, by decide +kernel⟩, List.mem_of_getElem? (i := 20) (by decide +kernel), List.mem_of_getElem? (i := 417) (by decide +kernel), List.mem_of_getElem? (i := 418) (by decide +kernel)⟩
theorem lw_p12 : lw_okq (⟨"java/util/ArrayList", "rangeCheckForAdd", "(I)V"⟩, 3) := ⟨⟨by decide +kernel, by decide +kernel⟩, List.mem_of_getElem? (i := 28) (by decide +kernel), List.mem_of_getElem? (i := 425) (by decide +kernel), List.mem_of_getElem? (i := 426) (by decide +kernel)⟩
theorem lw_p13 : lw_okq (⟨"HoldBookModel", "goes", "(Z)Z"⟩, 18) := ⟨⟨by decide +kernel, by decide +kernel⟩, List.mem_of_getElem? (i := 540) (by decide +kernel), List.mem_of_getElem? (i := 624) (by decide +kernel), List.mem_of_getElem? (i := 625) (by decide +kernel)⟩
theorem lw_p14 : lw_okq (⟨"HoldBookModel", "place", "(I)I"⟩, 18) := ⟨⟨by decide +kernel, by decide +kernel⟩, List.mem_of_getElem? (i := 540) (by decide +kernel), List.mem_of_getElem? (i := 628) (by decide +kernel), List.mem_of_getElem? (i := 629) (by decide +kernel)⟩
theorem lw_p15 : lw_okq (⟨"HoldBookModel", "freeOf", "(I)J"⟩, 18) := ⟨⟨by decide +kernel, by decide +kernel⟩, List.mem_of_getElem? (i := 540) (by decide +kernel), List.mem_of_getElem? (i := 634) (by decide +kernel), List.mem_of_getElem? (i := 635) (by decide +kernel)⟩
def lw_privs_1 : List (MethodName × Nat) := [(⟨"HoldBook", "isOver", "(LHoldBook$Payment;)Z"⟩, 6), (⟨"HoldBook", "isLongDone", "(LHoldBook$Payment;)Z"⟩, 6), (⟨"java/util/ArrayList", "fastRemove", "([Ljava/lang/Object;I)V"⟩, 3), (⟨"HoldBook", "agrees", "(LHoldBook$Account;)Z"⟩, 6), (⟨"java/lang/Throwable", "fillInStackTrace", "(I)Ljava/lang/Throwable;"⟩, 6), (⟨"java/util/ArrayList", "add", "(Ljava/lang/Object;[Ljava/lang/Object;I)V"⟩, 3), (⟨"java/util/ArrayList", "grow", "()[Ljava/lang/Object;"⟩, 3), (⟨"java/util/ArrayList", "grow", "(I)[Ljava/lang/Object;"⟩, 3), (⟨"HoldBook", "checkAccount", "(I)V"⟩, 6), (⟨"HoldBook", "find", "(I)LHoldBook$Payment;"⟩, 6), (⟨"HoldBook", "placeOf", "(I)I"⟩, 6), (⟨"HoldBook", "enter", "(LHoldBook$Payment;)V"⟩, 6), (⟨"java/util/ArrayList", "rangeCheckForAdd", "(I)V"⟩, 3), (⟨"HoldBookModel", "goes", "(Z)Z"⟩, 18), (⟨"HoldBookModel", "place", "(I)I"⟩, 18), (⟨"HoldBookModel", "freeOf", "(I)J"⟩, 18)]
theorem lw_r1 : ∀ q ∈ lw_privs_1, lw_okq q := List.forall_mem_cons.mpr ⟨lw_p0, List.forall_mem_cons.mpr ⟨lw_p1, List.forall_mem_cons.mpr ⟨lw_p2, List.forall_mem_cons.mpr ⟨lw_p3, List.forall_mem_cons.mpr ⟨lw_p4, List.forall_mem_cons.mpr ⟨lw_p5, List.forall_mem_cons.mpr ⟨lw_p6, List.forall_mem_cons.mpr ⟨lw_p7, List.forall_mem_cons.mpr ⟨lw_p8, List.forall_mem_cons.mpr ⟨lw_p9, List.forall_mem_cons.mpr ⟨lw_p10, List.forall_mem_cons.mpr ⟨lw_p11, List.forall_mem_cons.mpr ⟨lw_p12, List.forall_mem_cons.mpr ⟨lw_p13, List.forall_mem_cons.mpr ⟨lw_p14, List.forall_mem_cons.mpr ⟨lw_p15, fun _ h => absurd h List.not_mem_nil⟩⟩⟩⟩⟩⟩⟩⟩⟩⟩⟩⟩⟩⟩⟩⟩
theorem lw_p16 : lw_okq (⟨"HoldBookModel", "heldOf", "(I)J"⟩, 18) := ⟨⟨by decide +kernel, by decide +kernel⟩, List.mem_of_getElem? (i := 540) (by decide +kernel), List.mem_of_getElem? (i := 638) (by decide +kernel), List.mem_of_getElem? (i := 639) (by decide +kernel)⟩
theorem lw_p17 : lw_okq (⟨"HoldBookModel", "lockedOf", "(I)J"⟩, 18) := ⟨⟨by decide +kernel, by decide +kernel⟩, List.mem_of_getElem? (i := 540) (by decide +kernel), List.mem_of_getElem? (i := 642) (by decide +kernel), List.mem_of_getElem? (i := 643) (by decide +kernel)⟩
theorem lw_p18 : lw_okq (⟨"HoldBookModel", "come", "(II)I"⟩, 18) := ⟨⟨by decide +kernel, by decide +kernel⟩, List.mem_of_getElem? (i := 540) (by decide +kernel), List.mem_of_getElem? (i := 647) (by decide +kernel), List.mem_of_getElem? (i := 648) (by decide +kernel)⟩
theorem lw_p19 : lw_okq (⟨"HoldBookModel", "ends", "(I)V"⟩, 18) := ⟨⟨by decide +kernel, by decide +kernel⟩, List.mem_of_getElem? (i := 540) (by decide +kernel), List.mem_of_getElem? (i := 658) (by decide +kernel), List.mem_of_getElem? (i := 659) (by decide +kernel)⟩
theorem lw_p20 : lw_okq (⟨"HoldBookModel", "closes", "(IZ)V"⟩, 18) := ⟨⟨by decide +kernel, by decide +kernel⟩, List.mem_of_getElem? (i := 540) (by decide +kernel), List.mem_of_getElem? (i := 670) (by decide +kernel), List.mem_of_getElem? (i := 671) (by decide +kernel)⟩
theorem lw_p21 : lw_okq (⟨"HoldBookModel", "stays", "(I)Z"⟩, 18) := ⟨⟨by decide +kernel, by decide +kernel⟩, List.mem_of_getElem? (i := 540) (by decide +kernel), List.mem_of_getElem? (i := 690) (by decide +kernel), List.mem_of_getElem? (i := 691) (by decide +kernel)⟩
def lw_privs_2 : List (MethodName × Nat) := [(⟨"HoldBookModel", "heldOf", "(I)J"⟩, 18), (⟨"HoldBookModel", "lockedOf", "(I)J"⟩, 18), (⟨"HoldBookModel", "come", "(II)I"⟩, 18), (⟨"HoldBookModel", "ends", "(I)V"⟩, 18), (⟨"HoldBookModel", "closes", "(IZ)V"⟩, 18), (⟨"HoldBookModel", "stays", "(I)Z"⟩, 18)]
theorem lw_r2 : ∀ q ∈ lw_privs_2, lw_okq q := List.forall_mem_cons.mpr ⟨lw_p16, List.forall_mem_cons.mpr ⟨lw_p17, List.forall_mem_cons.mpr ⟨lw_p18, List.forall_mem_cons.mpr ⟨lw_p19, List.forall_mem_cons.mpr ⟨lw_p20, List.forall_mem_cons.mpr ⟨lw_p21, fun _ h => absurd h List.not_mem_nil⟩⟩⟩⟩⟩⟩
def lw_privs : List (MethodName × Nat) := lw_privs_1 ++ (lw_privs_2)
def lw_tbl : List Cond := k2_sels lw_privs ++ tables_1
theorem lw_privs_ok : ∀ q ∈ lw_privs, lw_okq q := by
  show ∀ q ∈ lw_privs_1 ++ (lw_privs_2), lw_okq q
  exact List.forall_mem_append.mpr ⟨lw_r1, lw_r2⟩
/-- the good words of the tables -/
def hb_tbl : List Cond := lw_tbl.filter goodWord
theorem hb_in {w : Cond} (h : w ∈ lw_tbl) (hg : goodWord w = true) : w ∈ hb_tbl := List.mem_filter.mpr ⟨h, hg⟩
theorem hb_gd : ∀ w ∈ hb_tbl, goodWord w = true := fun _ h => (List.mem_filter.mp h).2
end
section
/-! ===== BEGIN words of one list among another's, by their places ===== -/
theorem goodIn_r {big : List Cond} (ws : List Cond) (ps : List Nat) (hp : ws = ps.filterMap (fun i => big[i]?)) (h : ws.all goodWord = true) : GoodIn big ws := by
  intro w hw
  have h1 := List.all_eq_true.mp h w hw
  rw [hp] at hw
  obtain ⟨i, -, hi⟩ := List.mem_filterMap.mp hw
  have hm : w ∈ big := by first | exact List.mem_of_getElem? hi | exact List.getElem?_mem hi
  exact ⟨hm, good_of_word h1⟩
theorem goodIn_app {big a b : List Cond} (ha : GoodIn big a) (hb : GoodIn big b) : GoodIn big (a ++ b) := fun w h => (List.mem_append.mp h).elim (ha w) (hb w)
theorem goodIn_ca {big a b : List Cond} {c : Cond} (ha : GoodIn big (c :: a)) (hb : GoodIn big b) : GoodIn big (c :: (a ++ b)) := fun w h => (List.mem_cons.mp h).elim (fun e => ha w (List.mem_cons.mpr (Or.inl e))) (fun h => (List.mem_append.mp h).elim (fun h => ha w (List.mem_cons.mpr (Or.inr h))) (hb w))
theorem goodIn_sub {big ws : List Cond} (hm : ∀ w ∈ ws, w ∈ big) (h : ws.all goodWord = true) : GoodIn big ws := fun w hw => ⟨hm w hw, good_of_word (List.all_eq_true.mp h w hw)⟩
/-! ===== END ===== -/

/-! ===== BEGIN exceptions that leave a method, and their catching by the caller (launches without stack traces) ===== -/
section VXA
/-! The laws vx_back, vx_callV, vx_callS, vx_callSW, vx_throw0, vx_throwS follow proofs of the library, with one case more: JvmDerived/Free/Laws.lean (Back.of_free), Shelf42/LK1.lean (callV, callS), Shelf/KitTraced.lean (throwNew0V, throwNewS). -/
/-- where a method has thrown q: the class by its name, the cell, what was written, the world -/
def vx_T (XC : String → State → State → Prop) (st : State) (q : Addr) (t : State) (mc ms : Nat) (free : Addr → Prop) : Prop :=
  ∃ (E : String) (ce : Cell) (L : List Loc), XC E st t ∧ t.heap[q]? = some ce ∧ ce.vm = .none ∧ st.vm.findClass E = some ce.cls ∧ st.WarmedH t.vm ∧ st.sameButNew ({ t with vm := st.vm } : State) L mc ms ∧ ∀ z ∈ L, free z.base
def vx_Q (Qc : Array Value → State → Outcome → State → Prop) (XC : String → State → State → Prop) (mc ms : Nat) (free : Addr → Prop) : Array Value → State → Outcome → State → Prop := fun a st o t =>
  (Qc a st o t ∧ ∃ L, FrameEnd st o t L mc ms ∧ ∀ q ∈ L, free q.base) ∨ ∃ q, o = .threw q ∧ vx_T XC st q t mc ms free
/-- a callee that returns or throws -/
def vx_Met (l : Launch) (y : MethodName) (ws : List Cond) (rm : Room) (Pc : Array Value → State → Prop) (Qc : Array Value → State → Outcome → State → Prop) (XC : String → State → State → Prop) (mc ms : Nat) (free : Addr → Prop) : Prop :=
  MetFree l y (headSpec ws rm) Pc (fun _ _ _ _ _ => True) (vx_Q Qc XC mc ms free)
def vx_Post (XC : String → State → State → Prop) (mc ms : Nat) (free : Addr → Prop) : Pt → Array Value → Addr → Pt → Prop := fun A a q B =>
  ∃ (g : JFrame) (mk : MethodId) (t : State) (L : List Loc) (E : String) (ce : Cell), B.U.heap = t.heap ∧ B.U.vm = t.vm ∧ XC E (A.U.calling g mk a) t ∧ t.heap[q]? = some ce ∧ ce.vm = .none ∧ A.U.vm.findClass E = some ce.cls ∧ B.locs = A.locs ++ L ∧ (∀ z ∈ L, free z.base) ∧ B.cells = A.cells + mc ∧ B.slots = A.slots + ms
def vx_Back (l : Launch) (R : Room) (p : Program) (e : Env) (below : List Frame) (s : State) (sargs : Array Value) (y : MethodName) (len W9 : Nat)
    (Pre : Pt → Array Value → Prop) (Post : Pt → Array Value → Option Value → Pt → Prop) (PostX : Pt → Array Value → Addr → Pt → Prop) : Prop :=
  ∀ (m : MethodId) (meth : Method) (c : Code) (A : Pt) (g : JFrame) (ig : Instr) (mk : MethodId) (a : Array Value),
    Stand p l e R s m sargs below meth c A.U A.locs A.cells A.slots → g.method = m → g.locals.size = c.maxLocals → decode c.code g.pc = .ok (ig, len) →
    2 * g.monitorRoom + (g.stack.map fun v => v.category).sum ≤ W9 → A.U.methodNamed? y = some mk → Pre A a →
    (∃ (v : Option Value) (B : Pt), Stand p l e R s m sargs below meth c B.U B.locs B.cells B.slots ∧ Post A a v B ∧
      Steps p.tables e below (doInvoke e (A.U.setTop g) [] mk a).1 (B.U.setTop { g with pc := g.pc + len, stack := v.toList ++ g.stack })) ∨
    (∃ (q : Addr) (B : Pt), Stand p l e R s m sargs below meth c B.U B.locs B.cells B.slots ∧ PostX A a q B ∧
      Steps p.tables e below (doInvoke e (A.U.setTop g) [] mk a).1 ((B.U.setTop g).pushFrame (.throwing q)))
section Payer
variable {l : Launch} {R : Room} {p : Program} {e : Env} {below : List Frame} {s : State} {sargs : Array Value} {y : MethodName} {len W9 : Nat}
theorem vx_back {ws : List Cond} {rm : Room} {Pc : Array Value → State → Prop} {Qc : Array Value → State → Outcome → State → Prop} {XC : String → State → State → Prop} {mc ms : Nat} {free : Addr → Prop} {bytes : ByteArray} {maxL : Nat} {ret : Option FieldType}
    (hM : vx_Met l y ws rm Pc Qc XC mc ms free) (hblind : FrameBlind Pc) (hrc : rm.cells = mc) (hrs : rm.slots = ms)
    (hframes : rm.frames + 1 ≤ R.frames) (hlocals : W9 + (maxL + 11) + rm.locals ≤ R.locals)
    (hws : ∀ w ∈ ws, ∀ a' U, s.WarmedH U.vm → w.before a' U = true) (hcode : Cond.code y bytes maxL ret ∈ ws) (hinit : ∀ a' U, s.WarmedH U.vm → (Cond.initialized y.cls).before a' U = true) :
    vx_Back l R p e below s sargs y len W9 (PreOf R mc ms Pc) (PostOf Qc mc ms free) (vx_Post XC mc ms free) := by
  intro m meth c A g ig mk a X hg hsize hdg hW hn hp
  have h1 : (headSpec ws rm).pre.before a A.U = true := atoms_intro fun w hw => hws w hw _ _ X.warmed
  have h2 : (Cond.code y bytes maxL ret).before a A.U = true := hws _ hcode _ _ X.warmed
  have h3 : (Cond.initialized y.cls).before a A.U = true := hinit _ _ X.warmed
  have h4 : A.cells + (headSpec ws rm).room.cells ≤ R.cells := by rw [show (headSpec ws rm).room.cells = mc from hrc]; exact hp.1
  have h5 : A.slots + (headSpec ws rm).room.slots ≤ R.slots := by rw [show (headSpec ws rm).room.slots = ms from hrs]; exact hp.2.1
  have hPc : Pc a (A.U.calling g mk a) := hblind _ _ _ _ hp.2.2
  obtain ⟨U, Ls, c0, s0⟩ := A
  dsimp only [Pt.U, Pt.locs, Pt.cells, Pt.slots] at h1 h2 h3 h4 h5 X hn hPc ⊢
  obtain ⟨methY, cY, hmY, hcY, -, hlY, -, -, -, -⟩ := Cond.code_spec hn h2
  obtain ⟨kY, hkY, -⟩ := className_of_methodNamed hn
  have hinitY : kY.init = .initialized := Cond.initialized_spec (findClass_of_methodNamed hn) hkY h3
  have h : At U g.method c below := by rw [hg]; exact X.here
  have hlocals9 : W9 + (maxL + 11) + (headSpec ws rm).room.locals ≤ R.locals := hlocals
  have happ : (headSpec ws rm).appliesLoose y e.platform (U.calling g mk a) = true :=
    Spec.appliesLoose_calling (g := g) h hdg hn hkY hinitY
      (X.room_calling (g := g) (R' := (headSpec ws rm).room) hsize hmY hcY hframes (by rw [hlY]; omega) h4 h5) h1
  obtain ⟨mid, hmid⟩ := h.above
  have hfr : (U.setTop g).frames = (.java g :: mid) ++ below := by rw [State.frames_setTop' g h.top, hmid]; rfl
  obtain ⟨o, s₂, hsteps, -, hend, hq⟩ := Steps.callFree hM p X.admits X.cas X.clock (acts := []) hfr happ hPc trivial
  have hq' : vx_Q Qc XC mc ms free a (U.calling g mk a) o s₂ := hq
  rw [State.frames_setTop' g h.top] at hend
  obtain ⟨g₀, hg0⟩ := Option.isSome_iff_exists.mp h.top
  obtain ⟨r, hr⟩ := State.topJava?_eq_some.mp hg0
  have hr' : (({ U with heap := s₂.heap, slotsUsed := s₂.slotsUsed } : State).setVm s₂.vm).frames = .java g₀ :: r := hr
  rcases hq' with ⟨hqc, L, hfe, hL⟩ | ⟨q, rfl, E, ce, L, hx, hce, hcv, hcl, hW₂, hsm, hL⟩
  · obtain ⟨⟨v, rfl⟩, hW₂, e2, q2, q3, q4, q5, q6⟩ := id hfe
    have e3 : s₂ = ({ (U.calling g mk a).setFrames s₂.frames with heap := s₂.heap, slotsUsed := s₂.slotsUsed } : State).setVm s₂.vm := by
      have : s₂ = ({ s₂ with vm := (U.calling g mk a).vm } : State).setVm s₂.vm := rfl
      rw [e2] at this
      exact this
    obtain ⟨c₂, i₂, len₂, hc₂, hd₂, hf₂⟩ := hend
    have hW' : U.WarmedH s₂.vm := hW₂
    have hcc : c₂ = c := by
      have h1 : s₂.code? g.method = U.code? g.method := by
        rw [State.code?_eq, State.code?_eq, hW'.alike.method?]
      exact Option.some.inj (hc₂.symm.trans (h1.trans h.code))
    subst hcc
    have hlen : len₂ = len := by rw [hdg] at hd₂; cases hd₂; rfl
    subst hlen
    have hs₂ : s₂ = (({ U with heap := s₂.heap, slotsUsed := s₂.slotsUsed } : State).setVm s₂.vm).setTop { g with pc := g.pc + len₂, stack := v.toList ++ g.stack } := by
      refine e3.trans ?_
      rw [hf₂, State.calling_eq h.top, State.setFrames_setFrames, State.setTop_of_frames _ hr', hr]
      rfl
    have hsame : U.sameButNew ({ U with heap := s₂.heap, slotsUsed := s₂.slotsUsed } : State) L mc ms := by
      refine ⟨?_, q2, q3, q4, q5, q6⟩
      obtain ⟨t, ht, -⟩ := State.frames_cons hr
      show ({ U with heap := s₂.heap, slotsUsed := s₂.slotsUsed } : State) = { U.setFrames U.frames with heap := s₂.heap, slotsUsed := s₂.slotsUsed }
      rw [State.setFrames_self ht]
    subst hg
    refine Or.inl ⟨v, ⟨(({ U with heap := s₂.heap, slotsUsed := s₂.slotsUsed } : State).setVm s₂.vm), Ls ++ L, c0 + mc, s0 + ms⟩,
      ⟨X.admits, X.cas, X.clock, X.frames, X.room, X.hears, X.method, X.code, (X.here.setHeapUsed s₂.heap s₂.slotsUsed).setVm hW'.alike, X.tail, State.WarmedH.trans X.warmed hW', X.limits, X.bytes, X.same.trans (hsame.setVm s.vm)⟩,
      ⟨g, mk, s₂, L, rfl, rfl, hqc, rfl, hL, rfl, rfl⟩, ?_⟩
    show Steps p.tables e below _ ((({ U with heap := s₂.heap, slotsUsed := s₂.slotsUsed } : State).setVm s₂.vm).setTop { g with pc := g.pc + len₂, stack := v.toList ++ g.stack })
    rw [← hs₂]
    exact hsteps
  · obtain ⟨e2, q2, q3, q4, q5, q6⟩ := id hsm
    have e3 : s₂ = ({ (U.calling g mk a).setFrames s₂.frames with heap := s₂.heap, slotsUsed := s₂.slotsUsed } : State).setVm s₂.vm := by
      have : s₂ = ({ s₂ with vm := (U.calling g mk a).vm } : State).setVm s₂.vm := rfl
      rw [e2] at this
      exact this
    have hf₂ : s₂.frames = .throwing q :: .java g :: U.frames.tail := hend
    have hW' : U.WarmedH s₂.vm := hW₂
    have hs₂ : s₂ = ((({ U with heap := s₂.heap, slotsUsed := s₂.slotsUsed } : State).setVm s₂.vm).setTop g).pushFrame (.throwing q) := by
      refine e3.trans ?_
      rw [hf₂, State.calling_eq h.top, State.setFrames_setFrames, State.pushFrame, State.frames_setTop _ hr', State.setTop_of_frames _ hr', State.setFrames_setFrames, hr]
      rfl
    have hsame : U.sameButNew ({ U with heap := s₂.heap, slotsUsed := s₂.slotsUsed } : State) L mc ms := by
      refine ⟨?_, q2, q3, q4, q5, q6⟩
      obtain ⟨t, ht, -⟩ := State.frames_cons hr
      show ({ U with heap := s₂.heap, slotsUsed := s₂.slotsUsed } : State) = { U.setFrames U.frames with heap := s₂.heap, slotsUsed := s₂.slotsUsed }
      rw [State.setFrames_self ht]
    subst hg
    refine Or.inr ⟨q, ⟨(({ U with heap := s₂.heap, slotsUsed := s₂.slotsUsed } : State).setVm s₂.vm), Ls ++ L, c0 + mc, s0 + ms⟩,
      ⟨X.admits, X.cas, X.clock, X.frames, X.room, X.hears, X.method, X.code, (X.here.setHeapUsed s₂.heap s₂.slotsUsed).setVm hW'.alike, X.tail, State.WarmedH.trans X.warmed hW', X.limits, X.bytes, X.same.trans (hsame.setVm s.vm)⟩,
      ⟨g, mk, s₂, L, E, ce, rfl, rfl, hx, hce, hcv, hcl, rfl, hL, rfl, rfl⟩, ?_⟩
    show Steps p.tables e below _ (((({ U with heap := s₂.heap, slotsUsed := s₂.slotsUsed } : State).setVm s₂.vm).setTop g).pushFrame (.throwing q))
    rw [← hs₂]
    exact hsteps
end Payer
section Calls
variable {p : Program} {l : Launch} {e : Env} {R : Room} {s : State} {m : MethodId} {args : Array Value} {below : List Frame} {meth : Method} {c : Code} {T : State} {locs : List Loc} {cells slots : Nat}
theorem vx_callV (X : Stand p l e R s m args below meth c T locs cells slots) (hexec : p.tables.exec = Jvm.exec) {own C : String} {index : Nat} {y : MethodName} {bytes : ByteArray} {maxL : Nat} {ret : Option FieldType}
    (hown : s.vm.findClass own = some m.cls) (hlink : (Cond.methodLink own index y).before args s = true) (hinst : (Cond.instanceMethod y).before args s = true) (hsel : (Cond.selects C y y).before args s = true)
    (hcode : (Cond.code y bytes maxL ret).before args s = true) (hy : y.cls ≠ "java/lang/invoke/MethodHandle" ∧ y.cls ≠ "java/lang/invoke/VarHandle")
    {W9 : Nat} {Pre : Pt → Array Value → Prop} {Post : Pt → Array Value → Option Value → Pt → Prop} {PostX : Pt → Array Value → Addr → Pt → Prop} (hK : vx_Back l R p e below s args y 3 W9 Pre Post PostX)
    {b : Addr} {cellB : Cell} (hcell : T.heap[b]? = some cellB) (hobj : cellB.vm.isStatics = false) (hcls : s.vm.findClass C = some cellB.cls)
    {g : JFrame} (hg : g.method = m) (hsize : g.locals.size = c.maxLocals) {argsL rest : List Value} (hlen : ∀ sig, parseMethodDescriptor y.desc = some sig → argsL.length = sig.parameters.length)
    (hstack : g.stack = argsL.reverse ++ .ref b :: rest) (hW : 2 * g.monitorRoom + (rest.map fun v => v.category).sum ≤ W9) (hdg : decode c.code g.pc = .ok (.invokevirtual index, 3))
    (hpre : ∀ vm₁, s.WarmedH vm₁ → Pre ⟨T.setVm vm₁, locs, cells, slots⟩ (Value.ref b :: argsL).toArray) :
    (∃ (v : Option Value) (vm₁ : Vm) (B : Pt), s.WarmedH vm₁ ∧ Stand p l e R s m args below meth c B.U B.locs B.cells B.slots ∧ Post ⟨T.setVm vm₁, locs, cells, slots⟩ (Value.ref b :: argsL).toArray v B ∧
      ∀ target, Steps p.tables e below (B.U.setTop { g with pc := g.pc + 3, stack := v.toList ++ rest }) target → Steps p.tables e below (T.setTop g) target) ∨
    (∃ (q : Addr) (vm₁ : Vm) (B : Pt), s.WarmedH vm₁ ∧ Stand p l e R s m args below meth c B.U B.locs B.cells B.slots ∧ PostX ⟨T.setVm vm₁, locs, cells, slots⟩ (Value.ref b :: argsL).toArray q B ∧
      Steps p.tables e below (T.setTop g) ((B.U.setTop { g with stack := rest }).pushFrame (.throwing q))) := by
  obtain ⟨mk, methM, hnamed, hmethM, hstM, habM⟩ := Cond.instanceMethod_spec hinst
  obtain ⟨methM', cM, hmethM', -, -, -, -, -, -, hsigM⟩ := Cond.code_spec hnamed hcode
  cases hmethM.symm.trans hmethM'
  obtain ⟨c2, r2, m2, q1, q2, q3, q4, kP, hkP, hkPi⟩ := Cond.selects_spec hsel
  cases hcls.symm.trans q1
  cases (State.methodFound?_of_named hnamed hy).symm.trans q2
  cases hnamed.symm.trans q3
  have hselP : selectMethod e.platform s.vm cellB.cls mk = .method mk := by rw [Launch.admits_selectMethod X.admits]; exact q4
  obtain ⟨vm₁, X₁, hstep₁⟩ := X.invokevirtual hexec hown hlink hnamed hmethM hstM hkP hkPi hy (a := b) (cell := cellB) hcell
    (fun z h => by rw [h] at hobj; cases hobj) hselP hmethM habM hkP hkPi (g := g) hg (argsL := argsL) (rest := rest) (hlen _ hsigM) hstack hdg
  rcases hK m meth c ⟨T.setVm vm₁, locs, cells, slots⟩ { g with stack := rest } (.invokevirtual index) mk (Value.ref b :: argsL).toArray X₁ hg hsize hdg hW (X₁.named hnamed) (hpre vm₁ X₁.warmed) with ⟨v, B, X', hpost, hsteps⟩ | ⟨q, B, X', hpost, hsteps⟩
  · exact Or.inl ⟨v, vm₁, B, X₁.warmed, X', hpost, fun target h => hstep₁ _ fun acts => by rw [doInvoke_state]; exact hsteps.trans h⟩
  · exact Or.inr ⟨q, vm₁, B, X₁.warmed, X', hpost, hstep₁ _ fun acts => by rw [doInvoke_state]; exact hsteps⟩
theorem vx_callS (X : Stand p l e R s m args below meth c T locs cells slots) (hexec : p.tables.exec = Jvm.exec) {own : String} {index : Nat} {y : MethodName} {bytes : ByteArray} {maxL : Nat} {ret : Option FieldType}
    (hown : s.vm.findClass own = some m.cls) (hlink : (Cond.methodLink own index y).before args s = true) (hstat : (Cond.static y).before args s = true) (hinit : (Cond.initialized y.cls).before args s = true)
    (hcode : (Cond.code y bytes maxL ret).before args s = true) (hy : y.cls ≠ "java/lang/invoke/MethodHandle" ∧ y.cls ≠ "java/lang/invoke/VarHandle")
    {W9 : Nat} {Pre : Pt → Array Value → Prop} {Post : Pt → Array Value → Option Value → Pt → Prop} {PostX : Pt → Array Value → Addr → Pt → Prop} (hK : vx_Back l R p e below s args y 3 W9 Pre Post PostX)
    {g : JFrame} (hg : g.method = m) (hsize : g.locals.size = c.maxLocals) {argsL rest : List Value} (hlen : ∀ sig, parseMethodDescriptor y.desc = some sig → argsL.length = sig.parameters.length)
    (hstack : g.stack = argsL.reverse ++ rest) (hW : 2 * g.monitorRoom + (rest.map fun v => v.category).sum ≤ W9) (hdg : decode c.code g.pc = .ok (.invokestatic index, 3))
    (hpre : ∀ vm₁, s.WarmedH vm₁ → Pre ⟨T.setVm vm₁, locs, cells, slots⟩ argsL.toArray) :
    (∃ (v : Option Value) (vm₁ : Vm) (B : Pt), s.WarmedH vm₁ ∧ Stand p l e R s m args below meth c B.U B.locs B.cells B.slots ∧ Post ⟨T.setVm vm₁, locs, cells, slots⟩ argsL.toArray v B ∧
      ∀ target, Steps p.tables e below (B.U.setTop { g with pc := g.pc + 3, stack := v.toList ++ rest }) target → Steps p.tables e below (T.setTop g) target) ∨
    (∃ (q : Addr) (vm₁ : Vm) (B : Pt), s.WarmedH vm₁ ∧ Stand p l e R s m args below meth c B.U B.locs B.cells B.slots ∧ PostX ⟨T.setVm vm₁, locs, cells, slots⟩ argsL.toArray q B ∧
      Steps p.tables e below (T.setTop g) ((B.U.setTop { g with stack := rest }).pushFrame (.throwing q))) := by
  obtain ⟨mk, hnamed⟩ := Cond.code_named hcode
  obtain ⟨methM, cM, hmethM, -, -, -, -, -, -, hsigM⟩ := Cond.code_spec hnamed hcode
  have hstatic : methM.isStatic = true := Cond.static_spec hnamed hmethM hstat
  obtain ⟨kP, hkP, -⟩ := className_of_methodNamed hnamed
  have hinitP : kP.init = .initialized := Cond.initialized_spec (findClass_of_methodNamed hnamed) hkP hinit
  obtain ⟨vm₁, X₁, hstep₁⟩ := X.invokestatic hexec hown hlink hnamed hmethM hstatic hkP hinitP hy (g := g) hg (argsL := argsL) (rest := rest) (hlen _ hsigM) hstack hdg
  rcases hK m meth c ⟨T.setVm vm₁, locs, cells, slots⟩ { g with stack := rest } (.invokestatic index) mk argsL.toArray X₁ hg hsize hdg hW (X₁.named hnamed) (hpre vm₁ X₁.warmed) with ⟨v, B, X', hpost, hsteps⟩ | ⟨q, B, X', hpost, hsteps⟩
  · exact Or.inl ⟨v, vm₁, B, X₁.warmed, X', hpost, fun target h => hstep₁ _ fun acts => by rw [doInvoke_state]; exact hsteps.trans h⟩
  · exact Or.inr ⟨q, vm₁, B, X₁.warmed, X', hpost, hstep₁ _ fun acts => by rw [doInvoke_state]; exact hsteps⟩
end Calls
theorem vx_cls {s : State} {T : State} {vm₁ : Vm} {E : String} {k : ClassId} (hW : s.WarmedH vm₁) (h : (T.setVm vm₁).vm.findClass E = some k) : s.vm.findClass E = some k := by
  have h1 : vm₁.findClass E = some k := h
  rw [hW.alike.findClass] at h1
  exact h1
/-- the method's frame g, with q thrown over it -/
def vx_W (p : Program) (l : Launch) (e : Env) (R : Room) (s : State) (m : MethodId) (args : Array Value) (below : List Frame) (meth : Method) (c : Code) (H : Heap) (locs : List Loc) (cells slots : Nat) (Q : State → Prop) (g : JFrame) (q : Addr) : Prop :=
  ∀ T : State, T.heap = H → Stand p l e R s m args below meth c T locs cells slots → ∃ t, Steps p.tables e below ((T.setTop g).pushFrame (.throwing q)) t ∧ Q t
def vx_Run (p : Program) (l : Launch) (e : Env) (R : Room) (s : State) (m : MethodId) (args : Array Value) (below : List Frame) (meth : Method) (c : Code) (H : Heap) (locs : List Loc) (cells slots mc ms : Nat) (g : JFrame) (rest : List Value) (Qa : State → Outcome → State → Prop) (XC : String → State → State → Prop) (free : Addr → Prop) : Prop :=
  ∀ T : State, T.heap = H → Stand p l e R s m args below meth c T locs cells slots →
    (∃ (v : Option Value) (st₀ t T' : State) (L : List Loc), st₀.heap = H ∧ Stand p l e R s m args below meth c T' (locs ++ L) (cells + mc) (slots + ms) ∧ (∀ q ∈ L, free q.base) ∧ T'.heap = t.heap ∧ T'.vm = t.vm ∧ Qa st₀ (.returned v) t ∧
      Goes p e below T g T' { g with pc := g.pc + 3, stack := v.toList ++ rest }) ∨
    (∃ (q : Addr) (st₀ t T' : State) (L : List Loc) (E : String) (ce : Cell), st₀.heap = H ∧ Stand p l e R s m args below meth c T' (locs ++ L) (cells + mc) (slots + ms) ∧ (∀ z ∈ L, free z.base) ∧ T'.heap = t.heap ∧ T'.vm = t.vm ∧ XC E st₀ t ∧ t.heap[q]? = some ce ∧ ce.vm = .none ∧ s.vm.findClass E = some ce.cls ∧
      Steps p.tables e below (T.setTop g) ((T'.setTop { g with stack := rest }).pushFrame (.throwing q)))
def vx_X {S : Type} (px : S → Prop) (B : String → S → State → Prop) (A : Nat → Prop) : String → State → State → Prop := fun E st t => ∃ u : S, px u ∧ B E u t ∧ va_F A st t
section Runs
variable {p : Program} {l : Launch} {e : Env} {R : Room} {s : State} {m : MethodId} {args : Array Value} {below : List Frame} {meth : Method} {c : Code} {H : Heap} {locs : List Loc} {cells slots : Nat}
variable {y : MethodName} {bytes cc : ByteArray} {maxL nL mc ms n index : Nat} {ret : Option FieldType} {ws : List Cond} {rm : Room} {Pc : Array Value → State → Prop} {Qc : Array Value → State → Outcome → State → Prop} {XC : String → State → State → Prop} {free : Addr → Prop} {Ts : List Cond} {own C : String} {b : Addr} {As rest : List Value} {g : JFrame}
theorem vx_callBack (cb : CallB R s args own index y bytes maxL ret ws rm mc ms n) (hM : vx_Met l y ws rm Pc Qc XC mc ms free) (hbl : FrameBlind Pc) : vx_Back l R p e below s args y 3 8 (PreOf R mc ms Pc) (PostOf Qc mc ms free) (vx_Post XC mc ms free) := by
  obtain ⟨hrc, hrs, hfr, hlo, hws, hcw, -, hini, -⟩ := cb
  exact vx_back (bytes := bytes) (maxL := maxL) (ret := ret) hM hbl hrc hrs hfr hlo hws hcw (fun a' U hW => word_at hW (Or.inl (by first | rfl | simp [Cond.onTables, Cond.keeps, Cond.steady])) hini)
theorem vx_runV (S : CallFix p m c cc nL s args Ts own) (hM : vx_Met l y ws rm Pc Qc XC mc ms free) (cw : CallW R s args own C index y bytes maxL ret ws rm mc ms n) (hp : PreV s H C b Pc As)
    (hg : g.method = m) (hn : As.length = n) (hsize : g.locals.size = nL) (hstack : g.stack = As.reverse ++ .ref b :: rest) (hW : 2 * g.monitorRoom + (rest.map fun v => v.category).sum ≤ 8) (hdg : decode cc g.pc = .ok (.invokevirtual index, 3)) (hf : cells + mc ≤ R.cells ∧ slots + ms ≤ R.slots) :
    vx_Run p l e R s m args below meth c H locs cells slots mc ms g rest (Qc (Value.ref b :: As).toArray) XC free := by
  have hK : vx_Back l R p e below s args y 3 8 (PreOf R mc ms Pc) (PostOf Qc mc ms free) (vx_Post XC mc ms free) := vx_callBack cw.1 hM hp.1
  obtain ⟨⟨-, -, -, -, -, -, hcode, -, hy, hlen, hl⟩, hin, hse⟩ := cw
  obtain ⟨hx, hb, hml, ho, -⟩ := S
  obtain ⟨-, ⟨cellB, hcB, hoB, hclB⟩, hPc⟩ := hp
  intro T hT X
  rcases vx_callV X hx (C := C) (bytes := bytes) (maxL := maxL) (ret := ret) ho hl hin hse hcode hy hK (by rw [hT]; exact hcB) hoB hclB hg (hsize.trans hml.symm) (argsL := As) (rest := rest) (fun sig h => hn.trans (hlen sig h)) hstack hW (by rw [hb]; exact hdg)
    (fun vm₁ hW₁ => ⟨hf.1, hf.2, hPc (T.setVm vm₁) hT hW₁⟩) with ⟨v, vm₁, ⟨U', l2, c2, s2⟩, hW₁, X', ⟨g', mk, t, L, e1, e2, hq, h1, hL, h2, h3⟩, st⟩ | ⟨q, vm₁, ⟨U', l2, c2, s2⟩, hW₁, X', ⟨g', mk, t, L, E, ce, e1, e2, hq, hce, hcv, hcl, h1, hL, h2, h3⟩, st⟩
  · dsimp only [Pt.U, Pt.locs, Pt.cells, Pt.slots] at X' e1 e2 h1 h2 h3 st
    subst h1; subst h2; subst h3
    exact Or.inl ⟨v, (T.setVm vm₁).calling g' mk (Value.ref b :: As).toArray, t, U', L, hT, X', hL, e1, e2, hq, st⟩
  · dsimp only [Pt.U, Pt.locs, Pt.cells, Pt.slots] at X' e1 e2 h1 h2 h3 st hcl
    subst h1; subst h2; subst h3
    exact Or.inr ⟨q, (T.setVm vm₁).calling g' mk (Value.ref b :: As).toArray, t, U', L, E, ce, hT, X', hL, e1, e2, hq, hce, hcv, vx_cls hW₁ hcl, st⟩
theorem vx_runS (S : CallFix p m c cc nL s args Ts own) (hM : vx_Met l y ws rm Pc Qc XC mc ms free) (cw : CallB R s args own index y bytes maxL ret ws rm mc ms n ∧ (Cond.static y).before args s = true) (hp : PreS s H Pc As)
    (hg : g.method = m) (hn : As.length = n) (hsize : g.locals.size = nL) (hstack : g.stack = As.reverse ++ rest) (hW : 2 * g.monitorRoom + (rest.map fun v => v.category).sum ≤ 8) (hdg : decode cc g.pc = .ok (.invokestatic index, 3)) (hf : cells + mc ≤ R.cells ∧ slots + ms ≤ R.slots) :
    vx_Run p l e R s m args below meth c H locs cells slots mc ms g rest (Qc As.toArray) XC free := by
  have hK : vx_Back l R p e below s args y 3 8 (PreOf R mc ms Pc) (PostOf Qc mc ms free) (vx_Post XC mc ms free) := vx_callBack cw.1 hM hp.1
  obtain ⟨⟨-, -, -, -, -, -, hcode, hini, hy, hlen, hl⟩, hstt⟩ := cw
  obtain ⟨hx, hb, hml, ho, -⟩ := S
  intro T hT X
  rcases vx_callS X hx (bytes := bytes) (maxL := maxL) (ret := ret) ho hl hstt hini hcode hy hK hg (hsize.trans hml.symm) (argsL := As) (rest := rest) (fun sig h => hn.trans (hlen sig h)) hstack hW (by rw [hb]; exact hdg)
    (fun vm₁ hW₁ => ⟨hf.1, hf.2, hp.2 (T.setVm vm₁) hT hW₁⟩) with ⟨v, vm₁, ⟨U', l2, c2, s2⟩, hW₁, X', ⟨g', mk, t, L, e1, e2, hq, h1, hL, h2, h3⟩, st⟩ | ⟨q, vm₁, ⟨U', l2, c2, s2⟩, hW₁, X', ⟨g', mk, t, L, E, ce, e1, e2, hq, hce, hcv, hcl, h1, hL, h2, h3⟩, st⟩
  · dsimp only [Pt.U, Pt.locs, Pt.cells, Pt.slots] at X' e1 e2 h1 h2 h3 st
    subst h1; subst h2; subst h3
    exact Or.inl ⟨v, (T.setVm vm₁).calling g' mk As.toArray, t, U', L, hT, X', hL, e1, e2, hq, st⟩
  · dsimp only [Pt.U, Pt.locs, Pt.cells, Pt.slots] at X' e1 e2 h1 h2 h3 st hcl
    subst h1; subst h2; subst h3
    exact Or.inr ⟨q, (T.setVm vm₁).calling g' mk As.toArray, t, U', L, E, ce, hT, X', hL, e1, e2, hq, hce, hcv, vx_cls hW₁ hcl, st⟩
end Runs
section Rows
variable {p : Program} {l : Launch} {e : Env} {R : Room} {s : State} {m : MethodId} {args : Array Value} {below : List Frame} {meth : Method} {c : Code} {H : Heap} {locs : List Loc} {cells slots : Nat} {Q : State → Prop}
variable {mc ms : Nat} {free : Addr → Prop} {A0 A1 : Nat → Prop} {H0 : Heap} {a : Array Value} {pc : Nat} {ls : Array Slot} {st0 rest : List Value}
theorem vx_keep {st₀ t T' : State} {L : List Loc} (h0 : st₀.heap = H) (e1 : T'.heap = t.heap) (hS : va_S A0 H0 H locs) (hA : ∀ q, q < H.size → A1 q → A0 q) (hf : ∀ q, free q → A0 q) (hL : ∀ q ∈ L, free q.base) (hF : va_F A1 st₀ t) :
    H.size ≤ T'.heap.size ∧ (∀ q : Nat, q < H.size → ¬ A1 q → T'.heap[q]? = H[q]?) ∧ va_S A0 H0 T'.heap (locs ++ L) := by
  obtain ⟨hz, hk⟩ := hF
  rw [h0] at hz hk
  exact ⟨by rw [e1]; exact hz, fun q h1 h2 => by rw [e1]; exact hk q h1 h2,
    ⟨Nat.le_trans hS.1 (by rw [e1]; exact hz), fun q h1 h2 => by rw [e1, hk q (Nat.lt_of_lt_of_le h1 hS.1) (fun z => h2 (hA q (Nat.lt_of_lt_of_le h1 hS.1) z))]; exact hS.2.1 q h1 h2, fun q hq => by
      rcases List.mem_append.mp hq with h | h
      · exact hS.2.2 q h
      · exact hf _ (hL q h)⟩⟩
theorem vx_calli {S SX : Type} {post : Int32 → S → Prop} {px : SX → Prop} {B : S → State → Prop} {BX : String → SX → State → Prop} {AX : Nat → Prop} (hr : vx_Run p l e R s m args below meth c H locs cells slots mc ms (F0 m pc ls st0) rest (va_Qi post B A1 a) (vx_X px BX AX) free) (hS : va_S A0 H0 H locs) (hA : ∀ q, q < H.size → A1 q → A0 q) (hf : ∀ q, free q → A0 q) (hAX : ∀ q, q < H.size → AX q → A0 q)
    (kx : ∀ (E : String) (ce : Cell) (q9 : Addr) (u : SX) (t : State) (H1 : Heap) (locs1 : List Loc), t.heap = H1 → s.vm.Alike t.vm → px u → BX E u t → H.size ≤ H1.size → (∀ q : Nat, q < H.size → ¬ AX q → H1[q]? = H[q]?) → va_S A0 H0 H1 locs1 → H1[q9]? = some ce → ce.vm = .none → s.vm.findClass E = some ce.cls → vx_W p l e R s m args below meth c H1 locs1 (cells + mc) (slots + ms) Q (F0 m pc ls rest) q9)
    (kk : ∀ (r : Int32) (u : S) (t : State) (H1 : Heap) (locs1 : List Loc), t.heap = H1 → s.vm.Alike t.vm → post r u → B u t → H.size ≤ H1.size → (∀ q : Nat, q < H.size → ¬ A1 q → H1[q]? = H[q]?) → va_S A0 H0 H1 locs1 → W p l e R s m args below meth c H1 locs1 (cells + mc) (slots + ms) Q (F0 m (pc + 3) ls (.int r :: rest))) : W p l e R s m args below meth c H locs cells slots Q (F0 m pc ls st0) := by
  intro T hT X
  rcases hr T hT X with ⟨v, st₀, t, T', L, h0, X', hL, e1, e2, ⟨⟨r, u, hv, hp, hb⟩, hF⟩, st⟩ | ⟨q, st₀, t, T', L, E, ce, h0, X', hL, e1, e2, ⟨u, hp, hb, hF⟩, hce, hcv, hcl, st⟩
  · cases hv
    obtain ⟨k1, k2, k3⟩ := vx_keep h0 e1 hS hA hf hL hF
    obtain ⟨t2, a1, b1⟩ := kk r u t T'.heap (locs ++ L) e1.symm (by rw [← e2]; exact X'.warmed.alike) hp hb k1 k2 k3 T' rfl X'
    exact ⟨t2, st t2 a1, b1⟩
  · obtain ⟨k1, k2, k3⟩ := vx_keep h0 e1 hS hAX hf hL hF
    obtain ⟨t2, a1, b1⟩ := kx E ce q u t T'.heap (locs ++ L) e1.symm (by rw [← e2]; exact X'.warmed.alike) hp hb k1 k2 k3 (by rw [e1]; exact hce) hcv hcl T' rfl X'
    exact ⟨t2, st.trans a1, b1⟩
theorem vx_calll {S SX : Type} {post : Int64 → S → Prop} {px : SX → Prop} {B : S → State → Prop} {BX : String → SX → State → Prop} {AX : Nat → Prop} (hr : vx_Run p l e R s m args below meth c H locs cells slots mc ms (F0 m pc ls st0) rest (va_Ql post B A1 a) (vx_X px BX AX) free) (hS : va_S A0 H0 H locs) (hA : ∀ q, q < H.size → A1 q → A0 q) (hf : ∀ q, free q → A0 q) (hAX : ∀ q, q < H.size → AX q → A0 q)
    (kx : ∀ (E : String) (ce : Cell) (q9 : Addr) (u : SX) (t : State) (H1 : Heap) (locs1 : List Loc), t.heap = H1 → s.vm.Alike t.vm → px u → BX E u t → H.size ≤ H1.size → (∀ q : Nat, q < H.size → ¬ AX q → H1[q]? = H[q]?) → va_S A0 H0 H1 locs1 → H1[q9]? = some ce → ce.vm = .none → s.vm.findClass E = some ce.cls → vx_W p l e R s m args below meth c H1 locs1 (cells + mc) (slots + ms) Q (F0 m pc ls rest) q9)
    (kk : ∀ (r : Int64) (u : S) (t : State) (H1 : Heap) (locs1 : List Loc), t.heap = H1 → s.vm.Alike t.vm → post r u → B u t → H.size ≤ H1.size → (∀ q : Nat, q < H.size → ¬ A1 q → H1[q]? = H[q]?) → va_S A0 H0 H1 locs1 → W p l e R s m args below meth c H1 locs1 (cells + mc) (slots + ms) Q (F0 m (pc + 3) ls (.long r :: rest))) : W p l e R s m args below meth c H locs cells slots Q (F0 m pc ls st0) := by
  intro T hT X
  rcases hr T hT X with ⟨v, st₀, t, T', L, h0, X', hL, e1, e2, ⟨⟨r, u, hv, hp, hb⟩, hF⟩, st⟩ | ⟨q, st₀, t, T', L, E, ce, h0, X', hL, e1, e2, ⟨u, hp, hb, hF⟩, hce, hcv, hcl, st⟩
  · cases hv
    obtain ⟨k1, k2, k3⟩ := vx_keep h0 e1 hS hA hf hL hF
    obtain ⟨t2, a1, b1⟩ := kk r u t T'.heap (locs ++ L) e1.symm (by rw [← e2]; exact X'.warmed.alike) hp hb k1 k2 k3 T' rfl X'
    exact ⟨t2, st t2 a1, b1⟩
  · obtain ⟨k1, k2, k3⟩ := vx_keep h0 e1 hS hAX hf hL hF
    obtain ⟨t2, a1, b1⟩ := kx E ce q u t T'.heap (locs ++ L) e1.symm (by rw [← e2]; exact X'.warmed.alike) hp hb k1 k2 k3 (by rw [e1]; exact hce) hcv hcl T' rfl X'
    exact ⟨t2, st.trans a1, b1⟩
theorem vx_callf {S SX : Type} {post : UInt32 → S → Prop} {px : SX → Prop} {B : S → State → Prop} {BX : String → SX → State → Prop} {AX : Nat → Prop} (hr : vx_Run p l e R s m args below meth c H locs cells slots mc ms (F0 m pc ls st0) rest (va_Qf post B A1 a) (vx_X px BX AX) free) (hS : va_S A0 H0 H locs) (hA : ∀ q, q < H.size → A1 q → A0 q) (hf : ∀ q, free q → A0 q) (hAX : ∀ q, q < H.size → AX q → A0 q)
    (kx : ∀ (E : String) (ce : Cell) (q9 : Addr) (u : SX) (t : State) (H1 : Heap) (locs1 : List Loc), t.heap = H1 → s.vm.Alike t.vm → px u → BX E u t → H.size ≤ H1.size → (∀ q : Nat, q < H.size → ¬ AX q → H1[q]? = H[q]?) → va_S A0 H0 H1 locs1 → H1[q9]? = some ce → ce.vm = .none → s.vm.findClass E = some ce.cls → vx_W p l e R s m args below meth c H1 locs1 (cells + mc) (slots + ms) Q (F0 m pc ls rest) q9)
    (kk : ∀ (r : UInt32) (u : S) (t : State) (H1 : Heap) (locs1 : List Loc), t.heap = H1 → s.vm.Alike t.vm → post r u → B u t → H.size ≤ H1.size → (∀ q : Nat, q < H.size → ¬ A1 q → H1[q]? = H[q]?) → va_S A0 H0 H1 locs1 → W p l e R s m args below meth c H1 locs1 (cells + mc) (slots + ms) Q (F0 m (pc + 3) ls (.float r :: rest))) : W p l e R s m args below meth c H locs cells slots Q (F0 m pc ls st0) := by
  intro T hT X
  rcases hr T hT X with ⟨v, st₀, t, T', L, h0, X', hL, e1, e2, ⟨⟨r, u, hv, hp, hb⟩, hF⟩, st⟩ | ⟨q, st₀, t, T', L, E, ce, h0, X', hL, e1, e2, ⟨u, hp, hb, hF⟩, hce, hcv, hcl, st⟩
  · cases hv
    obtain ⟨k1, k2, k3⟩ := vx_keep h0 e1 hS hA hf hL hF
    obtain ⟨t2, a1, b1⟩ := kk r u t T'.heap (locs ++ L) e1.symm (by rw [← e2]; exact X'.warmed.alike) hp hb k1 k2 k3 T' rfl X'
    exact ⟨t2, st t2 a1, b1⟩
  · obtain ⟨k1, k2, k3⟩ := vx_keep h0 e1 hS hAX hf hL hF
    obtain ⟨t2, a1, b1⟩ := kx E ce q u t T'.heap (locs ++ L) e1.symm (by rw [← e2]; exact X'.warmed.alike) hp hb k1 k2 k3 (by rw [e1]; exact hce) hcv hcl T' rfl X'
    exact ⟨t2, st.trans a1, b1⟩
theorem vx_calld {S SX : Type} {post : UInt64 → S → Prop} {px : SX → Prop} {B : S → State → Prop} {BX : String → SX → State → Prop} {AX : Nat → Prop} (hr : vx_Run p l e R s m args below meth c H locs cells slots mc ms (F0 m pc ls st0) rest (va_Qd post B A1 a) (vx_X px BX AX) free) (hS : va_S A0 H0 H locs) (hA : ∀ q, q < H.size → A1 q → A0 q) (hf : ∀ q, free q → A0 q) (hAX : ∀ q, q < H.size → AX q → A0 q)
    (kx : ∀ (E : String) (ce : Cell) (q9 : Addr) (u : SX) (t : State) (H1 : Heap) (locs1 : List Loc), t.heap = H1 → s.vm.Alike t.vm → px u → BX E u t → H.size ≤ H1.size → (∀ q : Nat, q < H.size → ¬ AX q → H1[q]? = H[q]?) → va_S A0 H0 H1 locs1 → H1[q9]? = some ce → ce.vm = .none → s.vm.findClass E = some ce.cls → vx_W p l e R s m args below meth c H1 locs1 (cells + mc) (slots + ms) Q (F0 m pc ls rest) q9)
    (kk : ∀ (r : UInt64) (u : S) (t : State) (H1 : Heap) (locs1 : List Loc), t.heap = H1 → s.vm.Alike t.vm → post r u → B u t → H.size ≤ H1.size → (∀ q : Nat, q < H.size → ¬ A1 q → H1[q]? = H[q]?) → va_S A0 H0 H1 locs1 → W p l e R s m args below meth c H1 locs1 (cells + mc) (slots + ms) Q (F0 m (pc + 3) ls (.double r :: rest))) : W p l e R s m args below meth c H locs cells slots Q (F0 m pc ls st0) := by
  intro T hT X
  rcases hr T hT X with ⟨v, st₀, t, T', L, h0, X', hL, e1, e2, ⟨⟨r, u, hv, hp, hb⟩, hF⟩, st⟩ | ⟨q, st₀, t, T', L, E, ce, h0, X', hL, e1, e2, ⟨u, hp, hb, hF⟩, hce, hcv, hcl, st⟩
  · cases hv
    obtain ⟨k1, k2, k3⟩ := vx_keep h0 e1 hS hA hf hL hF
    obtain ⟨t2, a1, b1⟩ := kk r u t T'.heap (locs ++ L) e1.symm (by rw [← e2]; exact X'.warmed.alike) hp hb k1 k2 k3 T' rfl X'
    exact ⟨t2, st t2 a1, b1⟩
  · obtain ⟨k1, k2, k3⟩ := vx_keep h0 e1 hS hAX hf hL hF
    obtain ⟨t2, a1, b1⟩ := kx E ce q u t T'.heap (locs ++ L) e1.symm (by rw [← e2]; exact X'.warmed.alike) hp hb k1 k2 k3 (by rw [e1]; exact hce) hcv hcl T' rfl X'
    exact ⟨t2, st.trans a1, b1⟩
theorem vx_callv {S SX : Type} {post : S → Prop} {px : SX → Prop} {B : S → State → Prop} {BX : String → SX → State → Prop} {AX : Nat → Prop} (hr : vx_Run p l e R s m args below meth c H locs cells slots mc ms (F0 m pc ls st0) rest (va_Qv post B A1 a) (vx_X px BX AX) free) (hS : va_S A0 H0 H locs) (hA : ∀ q, q < H.size → A1 q → A0 q) (hf : ∀ q, free q → A0 q) (hAX : ∀ q, q < H.size → AX q → A0 q)
    (kx : ∀ (E : String) (ce : Cell) (q9 : Addr) (u : SX) (t : State) (H1 : Heap) (locs1 : List Loc), t.heap = H1 → s.vm.Alike t.vm → px u → BX E u t → H.size ≤ H1.size → (∀ q : Nat, q < H.size → ¬ AX q → H1[q]? = H[q]?) → va_S A0 H0 H1 locs1 → H1[q9]? = some ce → ce.vm = .none → s.vm.findClass E = some ce.cls → vx_W p l e R s m args below meth c H1 locs1 (cells + mc) (slots + ms) Q (F0 m pc ls rest) q9)
    (kk : ∀ (u : S) (t : State) (H1 : Heap) (locs1 : List Loc), t.heap = H1 → s.vm.Alike t.vm → post u → B u t → H.size ≤ H1.size → (∀ q : Nat, q < H.size → ¬ A1 q → H1[q]? = H[q]?) → va_S A0 H0 H1 locs1 → W p l e R s m args below meth c H1 locs1 (cells + mc) (slots + ms) Q (F0 m (pc + 3) ls (rest))) : W p l e R s m args below meth c H locs cells slots Q (F0 m pc ls st0) := by
  intro T hT X
  rcases hr T hT X with ⟨v, st₀, t, T', L, h0, X', hL, e1, e2, ⟨⟨u, hv, hp, hb⟩, hF⟩, st⟩ | ⟨q, st₀, t, T', L, E, ce, h0, X', hL, e1, e2, ⟨u, hp, hb, hF⟩, hce, hcv, hcl, st⟩
  · cases hv
    obtain ⟨k1, k2, k3⟩ := vx_keep h0 e1 hS hA hf hL hF
    obtain ⟨t2, a1, b1⟩ := kk u t T'.heap (locs ++ L) e1.symm (by rw [← e2]; exact X'.warmed.alike) hp hb k1 k2 k3 T' rfl X'
    exact ⟨t2, st t2 a1, b1⟩
  · obtain ⟨k1, k2, k3⟩ := vx_keep h0 e1 hS hAX hf hL hF
    obtain ⟨t2, a1, b1⟩ := kx E ce q u t T'.heap (locs ++ L) e1.symm (by rw [← e2]; exact X'.warmed.alike) hp hb k1 k2 k3 (by rw [e1]; exact hce) hcv hcl T' rfl X'
    exact ⟨t2, st.trans a1, b1⟩
/-- caught by the row x of this method's table; the rows ahead don't take it -/
theorem vx_catch {own name : String} {E : String} {ce : Cell} {q : Addr} (hown : s.vm.findClass own = some m.cls) (pre : List ExceptionTableEntry) (x : ExceptionTableEntry) (suf : List ExceptionTableEntry) (hsplit : c.exceptionTable.toList = pre ++ x :: suf)
    (hpass : ∀ z ∈ pre, covers z pc = false ∨ (z.catchType ≠ 0 ∧ ∃ nm : String, (Cond.classLink own z.catchType nm).before args s = true ∧ va_Nc E nm s)) (hx : covers x pc = true) (h0 : x.catchType ≠ 0)
    (hlink : (Cond.classLink own x.catchType name).before args s = true) (hcast : (Cond.castable E name).before args s = true) (hcell : H[q]? = some ce) (hv : ce.vm = .none) (hcl : s.vm.findClass E = some ce.cls)
    (kk : W p l e R s m args below meth c H locs cells slots Q (F0 m x.handlerPc ls [.ref q])) : vx_W p l e R s m args below meth c H locs cells slots Q (F0 m pc ls rest) q := by
  intro T hT X
  have hpl : e.platform.magicAccessors = ({} : Platform).magicAccessors := by rw [X.admits.platform]
  obtain ⟨c3, c4, hc3, hc4, hasg⟩ := Cond.castable_spec hcast
  cases Option.some.inj (hc3.symm.trans hcl)
  obtain ⟨c5, hc5, hcl5⟩ := Cond.classLink_spec hown hlink e.platform hpl
  cases Option.some.inj (hc4.symm.trans hc5)
  obtain ⟨vm', X', st⟩ := X.thenCaughtThrough q (g := F0 m pc ls rest) rfl (Steps.refl _) (by rw [hT]; exact hcell) (by rw [hv]; rfl) (by obtain ⟨k9, h9, -⟩ := Vm.findClass_spec hcl; exact ⟨k9, h9⟩) pre x suf hsplit
    (fun z hz => by
      rcases hpass z hz with h | ⟨hz0, nm, hl1, hn1⟩
      · exact Or.inl h
      · obtain ⟨c6, hc6, hcl6⟩ := Cond.classLink_spec hown hl1 e.platform hpl
        obtain ⟨a8, b8, h1, h2, h3⟩ := hn1
        cases Option.some.inj (h1.symm.trans hcl)
        cases Option.some.inj (h2.symm.trans hc6)
        exact Or.inr ⟨hz0, _, hcl6, h3⟩) hx (Or.inr ⟨h0, c4, hcl5, hasg⟩)
  obtain ⟨t, a1, b1⟩ := kk (T.setVm vm') hT X'
  exact ⟨t, st.trans a1, b1⟩
end Rows
section Ends
variable {p : Program} {l : Launch} {e : Env} {R : Room} {s : State} {m : MethodId} {args : Array Value} {below : List Frame} {meth : Method} {c : Code} {H : Heap} {locs : List Loc} {cells slots : Nat} {Q : State → Prop}
variable {mc ms : Nat} {free : Addr → Prop} {A0 A1 : Nat → Prop} {H0 : Heap} {a : Array Value} {ls : Array Slot} {st0 rest : List Value}
variable {Qc : Array Value → State → Outcome → State → Prop} {XC : String → State → State → Prop}
/-- what a body that may throw owes at its end -/
def vx_MQ (below : List Frame) (Qc : Array Value → State → Outcome → State → Prop) (XC : String → State → State → Prop) (a : Array Value) (s : State) (mc ms : Nat) (free : Addr → Prop) : State → Prop := fun t =>
  ∃ o, t.status = .running ∧ Ended t below o ∧ vx_Q Qc XC mc ms free a s o t
theorem vx_ret {g : JFrame} {mc ms : Nat} (k : W p l e R s m args below meth c H locs cells slots (MQ below Qc args s mc ms free) g) : W p l e R s m args below meth c H locs cells slots (vx_MQ below Qc XC args s mc ms free) g := by
  intro T hT X
  obtain ⟨t, a1, o, b1, b2, b3, b4⟩ := k T hT X
  exact ⟨t, a1, o, b1, b2, Or.inl ⟨b3, b4⟩⟩
/-- not caught here: it goes on to the caller -/
theorem vx_widen {g : JFrame} {q : Addr} {k n : Nat} (h1 : cells ≤ k) (h2 : slots ≤ n) (kk : vx_W p l e R s m args below meth c H locs k n Q g q) : vx_W p l e R s m args below meth c H locs cells slots Q g q := fun T hT X => kk T hT (stand_widen X h1 h2)
theorem vx_out {pc : Nat} {E : String} {ce : Cell} {q : Addr} {mc ms : Nat} (hout : ∀ x ∈ c.exceptionTable.toList, covers x pc = false) (hlocks : meth.locks = false) (hcell : H[q]? = some ce) (hv : ce.vm = .none) (hcl : s.vm.findClass E = some ce.cls)
    (hx : ∀ t : State, t.heap = H → s.vm.Alike t.vm → XC E s t) (hf : ∀ z ∈ locs, free z.base) (hc : cells ≤ mc) (hs : slots ≤ ms) :
    vx_W p l e R s m args below meth c H locs cells slots (vx_MQ below Qc XC args s mc ms free) (F0 m pc ls rest) q := by
  intro T hT X
  obtain ⟨st1, hrun, hend, hW, hsm⟩ := X.leaveThrown q (g := F0 m pc ls rest) rfl rfl rfl hout hlocks
  have hcell9 : (T.setFrames (.throwing q :: below)).heap[q]? = some ce := by
    show T.heap[q]? = some ce
    rw [hT]; exact hcell
  exact ⟨_, st1, .threw q, hrun, hend, Or.inr ⟨q, rfl, E, ce, locs, hx _ hT hW.alike, hcell9, hv, hcl, hW, hsm.mono hc hs, hf⟩⟩
theorem vx_frame {U : State} {k n : Nat} (h : s.sameButNew ({ U with vm := s.vm } : State) locs k n) : s.heap.size ≤ U.heap.size ∧ ∀ q : Nat, q < s.heap.size → (∀ z ∈ locs, z.base ≠ q) → U.heap[q]? = s.heap[q]? := by
  obtain ⟨-, h2, -, -, -, h6⟩ := h
  refine ⟨h2, fun q hq hz => ?_⟩
  obtain ⟨c9, e1, e2, e3, e4⟩ := h6 q _ (Array.getElem?_eq_getElem hq)
  have hs : c9.slots = (s.heap[q]).slots := Array.ext_getElem? fun i => e4 i fun hm => hz _ hm rfl
  have h9 : c9 = s.heap[q] := by
    rw [hs] at e2
    exact e2
  have e5 : U.heap[q]? = some c9 := e1
  rw [e5, h9, Array.getElem?_eq_getElem hq]
/-- the words of a throw but the four that speak of the heap -/
def vx_no (w : Cond) : Bool := decide (w ≠ .isRef (.static Bundle.tN "UNASSIGNED_STACK" Bundle.steD)) && decide (w ≠ .isRef (.static Bundle.tN "SUPPRESSED_SENTINEL" Bundle.listD)) && decide (w ≠ .laysStatic Bundle.tN "UNASSIGNED_STACK" Bundle.steD) && decide (w ≠ .laysStatic Bundle.tN "SUPPRESSED_SENTINEL" Bundle.listD)
def vx_at0 (own : String) (ic : Nat) (X : String) (names : List String) : List Cond := (Bundle.ownAtoms0 own ic X names).filter vx_no
def vx_atS (own : String) (ic : Nat) (X : String) (names : List String) : List Cond := (Bundle.ownAtoms own ic X names).filter vx_no
/-- a word that the tables alone decide, or a good one -/
def vx_ot (w : Cond) : Bool := w.onTables || goodWord w
theorem vx_ot_at {args a' : Array Value} {s U : State} {w : Cond} (hW : s.WarmedH U.vm) (hvm : s.vm = U.vm) (hg : vx_ot w = true) (h : w.before args s = true) : w.before a' U = true := by
  simp only [vx_ot, Bool.or_eq_true] at hg
  rcases hg with hg | hg
  · exact va_tabs hg hvm h
  · exact word_at hW (good_of_word hg) h
/-- a list's words: the good ones out of the method's own list, the others by premises of their own -/
theorem vx_hat {args : Array Value} {s : State} {L B : List Cond} (h1 : ∀ w ∈ L.filter goodWord, w.before args s = true) (h2 : ∀ w ∈ L.filter (fun w => !goodWord w), w ∈ B) (h3 : ∀ w ∈ B, w.before args s = true) : ∀ w ∈ L, w.before args s = true := by
  intro w hw
  by_cases g : goodWord w = true
  · exact h1 w (List.mem_filter.mpr ⟨hw, g⟩)
  · refine h3 w (h2 w (List.mem_filter.mpr ⟨hw, ?_⟩))
    show (!goodWord w) = true
    cases hgw : goodWord w
    · rfl
    · exact absurd hgw g
theorem vx_c {args : Array Value} {s : State} {w : Cond} {B : List Cond} (h : w.before args s = true) (t : ∀ w ∈ B, w.before args s = true) : ∀ w' ∈ w :: B, w'.before args s = true := fun w' h' => (List.mem_cons.mp h').elim (fun e => by rw [e]; exact h) (t w')
theorem vx_n {args : Array Value} {s : State} : ∀ w ∈ ([] : List Cond), w.before args s = true := fun _ h => nomatch h
theorem vx_own {args : Array Value} {s : State} {L : List Cond} (h1 : ∀ w ∈ L.filter vx_no, w.before args s = true)
    (hU : (Cond.isRef (.static Bundle.tN "UNASSIGNED_STACK" Bundle.steD)).before args s = true) (hN : (Cond.isRef (.static Bundle.tN "SUPPRESSED_SENTINEL" Bundle.listD)).before args s = true)
    (lU : (Cond.laysStatic Bundle.tN "UNASSIGNED_STACK" Bundle.steD).before args s = true) (lN : (Cond.laysStatic Bundle.tN "SUPPRESSED_SENTINEL" Bundle.listD).before args s = true) : ∀ w ∈ L, w.before args s = true := by
  intro w hw
  by_cases e1 : w = .isRef (.static Bundle.tN "UNASSIGNED_STACK" Bundle.steD)
  · rw [e1]; exact hU
  · by_cases e2 : w = .isRef (.static Bundle.tN "SUPPRESSED_SENTINEL" Bundle.listD)
    · rw [e2]; exact hN
    · by_cases e3 : w = .laysStatic Bundle.tN "UNASSIGNED_STACK" Bundle.steD
      · rw [e3]; exact lU
      · by_cases e4 : w = .laysStatic Bundle.tN "SUPPRESSED_SENTINEL" Bundle.listD
        · rw [e4]; exact lN
        · exact h1 w (List.mem_filter.mpr ⟨hw, by unfold vx_no; rw [decide_eq_true e1, decide_eq_true e2, decide_eq_true e3, decide_eq_true e4]; rfl⟩)
/-- where a static field lies, its class's statics cell in H -/
def vx_L (C n d : String) (A : Nat → Prop) (U : State) (H : Heap) : Prop := ∃ (c : ClassId) (k : Class) (i : Nat) (f : Field) (a : Nat) (cell : Cell), U.vm.findClass C = some c ∧ U.fieldFound? C n d = some (c, k, i, f) ∧ f.isStatic = true ∧ k.statics = some a ∧ H[a]? = some cell ∧ cell.vm.isStatics = true ∧ cell.cls = c ∧ f.slot < cell.slots.size ∧ k.staticTypes[f.slot]? = some f.type ∧ ¬ A a
theorem vx_L.moved {C n d : String} {A : Nat → Prop} {u U : State} {H : Heap} (hvm : u.vm.Alike U.vm) (h : vx_L C n d A u H) : vx_L C n d A U H := by
  obtain ⟨c, k, i, f, a, cell, h1, h2, h3, h4, h5, h6, h7, h8, h9, h10⟩ := h
  obtain ⟨k', hi', he⟩ := State.fieldFound?_setVm hvm h2
  exact ⟨c, k', i, f, a, cell, by rw [hvm.findClass]; exact h1, hi', h3, by rw [he]; exact h4, h5, h6, h7, h8, by rw [he]; exact h9, h10⟩
theorem vx_L.kept {C n d : String} {A : Nat → Prop} {U : State} {H H1 : Heap} (h : vx_L C n d A U H) (hq : ∀ a : Nat, a < H.size → ¬ A a → H1[a]? = H[a]?) : vx_L C n d A U H1 := by
  obtain ⟨c, k, i, f, a, cell, h1, h2, h3, h4, h5, h6, h7, h8, h9, h10⟩ := h
  exact ⟨c, k, i, f, a, cell, h1, h2, h3, h4, by rw [hq a (Array.getElem?_eq_some_iff.mp h5).1 h10]; exact h5, h6, h7, h8, h9, h10⟩
theorem vx_L.narrow {C n d : String} {A B : Nat → Prop} {U : State} {H : Heap} (h : vx_L C n d A U H) (hAB : ∀ q, B q → A q) : vx_L C n d B U H := by
  obtain ⟨c, k, i, f, a, cell, h1, h2, h3, h4, h5, h6, h7, h8, h9, h10⟩ := h
  exact ⟨c, k, i, f, a, cell, h1, h2, h3, h4, h5, h6, h7, h8, h9, fun z => h10 (hAB _ z)⟩
theorem vx_L.word {C n d : String} {A : Nat → Prop} {s : State} {args : Array Value} (h : vx_L C n d A s s.heap) : (Cond.laysStatic C n d).before args s = true := by
  obtain ⟨c, k, i, f, a, cell, h1, h2, h3, h4, h5, h6, h7, h8, h9, -⟩ := h
  show (Cond.laysStatic C n d).holds args s none s [] = true
  exact Cond.laysStatic_of h1 h2 h3 h4 h5 h6 h7 h8 h9
/-- .. and what it holds: null or some reference -/
def vx_Zq (C n d : String) (A : Nat → Prop) (U : State) (H : Heap) : Prop := va_Zq C n d A U H ∧ vx_L C n d A U H
theorem vx_Zq.moved {C n d : String} {A : Nat → Prop} {u U : State} {H : Heap} (hvm : u.vm.Alike U.vm) (h : vx_Zq C n d A u H) : vx_Zq C n d A U H := ⟨va_Zq.moved hvm h.1, vx_L.moved hvm h.2⟩
theorem vx_Zq.kept {C n d : String} {A : Nat → Prop} {U : State} {H H1 : Heap} (h : vx_Zq C n d A U H) (hq : ∀ a : Nat, a < H.size → ¬ A a → H1[a]? = H[a]?) : vx_Zq C n d A U H1 := ⟨va_Zq.kept h.1 hq, vx_L.kept h.2 hq⟩
theorem vx_Zq.narrow {C n d : String} {A B : Nat → Prop} {U : State} {H : Heap} (h : vx_Zq C n d A U H) (hAB : ∀ q, B q → A q) : vx_Zq C n d B U H := ⟨va_Zq.narrow h.1 hAB, vx_L.narrow h.2 hAB⟩
theorem vx_Zqof {args : Array Value} {s : State} {C n d : String} {A : Nat → Prop} (hl : (Cond.laysStatic C n d).before args s = true) (hini : (Cond.initialized C).before args s = true) (h : (Cond.isRef (.static C n d)).before args s = true) (hA : ∀ a : Nat, a < s.heap.size → ¬ A a) : vx_Zq C n d A s s.heap := by
  refine ⟨va_Zqof hl hini h hA, ?_⟩
  obtain ⟨c, k, i, f, a, cell, h1, h2, h3, h4, h5, h6, h7, h8, h9⟩ := Cond.laysStatic_spec hl
  exact ⟨c, k, i, f, a, cell, h1, h2, h3, h4, h5, h6, h7, h8, h9, hA a (Array.getElem?_eq_some_iff.mp h5).1⟩
theorem vx_isRef {C n d : String} {v : Value} {A : Nat → Prop} {s : State} {args : Array Value} (h : va_Z C n d v A s s.heap) (hv : v.isRef = true) : (Cond.isRef (.static C n d)).before args s = true := by
  obtain ⟨cf, kf, fi, f, a, cell, h1, h2, h3, h4, h5, h6, h7, -⟩ := h
  have he : (Term.static C n d).eval args s none [] s = some v := by
    simp [Term.eval, State.fieldNamed?, h1, h2, h4, h5, h6, h7]
  simp only [Cond.before, Cond.holds, Cond.value, he]
  cases v <;> simp_all [Value.isRef]
theorem vx_isRefq {C n d : String} {A : Nat → Prop} {s : State} {args : Array Value} (h : va_Zq C n d A s s.heap) : (Cond.isRef (.static C n d)).before args s = true := by
  rcases h with h | ⟨t, h⟩
  · exact vx_isRef h rfl
  · exact vx_isRef h rfl
/-- the same frame, seen from here: as if the method were called anew in this heap -/
theorem vx_rebase {T : State} (X : Stand p l e R s m args below meth c T locs cells slots) {R' : Room} (hf : R'.frames ≤ R.frames) (hl : R'.locals ≤ R.locals) (hc : cells + R'.cells ≤ R.cells) (hs : slots + R'.slots ≤ R.slots) :
    Stand p l e R' ((T.setVm s.vm).setFrames (.invoking m args :: below)) m args below meth c T [] 0 0 := by
  have htop : (T.setVm s.vm).topJava?.isSome := X.here.top
  have hF : ((T.setVm s.vm).setFrames (.invoking m args :: below)).frames = .invoking m args :: below := State.frames_setFrames _ (State.cur_lt_of_top htop)
  obtain ⟨g₀, hg0⟩ := Option.isSome_iff_exists.mp htop
  obtain ⟨r, hr⟩ := State.topJava?_eq_some.mp hg0
  have hl9 : e.platform.stackLimits (T.setVm s.vm).me = e.platform.stackLimits s.me := X.limits
  have hb9 : (T.setVm s.vm).me.stackBytes = s.me.stackBytes := X.bytes
  refine ⟨X.admits, X.cas, X.clock, hF, ?_, X.hears, X.method, X.code, X.here, X.tail, X.warmed, ?_, ?_, ?_⟩
  · have h := X.room
    have hU : ((T.setVm s.vm).setFrames (.invoking m args :: below)).localsInUse = s.localsInUse := by
      rw [State.localsInUse_invoking hF (meth := meth) (c := c) X.method X.code, State.localsInUse_invoking X.frames X.method X.code]
    simp only [State.hasRoom, Bool.and_eq_true, decide_eq_true_eq] at h ⊢
    obtain ⟨⟨⟨⟨h1, h2, h3, h4, h5, h6⟩, h7⟩, h8⟩, h9⟩ := h
    rw [X.frames, List.length_cons] at h2 h3
    have q1 := X.heapSize
    have q2 := X.used
    simp only [hF, hU, List.length_cons, State.stackLimits_setFrames, State.stackBytes_setFrames, hl9, hb9]
    refine ⟨⟨⟨⟨by omega, by omega, by omega, by omega, by omega, h6⟩, ?_⟩, ?_⟩, X.book⟩
    · show T.heap.size + R'.cells ≤ e.platform.maxCells
      omega
    · show T.slotsUsed + R'.slots ≤ e.platform.maxSlots
      omega
  · rw [State.stackLimits_setFrames]; rfl
  · rw [State.stackBytes_setFrames]; rfl
  · refine ⟨?_, Nat.le_refl _, Nat.le_refl _, ?_, ?_, fun a c9 h9 => ⟨c9, h9, rfl, rfl, fun _ _ => rfl⟩⟩
    · obtain ⟨t, ht, -⟩ := State.frames_cons hr
      show T.setVm s.vm = { ((T.setVm s.vm).setFrames (.invoking m args :: below)).setFrames (T.setVm s.vm).frames with heap := T.heap, slotsUsed := T.slotsUsed }
      rw [State.setFrames_setFrames, State.setFrames_self ht]
      rfl
    · show T.slotsUsed = T.slotsUsed + ((T.heap.toList.drop T.heap.size).map (·.slots.size)).sum
      rw [List.drop_eq_nil_of_le (Nat.le_of_eq Array.length_toList)]
      rfl
    · show ((T.heap.toList.drop T.heap.size).map (·.slots.size)).sum ≤ 0
      rw [List.drop_eq_nil_of_le (Nat.le_of_eq Array.length_toList)]
      exact Nat.le_refl _
/-- 'throw new E()': new; dup; invokespecial; athrow -/
theorem vx_throw0 {cc : ByteArray} {pc : Nat} (hexec : p.tables.exec = Jvm.exec) (hb : c.code = cc) (hl : l.stackTraces = false) {own cls : String} {names : List String} {ik ic mc ms : Nat} {A : Nat → Prop}
    (hown : s.vm.findClass own = some m.cls) (hcls : Bundle.fit cls = true) (hnames : ∀ n ∈ names, Bundle.fit n = true)
    (hk : (Cond.classLink own ik cls).before args s = true) (hini : (Cond.initialized cls).before args s = true) (hat : ∀ w ∈ vx_at0 own ic cls names, w.before args s = true)
    (hgood : ∀ w ∈ Cond.classLink own ik cls :: Cond.initialized cls :: vx_at0 own ic cls names, vx_ot w = true)
    (hU : vx_Zq Bundle.tN "UNASSIGNED_STACK" Bundle.steD A s s.heap) (hN : vx_Zq Bundle.tN "SUPPRESSED_SENTINEL" Bundle.listD A s s.heap) (hS : va_S A s.heap H locs) (hsize : ls.size = c.maxLocals)
    (d0 : decode cc pc = .ok (.new ik, 3)) (d3 : decode cc (pc + 3) = .ok (.dup, 1)) (d4 : decode cc (pc + 4) = .ok (.invokespecial ic, 3)) (d7 : decode cc (pc + 7) = .ok (.athrow, 1))
    (hout : ∀ x ∈ c.exceptionTable.toList, covers x (pc + 7) = false)
    (hRframes : names.length + 3 < R.frames) (hRlocals : (rest.map fun v => v.category).sum + (13 * (names.length + 1) + 42) ≤ R.locals) (hRcells : cells + 1 ≤ R.cells) (hRslots : slots + 6 ≤ R.slots) (hlocks : meth.locks = false)
    (hx : ∀ t : State, s.vm.Alike t.vm → H.size ≤ t.heap.size → (∀ q : Nat, q < H.size → t.heap[q]? = H[q]?) → XC cls s t)
    (hf : ∀ z ∈ locs, free z.base) (hc : cells + 1 ≤ mc) (hs : slots + 6 ≤ ms) :
    W p l e R s m args below meth c H locs cells slots (vx_MQ below Qc XC args s mc ms free) (F0 m pc ls rest) := by
  intro T hT X
  have htr : e.platform.stackTraces = false := (show e.platform.stackTraces = l.stackTraces by rw [X.admits.platform]).trans hl
  have Y := vx_rebase X (R' := { frames := R.frames, locals := R.locals, cells := 1, slots := 6 }) (Nat.le_refl _) (Nat.le_refl _) hRcells hRslots
  obtain ⟨s', hA⟩ : ∃ z, z = (T.setVm s.vm).setFrames (.invoking m args :: below) := ⟨_, rfl⟩
  rw [← hA] at Y
  have hvm : s'.vm = s.vm := by rw [hA]; rfl
  have hhp : s'.heap = H := by rw [hA]; exact hT
  have hW0 : s.WarmedH s'.vm := by rw [hvm]; exact State.WarmedH.refl s
  have hat' : ∀ w ∈ vx_at0 own ic cls names, w.before args s' = true := fun w hw => vx_ot_at hW0 hvm.symm (hgood w (List.mem_cons_of_mem _ (List.mem_cons_of_mem _ hw))) (hat w hw)
  have hk' : (Cond.classLink own ik cls).before args s' = true := vx_ot_at hW0 hvm.symm (hgood _ List.mem_cons_self) hk
  have hini' : (Cond.initialized cls).before args s' = true := vx_ot_at hW0 hvm.symm (hgood _ (List.mem_cons_of_mem _ List.mem_cons_self)) hini
  have hU' : vx_Zq Bundle.tN "UNASSIGNED_STACK" Bundle.steD A s' s'.heap := by rw [hhp]; exact vx_Zq.moved hW0.alike (hU.kept hS.2.1)
  have hN' : vx_Zq Bundle.tN "SUPPRESSED_SENTINEL" Bundle.listD A s' s'.heap := by rw [hhp]; exact vx_Zq.moved hW0.alike (hN.kept hS.2.1)
  have h : ∀ w ∈ Bundle.ownAtoms0 own ic cls names, w.before args s' = true := vx_own hat' (vx_isRefq hU'.1) (vx_isRefq hN'.1) hU'.2.word hN'.2.word
  have hown' : s'.vm.findClass own = some m.cls := by rw [hvm]; exact hown
  have hins : (Cond.instantiable cls 6).before args s' = true := h _ (by simp [Bundle.ownAtoms0])
  obtain ⟨vm₁, cX, kX, hfX, hkX, -, -, X₁, st1⟩ := Y.newCold hexec (own := own) (C := cls) (index := ik) (n := 6) hown' hk' hins hini'
    (g := F0 m pc ls rest) rfl (by rw [hb]; exact d0) (Nat.le_refl _) (Nat.le_refl _)
  generalize hT1 : (T.setVm vm₁).pushCell { cls := cX, slots := kX.instanceTypes.map defaultValue, vm := .none } = T1 at X₁ st1
  have hcat : (Value.ref T.heap.size).category = 1 := rfl
  have hcellA : T1.heap[T.heap.size]? = some (freshCell cX kX) := by rw [← hT1]; exact State.heap_pushCell_size _ _
  have d3' : decode c.code (pc + 3) = .ok (.dup, 1) := by rw [hb]; exact d3
  obtain ⟨U, hsteps, hrun, hend, hW, hsame, ce, hce, hO⟩ := X₁.ctorThrow0 hexec htr (own := own) (cls := cls) (names := names) (ic := ic) hown' hcls hnames h (fun x hx => nomatch hx) hfX hkX hcellA (by rw [hhp, hT]; exact Nat.le_refl _)
    (g := { method := m, pc := pc + 4, locals := ls, stack := .ref T.heap.size :: .ref T.heap.size :: rest, locked := none }) rfl hsize rfl rfl (rest := rest) rfl
    (by rw [hb]; exact d4) (by rw [hb]; exact d7) hout hRframes (by simp only [List.map_cons, List.sum_cons, hcat]; omega) hlocks
  obtain ⟨f1, f2⟩ := vx_frame hsame
  rw [hhp] at f1 f2
  have hWs : s.WarmedH U.vm := State.WarmedH.trans hW0 hW
  have hcl : s.vm.findClass cls = some ce.cls := by
    have h9 := hO.cls
    rw [hvm] at h9
    exact h9
  have hall : s.sameButNew ({ U with vm := s.vm } : State) locs mc ms := by
    subst hA
    obtain ⟨e1, e2⟩ := hsame
    rw [State.setFrames_setFrames] at e1
    have h2 : (T.setVm s.vm).sameButNew ({ U with vm := s.vm } : State) [] (0 + 1) (0 + 6) := ⟨e1, e2⟩
    have h3 := X.same.trans h2
    rw [List.append_nil] at h3
    exact h3.mono hc hs
  refine ⟨U, ?_, .threw T.heap.size, hrun, hend, Or.inr ⟨T.heap.size, rfl, cls, ce, locs, hx U hWs.alike f1 (fun q hq => f2 q hq (fun z hz => nomatch hz)), hce, hO.vm, hcl, hWs, hall, hf⟩⟩
  refine st1 _ ?_
  show Steps p.tables e below (T1.setTop { method := m, pc := pc + 3, locals := ls, stack := .ref T.heap.size :: rest, locked := none }) _
  jvm_step X₁.here [X₁.here.top, hexec, d3', Value.category]
  exact hsteps
/-- 'throw new E("text")': new; dup; ldc; invokespecial; athrow -/
theorem vx_throwS {cc : ByteArray} {pc : Nat} (hexec : p.tables.exec = Jvm.exec) (hb : c.code = cc) (hl : l.stackTraces = false) {own cls text : String} {names : List String} {ik is ic mc ms sa : Nat} {A : Nat → Prop}
    (hown : s.vm.findClass own = some m.cls) (hcls : Bundle.fit cls = true) (hnames : ∀ n ∈ names, Bundle.fit n = true)
    (hk : (Cond.classLink own ik cls).before args s = true) (hini : (Cond.initialized cls).before args s = true) (hstr : vk_R own is text sa s) (hat : ∀ w ∈ vx_atS own ic cls names, w.before args s = true)
    (hgood : ∀ w ∈ Cond.classLink own ik cls :: Cond.initialized cls :: vx_atS own ic cls names, vx_ot w = true)
    (hU : vx_Zq Bundle.tN "UNASSIGNED_STACK" Bundle.steD A s s.heap) (hN : vx_Zq Bundle.tN "SUPPRESSED_SENTINEL" Bundle.listD A s s.heap) (hS : va_S A s.heap H locs) (hsize : ls.size = c.maxLocals)
    (d0 : decode cc pc = .ok (.new ik, 3)) (d3 : decode cc (pc + 3) = .ok (.dup, 1)) (d4 : decode cc (pc + 4) = .ok (.ldc is, 2)) (d6 : decode cc (pc + 6) = .ok (.invokespecial ic, 3)) (d9 : decode cc (pc + 9) = .ok (.athrow, 1))
    (hout : ∀ x ∈ c.exceptionTable.toList, covers x (pc + 9) = false)
    (hRframes : names.length + 3 < R.frames) (hRlocals : (rest.map fun v => v.category).sum + (13 * (names.length + 1) + 43) ≤ R.locals) (hRcells : cells + 1 ≤ R.cells) (hRslots : slots + 6 ≤ R.slots) (hlocks : meth.locks = false)
    (hx : ∀ t : State, s.vm.Alike t.vm → H.size ≤ t.heap.size → (∀ q : Nat, q < H.size → t.heap[q]? = H[q]?) → XC cls s t)
    (hf : ∀ z ∈ locs, free z.base) (hc : cells + 1 ≤ mc) (hs : slots + 6 ≤ ms) :
    W p l e R s m args below meth c H locs cells slots (vx_MQ below Qc XC args s mc ms free) (F0 m pc ls rest) := by
  intro T hT X
  have htr : e.platform.stackTraces = false := (show e.platform.stackTraces = l.stackTraces by rw [X.admits.platform]).trans hl
  have Y := vx_rebase X (R' := { frames := R.frames, locals := R.locals, cells := 1, slots := 6 }) (Nat.le_refl _) (Nat.le_refl _) hRcells hRslots
  obtain ⟨s', hA⟩ : ∃ z, z = (T.setVm s.vm).setFrames (.invoking m args :: below) := ⟨_, rfl⟩
  rw [← hA] at Y
  have hvm : s'.vm = s.vm := by rw [hA]; rfl
  have hhp : s'.heap = H := by rw [hA]; exact hT
  have hW0 : s.WarmedH s'.vm := by rw [hvm]; exact State.WarmedH.refl s
  have hat' : ∀ w ∈ vx_atS own ic cls names, w.before args s' = true := fun w hw => vx_ot_at hW0 hvm.symm (hgood w (List.mem_cons_of_mem _ (List.mem_cons_of_mem _ hw))) (hat w hw)
  have hk' : (Cond.classLink own ik cls).before args s' = true := vx_ot_at hW0 hvm.symm (hgood _ List.mem_cons_self) hk
  have hini' : (Cond.initialized cls).before args s' = true := vx_ot_at hW0 hvm.symm (hgood _ (List.mem_cons_of_mem _ List.mem_cons_self)) hini
  have hU' : vx_Zq Bundle.tN "UNASSIGNED_STACK" Bundle.steD A s' s'.heap := by rw [hhp]; exact vx_Zq.moved hW0.alike (hU.kept hS.2.1)
  have hN' : vx_Zq Bundle.tN "SUPPRESSED_SENTINEL" Bundle.listD A s' s'.heap := by rw [hhp]; exact vx_Zq.moved hW0.alike (hN.kept hS.2.1)
  have h : ∀ w ∈ Bundle.ownAtoms own ic cls names, w.before args s' = true := vx_own hat' (vx_isRefq hU'.1) (vx_isRefq hN'.1) hU'.2.word hN'.2.word
  have hown' : s'.vm.findClass own = some m.cls := by rw [hvm]; exact hown
  have hins : (Cond.instantiable cls 6).before args s' = true := h _ (by simp [Bundle.ownAtoms])
  obtain ⟨vm₁, cX, kX, hfX, hkX, -, -, X₁, st1⟩ := Y.newCold hexec (own := own) (C := cls) (index := ik) (n := 6) hown' hk' hins hini'
    (g := F0 m pc ls rest) rfl (by rw [hb]; exact d0) (Nat.le_refl _) (Nat.le_refl _)
  generalize hT1 : (T.setVm vm₁).pushCell { cls := cX, slots := kX.instanceTypes.map defaultValue, vm := .none } = T1 at X₁ st1
  have hcat : (Value.ref T.heap.size).category = 1 := rfl
  have hcellA : T1.heap[T.heap.size]? = some (freshCell cX kX) := by rw [← hT1]; exact State.heap_pushCell_size _ _
  have d3' : decode c.code (pc + 3) = .ok (.dup, 1) := by rw [hb]; exact d3
  have d4' : decode c.code (pc + 4) = .ok (.ldc is, 2) := by rw [hb]; exact d4
  have hstr' : vk_R own is text sa s' := vk_R.warm hW0 hstr
  obtain ⟨U, hsteps, hrun, hend, hW, hsame, ce, hce, hO⟩ := X₁.ctorThrowS hexec htr (own := own) (cls := cls) (names := names) (ic := ic) hown' hcls hnames h (fun x hx => nomatch hx) hfX hkX hcellA (by rw [hhp, hT]; exact Nat.le_refl _) (msg := .ref sa) rfl
    (g := { method := m, pc := pc + 6, locals := ls, stack := .ref sa :: .ref T.heap.size :: .ref T.heap.size :: rest, locked := none }) rfl hsize rfl rfl (rest := rest) rfl
    (by rw [hb]; exact d6) (by rw [hb]; exact d9) hout hRframes (by simp only [List.map_cons, List.sum_cons, hcat]; omega) hlocks
  obtain ⟨f1, f2⟩ := vx_frame hsame
  rw [hhp] at f1 f2
  have hWs : s.WarmedH U.vm := State.WarmedH.trans hW0 hW
  have hcl : s.vm.findClass cls = some ce.cls := by
    have h9 := hO.cls
    rw [hvm] at h9
    exact h9
  have hall : s.sameButNew ({ U with vm := s.vm } : State) locs mc ms := by
    subst hA
    obtain ⟨e1, e2⟩ := hsame
    rw [State.setFrames_setFrames] at e1
    have h2 : (T.setVm s.vm).sameButNew ({ U with vm := s.vm } : State) [] (0 + 1) (0 + 6) := ⟨e1, e2⟩
    have h3 := X.same.trans h2
    rw [List.append_nil] at h3
    exact h3.mono hc hs
  refine ⟨U, ?_, .threw T.heap.size, hrun, hend, Or.inr ⟨T.heap.size, rfl, cls, ce, locs, hx U hWs.alike f1 (fun q hq => f2 q hq (fun z hz => nomatch hz)), hce, hO.vm, hcl, hWs, hall, hf⟩⟩
  refine st1 _ ?_
  show Steps p.tables e below (T1.setTop { method := m, pc := pc + 3, locals := ls, stack := .ref T.heap.size :: rest, locked := none }) _
  jvm_step X₁.here [X₁.here.top, hexec, d3', Value.category]
  exact X₁.ldcString hexec (own := own) (text := text) (index := is) (a := sa) hown' hstr'.1 hstr'.2
    (g := { method := m, pc := pc + 4, locals := ls, stack := .ref T.heap.size :: .ref T.heap.size :: rest, locked := none }) rfl d4' _ hsteps
/-- 'throw new E("text")', the text by a wide index -/
theorem vx_throwSW {cc : ByteArray} {pc : Nat} (hexec : p.tables.exec = Jvm.exec) (hb : c.code = cc) (hl : l.stackTraces = false) {own cls text : String} {names : List String} {ik is ic mc ms sa : Nat} {A : Nat → Prop}
    (hown : s.vm.findClass own = some m.cls) (hcls : Bundle.fit cls = true) (hnames : ∀ n ∈ names, Bundle.fit n = true)
    (hk : (Cond.classLink own ik cls).before args s = true) (hini : (Cond.initialized cls).before args s = true) (hstr : vk_R own is text sa s) (hat : ∀ w ∈ vx_atS own ic cls names, w.before args s = true)
    (hgood : ∀ w ∈ Cond.classLink own ik cls :: Cond.initialized cls :: vx_atS own ic cls names, vx_ot w = true)
    (hU : vx_Zq Bundle.tN "UNASSIGNED_STACK" Bundle.steD A s s.heap) (hN : vx_Zq Bundle.tN "SUPPRESSED_SENTINEL" Bundle.listD A s s.heap) (hS : va_S A s.heap H locs) (hsize : ls.size = c.maxLocals)
    (d0 : decode cc pc = .ok (.new ik, 3)) (d3 : decode cc (pc + 3) = .ok (.dup, 1)) (d4 : decode cc (pc + 4) = .ok (.ldc_w is, 3)) (d7 : decode cc (pc + 7) = .ok (.invokespecial ic, 3)) (d10 : decode cc (pc + 10) = .ok (.athrow, 1))
    (hout : ∀ x ∈ c.exceptionTable.toList, covers x (pc + 10) = false)
    (hRframes : names.length + 3 < R.frames) (hRlocals : (rest.map fun v => v.category).sum + (13 * (names.length + 1) + 43) ≤ R.locals) (hRcells : cells + 1 ≤ R.cells) (hRslots : slots + 6 ≤ R.slots) (hlocks : meth.locks = false)
    (hx : ∀ t : State, s.vm.Alike t.vm → H.size ≤ t.heap.size → (∀ q : Nat, q < H.size → t.heap[q]? = H[q]?) → XC cls s t)
    (hf : ∀ z ∈ locs, free z.base) (hc : cells + 1 ≤ mc) (hs : slots + 6 ≤ ms) :
    W p l e R s m args below meth c H locs cells slots (vx_MQ below Qc XC args s mc ms free) (F0 m pc ls rest) := by
  intro T hT X
  have htr : e.platform.stackTraces = false := (show e.platform.stackTraces = l.stackTraces by rw [X.admits.platform]).trans hl
  have Y := vx_rebase X (R' := { frames := R.frames, locals := R.locals, cells := 1, slots := 6 }) (Nat.le_refl _) (Nat.le_refl _) hRcells hRslots
  obtain ⟨s', hA⟩ : ∃ z, z = (T.setVm s.vm).setFrames (.invoking m args :: below) := ⟨_, rfl⟩
  rw [← hA] at Y
  have hvm : s'.vm = s.vm := by rw [hA]; rfl
  have hhp : s'.heap = H := by rw [hA]; exact hT
  have hW0 : s.WarmedH s'.vm := by rw [hvm]; exact State.WarmedH.refl s
  have hat' : ∀ w ∈ vx_atS own ic cls names, w.before args s' = true := fun w hw => vx_ot_at hW0 hvm.symm (hgood w (List.mem_cons_of_mem _ (List.mem_cons_of_mem _ hw))) (hat w hw)
  have hk' : (Cond.classLink own ik cls).before args s' = true := vx_ot_at hW0 hvm.symm (hgood _ List.mem_cons_self) hk
  have hini' : (Cond.initialized cls).before args s' = true := vx_ot_at hW0 hvm.symm (hgood _ (List.mem_cons_of_mem _ List.mem_cons_self)) hini
  have hU' : vx_Zq Bundle.tN "UNASSIGNED_STACK" Bundle.steD A s' s'.heap := by rw [hhp]; exact vx_Zq.moved hW0.alike (hU.kept hS.2.1)
  have hN' : vx_Zq Bundle.tN "SUPPRESSED_SENTINEL" Bundle.listD A s' s'.heap := by rw [hhp]; exact vx_Zq.moved hW0.alike (hN.kept hS.2.1)
  have h : ∀ w ∈ Bundle.ownAtoms own ic cls names, w.before args s' = true := vx_own hat' (vx_isRefq hU'.1) (vx_isRefq hN'.1) hU'.2.word hN'.2.word
  have hown' : s'.vm.findClass own = some m.cls := by rw [hvm]; exact hown
  have hins : (Cond.instantiable cls 6).before args s' = true := h _ (by simp [Bundle.ownAtoms])
  obtain ⟨vm₁, cX, kX, hfX, hkX, -, -, X₁, st1⟩ := Y.newCold hexec (own := own) (C := cls) (index := ik) (n := 6) hown' hk' hins hini'
    (g := F0 m pc ls rest) rfl (by rw [hb]; exact d0) (Nat.le_refl _) (Nat.le_refl _)
  generalize hT1 : (T.setVm vm₁).pushCell { cls := cX, slots := kX.instanceTypes.map defaultValue, vm := .none } = T1 at X₁ st1
  have hcat : (Value.ref T.heap.size).category = 1 := rfl
  have hcellA : T1.heap[T.heap.size]? = some (freshCell cX kX) := by rw [← hT1]; exact State.heap_pushCell_size _ _
  have d3' : decode c.code (pc + 3) = .ok (.dup, 1) := by rw [hb]; exact d3
  have d4' : decode c.code (pc + 4) = .ok (.ldc_w is, 3) := by rw [hb]; exact d4
  have hstr' : vk_R own is text sa s' := vk_R.warm hW0 hstr
  obtain ⟨U, hsteps, hrun, hend, hW, hsame, ce, hce, hO⟩ := X₁.ctorThrowS hexec htr (own := own) (cls := cls) (names := names) (ic := ic) hown' hcls hnames h (fun x hx => nomatch hx) hfX hkX hcellA (by rw [hhp, hT]; exact Nat.le_refl _) (msg := .ref sa) rfl
    (g := { method := m, pc := pc + 7, locals := ls, stack := .ref sa :: .ref T.heap.size :: .ref T.heap.size :: rest, locked := none }) rfl hsize rfl rfl (rest := rest) rfl
    (by rw [hb]; exact d7) (by rw [hb]; exact d10) hout hRframes (by simp only [List.map_cons, List.sum_cons, hcat]; omega) hlocks
  obtain ⟨f1, f2⟩ := vx_frame hsame
  rw [hhp] at f1 f2
  have hWs : s.WarmedH U.vm := State.WarmedH.trans hW0 hW
  have hcl : s.vm.findClass cls = some ce.cls := by
    have h9 := hO.cls
    rw [hvm] at h9
    exact h9
  have hall : s.sameButNew ({ U with vm := s.vm } : State) locs mc ms := by
    subst hA
    obtain ⟨e1, e2⟩ := hsame
    rw [State.setFrames_setFrames] at e1
    have h2 : (T.setVm s.vm).sameButNew ({ U with vm := s.vm } : State) [] (0 + 1) (0 + 6) := ⟨e1, e2⟩
    have h3 := X.same.trans h2
    rw [List.append_nil] at h3
    exact h3.mono hc hs
  refine ⟨U, ?_, .threw T.heap.size, hrun, hend, Or.inr ⟨T.heap.size, rfl, cls, ce, locs, hx U hWs.alike f1 (fun q hq => f2 q hq (fun z hz => nomatch hz)), hce, hO.vm, hcl, hWs, hall, hf⟩⟩
  refine st1 _ ?_
  show Steps p.tables e below (T1.setTop { method := m, pc := pc + 3, locals := ls, stack := .ref T.heap.size :: rest, locked := none }) _
  jvm_step X₁.here [X₁.here.top, hexec, d3', Value.category]
  exact X₁.ldcStringW hexec (own := own) (text := text) (index := is) (a := sa) hown' hstr'.1 hstr'.2
    (g := { method := m, pc := pc + 4, locals := ls, stack := .ref T.heap.size :: .ref T.heap.size :: rest, locked := none }) rfl d4' _ hsteps
end Ends
section Bodies
variable {l : Launch}
theorem vx_ofW {y : MethodName} {ws ws' : List Cond} {rm : Room} {Pc : Array Value → State → Prop} {Qc : Array Value → State → Outcome → State → Prop} {XC : String → State → State → Prop} {mc ms : Nat} {free : Addr → Prop} {cc : ByteArray} {maxL : Nat} {ret : Option FieldType}
    (hy : plainName y.cls = true) (hw : ws = Cond.code y cc maxL ret :: ws')
    (body : ∀ p e s m args below meth c s₁, BodyLoose p l y (headSpec ws rm) cc maxL ret e s m args below meth c s₁ → c.maxLocals = maxL → (∀ x ∈ c.exceptionTable.toList, False) → Pc args s →
      W p l e (headSpec ws rm).room s m args below meth c s.heap [] 0 0 (vx_MQ below Qc XC args s mc ms free) (entryFrame m args maxL)) : vx_Met l y ws rm Pc Qc XC mc ms free := by
  refine MetFree.of_bodyS (code := cc) (maxLocals := maxL) (ret := ret) hy ?_ ?_
  · intro args s m h hn
    obtain ⟨meth, c, h1, h2, h3, h4, h5, h6, -, -⟩ := Cond.code_spec hn (atoms_spec (ws := ws) h _ (by rw [hw]; exact List.mem_cons_self))
    exact ⟨meth, c, h1, h2, h3, h4, h5, h6⟩
  · intro p e s m args below meth c s₁ B hml hP _
    have hh0 : s₁.heap = s.heap := by rw [B.state]; rfl
    have ht : ∀ x ∈ c.exceptionTable.toList, False := by
      obtain ⟨meth9, c9, h1, h2, -, -, -, -, h7, -⟩ := Cond.code_spec B.named (atoms_spec (ws := ws) B.pre _ (by rw [hw]; exact List.mem_cons_self))
      cases Option.some.inj (h1.symm.trans B.method)
      cases Option.some.inj (h2.symm.trans (Stand.of_body B).code)
      intro x hx
      rw [Array.isEmpty_iff.mp h7] at hx
      cases hx
    obtain ⟨t, a1, o, b1, b2, b3⟩ := body p e s m args below meth c s₁ B hml ht hP s₁ hh0 (Stand.of_body B)
    exact ⟨t, o, a1, b1, b2, b3⟩
/-- the table of a body with handlers -/
theorem vx_table {p : Program} {x y : MethodName} {S : Spec} {cc bytes : ByteArray} {maxL maxL' : Nat} {ret ret' : Option FieldType} {e : Env} {s s₁ : State} {m : MethodId} {args : Array Value} {below : List Frame} {meth : Method} {c : Code} {hh : List (Nat × Nat × Nat × Nat)}
    (B : BodyLoose p l y S cc maxL ret e s m args below meth c s₁) (h : (Cond.codeWith y bytes maxL' ret' hh).before args s = true) : c.exceptionTable.toList = tableOf hh := by
  obtain ⟨m9, meth9, c9, hn9, h1, h2, -, -, h6, -⟩ := Cond.codeWith_spec h
  cases Option.some.inj (hn9.symm.trans B.named)
  cases Option.some.inj (h1.symm.trans B.method)
  cases Option.some.inj (h2.symm.trans (Stand.of_body B).code)
  rw [← h6, table_eq]
end Bodies
end VXA
/-! ===== END ===== -/
/-! ===== BEGIN a static call of a method with an exception table ===== -/
section VXS
variable {p : Program} {l : Launch} {e : Env} {R : Room} {s : State} {m : MethodId} {args : Array Value} {below : List Frame} {meth : Method} {c : Code} {T : State} {H : Heap} {locs : List Loc} {cells slots : Nat}
abbrev vx_CSW (R : Room) (s : State) (args : Array Value) (own : String) (index : Nat) (y : MethodName) (bytes : ByteArray) (maxL : Nat) (ret : Option FieldType) (hh : List (Nat × Nat × Nat × Nat)) (ws : List Cond) (rm : Room) (mc ms n : Nat) : Prop :=
  (rm.cells = mc ∧ rm.slots = ms ∧ rm.frames + 1 ≤ R.frames ∧ 8 + (maxL + 11) + rm.locals ≤ R.locals ∧ (∀ w ∈ ws, ∀ (a' : Array Value) (U : State), s.WarmedH U.vm → w.before a' U = true) ∧ Cond.codeWith y bytes maxL ret hh ∈ ws) ∧
  (Cond.codeWith y bytes maxL ret hh).before args s = true ∧ (Cond.initialized y.cls).before args s = true ∧ (y.cls ≠ "java/lang/invoke/MethodHandle" ∧ y.cls ≠ "java/lang/invoke/VarHandle") ∧
  (∀ sig, parseMethodDescriptor y.desc = some sig → n = sig.parameters.length) ∧ (Cond.methodLink own index y).before args s = true ∧ (Cond.static y).before args s = true
theorem vx_cwSW {own : String} {index maxL mc ms : Nat} {y : MethodName} {bytes : ByteArray} {ret : Option FieldType} {hh : List (Nat × Nat × Nat × Nat)} {Ts ws ws' : List Cond} {rm : Room} (n : Nat) (ht : ∀ w ∈ Ts, w.before args s = true) (hT : GoodIn Ts (va_wsS own index y ws)) (hw : ws = Cond.codeWith y bytes maxL ret hh :: ws') (hrc : rm.cells = mc) (hrs : rm.slots = ms)
    (hd : y.cls ≠ "java/lang/invoke/MethodHandle" ∧ y.cls ≠ "java/lang/invoke/VarHandle" ∧ (parseMethodDescriptor y.desc).map (fun d => d.parameters.length) = some n) (hR : rm.frames + 1 ≤ R.frames ∧ 8 + (maxL + 11) + rm.locals ≤ R.locals) :
    vx_CSW R s args own index y bytes maxL ret hh ws rm mc ms n := by
  have ok : ∀ w ∈ va_wsS own index y ws, w.before args s = true := fun w h => ht w (hT w h).1
  have hG : GoodIn Ts ws := fun w h => hT w (by unfold va_wsS; exact List.mem_append_right _ h)
  have hc : Cond.codeWith y bytes maxL ret hh ∈ ws := by rw [hw]; exact List.mem_cons_self
  refine ⟨⟨hrc, hrs, hR.1, hR.2, pay_in ht hG, hc⟩, ht _ (hG _ hc).1, ok _ (by simp [va_wsS]), ⟨hd.1, hd.2.1⟩, fun sig h => ?_, ok _ (by simp [va_wsS]), ok _ (by simp [va_wsS])⟩
  have h2 := hd.2.2
  rw [h] at h2
  exact (Option.some.inj h2).symm
theorem vx_callSW (X : Stand p l e R s m args below meth c T locs cells slots) (hexec : p.tables.exec = Jvm.exec) {own : String} {index : Nat} {y : MethodName} {bytes : ByteArray} {maxL : Nat} {ret : Option FieldType} {hh : List (Nat × Nat × Nat × Nat)}
    (hown : s.vm.findClass own = some m.cls) (hlink : (Cond.methodLink own index y).before args s = true) (hstat : (Cond.static y).before args s = true) (hinit : (Cond.initialized y.cls).before args s = true)
    (hcode : (Cond.codeWith y bytes maxL ret hh).before args s = true) (hy : y.cls ≠ "java/lang/invoke/MethodHandle" ∧ y.cls ≠ "java/lang/invoke/VarHandle")
    {W9 : Nat} {Pre : Pt → Array Value → Prop} {Post : Pt → Array Value → Option Value → Pt → Prop} (hK : Back l R p e below s args y 3 W9 Pre Post)
    {g : JFrame} (hg : g.method = m) (hsize : g.locals.size = c.maxLocals) {argsL rest : List Value} (hlen : ∀ sig, parseMethodDescriptor y.desc = some sig → argsL.length = sig.parameters.length)
    (hstack : g.stack = argsL.reverse ++ rest) (hW : 2 * g.monitorRoom + (rest.map fun v => v.category).sum ≤ W9) (hdg : decode c.code g.pc = .ok (.invokestatic index, 3))
    (hpre : ∀ vm₁, s.WarmedH vm₁ → Pre ⟨T.setVm vm₁, locs, cells, slots⟩ argsL.toArray) :
    ∃ (v : Option Value) (vm₁ : Vm) (B : Pt), s.WarmedH vm₁ ∧ Stand p l e R s m args below meth c B.U B.locs B.cells B.slots ∧ Post ⟨T.setVm vm₁, locs, cells, slots⟩ argsL.toArray v B ∧
      ∀ target, Steps p.tables e below (B.U.setTop { g with pc := g.pc + 3, stack := v.toList ++ rest }) target → Steps p.tables e below (T.setTop g) target := by
  obtain ⟨mk, methM, cM, hnamed, hmethM, -, -, -, -, -, -, hsigM⟩ := Cond.codeWith_spec hcode
  have hstatic : methM.isStatic = true := Cond.static_spec hnamed hmethM hstat
  obtain ⟨kP, hkP, -⟩ := className_of_methodNamed hnamed
  have hinitP : kP.init = .initialized := Cond.initialized_spec (findClass_of_methodNamed hnamed) hkP hinit
  obtain ⟨vm₁, X₁, hstep₁⟩ := X.invokestatic hexec hown hlink hnamed hmethM hstatic hkP hinitP hy (g := g) hg (argsL := argsL) (rest := rest) (hlen _ hsigM) hstack hdg
  obtain ⟨v, B, X', hpost, hsteps⟩ := hK m meth c ⟨T.setVm vm₁, locs, cells, slots⟩ { g with stack := rest } (.invokestatic index) mk argsL.toArray X₁ hg hsize hdg hW (X₁.named hnamed) (hpre vm₁ X₁.warmed)
  exact ⟨v, vm₁, B, X₁.warmed, X', hpost, fun target h => hstep₁ _ fun acts => by rw [doInvoke_state]; exact hsteps.trans h⟩
theorem vx_runSW {y : MethodName} {bytes cc : ByteArray} {maxL nL mc ms n index : Nat} {ret : Option FieldType} {hh : List (Nat × Nat × Nat × Nat)} {ws : List Cond} {rm : Room} {Pc : Array Value → State → Prop} {Qc : Array Value → State → Outcome → State → Prop} {free : Addr → Prop} {Ts : List Cond} {own : String} {As rest : List Value} {g : JFrame}
    (S : CallFix p m c cc nL s args Ts own) (hM : Met l y ws rm Pc Qc mc ms free) (cw : vx_CSW R s args own index y bytes maxL ret hh ws rm mc ms n) (hp : PreS s H Pc As)
    (hg : g.method = m) (hn : As.length = n) (hsize : g.locals.size = nL) (hstack : g.stack = As.reverse ++ rest) (hW : 2 * g.monitorRoom + (rest.map fun v => v.category).sum ≤ 8) (hdg : decode cc g.pc = .ok (.invokestatic index, 3)) (hf : cells + mc ≤ R.cells ∧ slots + ms ≤ R.slots) :
    va_Run p l e R s m args below meth c H locs cells slots mc ms g rest (Qc As.toArray) (free) := by
  obtain ⟨⟨hrc, hrs, hfr, hlo, hws, hcw⟩, hcode, hini, hy, hlen, hl, hstt⟩ := cw
  have hK : Back l R p e below s args y 3 8 (PreOf R mc ms Pc) (PostOf Qc mc ms free) := va_backW (hh := hh) (bytes := bytes) (maxL := maxL) (ret := ret) hM hp.1 hrc hrs hfr hlo hws hcw (fun a' U hW => word_at hW (Or.inl (by first | rfl | simp [Cond.onTables, Cond.keeps, Cond.steady])) hini)
  obtain ⟨hx, hb, hml, ho, -⟩ := S
  intro T hT X
  obtain ⟨v, vm₁, ⟨U', l2, c2, s2⟩, hW₁, X', ⟨g', mk, t, L, e1, e2, hq, h1, hL, h2, h3⟩, st⟩ := vx_callSW X hx (hh := hh) (bytes := bytes) (maxL := maxL) (ret := ret) ho hl hstt hini hcode hy hK hg (hsize.trans hml.symm) (argsL := As) (rest := rest) (fun sig h => hn.trans (hlen sig h)) hstack hW (by rw [hb]; exact hdg)
    (fun vm₁ hW₁ => ⟨hf.1, hf.2, hp.2 (T.setVm vm₁) hT hW₁⟩)
  dsimp only [Pt.U, Pt.locs, Pt.cells, Pt.slots] at X' e1 e2 h1 h2 h3 st
  subst h1; subst h2; subst h3
  exact ⟨v, (T.setVm vm₁).calling g' mk As.toArray, t, U', L, hT, X', hL, e1, e2, hq, st⟩
/-- not caught here, past rows that name other classes: it goes on to the caller -/
theorem vx_outP {p : Program} {l : Launch} {e : Env} {R : Room} {s : State} {m : MethodId} {args : Array Value} {below : List Frame} {meth : Method} {c : Code} {H : Heap} {locs : List Loc} {cells slots : Nat} {free : Addr → Prop} {ls : Array Slot} {rest : List Value} {Qc : Array Value → State → Outcome → State → Prop} {XC : String → State → State → Prop}
    {pc : Nat} {own E : String} {ce : Cell} {q : Addr} {mc ms : Nat} (hown : s.vm.findClass own = some m.cls) (hlocks : meth.locks = false)
    (hpass : ∀ z ∈ c.exceptionTable.toList, covers z pc = false ∨ (z.catchType ≠ 0 ∧ ∃ nm : String, (Cond.classLink own z.catchType nm).before args s = true ∧ va_Nc E nm s)) (hcell : H[q]? = some ce) (hv : ce.vm = .none) (hcl : s.vm.findClass E = some ce.cls)
    (hx : ∀ t : State, t.heap = H → s.vm.Alike t.vm → XC E s t) (hf : ∀ z ∈ locs, free z.base) (hc : cells ≤ mc) (hs : slots ≤ ms) :
    vx_W p l e R s m args below meth c H locs cells slots (vx_MQ below Qc XC args s mc ms free) (F0 m pc ls rest) q := by
  intro T hT X
  have hpl : e.platform.magicAccessors = ({} : Platform).magicAccessors := by rw [X.admits.platform]
  obtain ⟨vm', hW', X', st⟩ := X.outThrough hlocks q (g := F0 m pc ls rest) rfl rfl rfl (cell := ce) (by rw [hT]; exact hcell) (by rw [hv]; rfl)
    (by obtain ⟨k9, h9, -⟩ := Vm.findClass_spec hcl; exact ⟨k9, h9⟩) (fun z hz => by
      rcases hpass z hz with h | ⟨hz0, nm, hl1, hn1⟩
      · exact Or.inl h
      · obtain ⟨c6, hc6, hcl6⟩ := Cond.classLink_spec hown hl1 e.platform hpl
        obtain ⟨a8, b8, h1, h2, h3⟩ := hn1
        cases Option.some.inj (h1.symm.trans hcl)
        cases Option.some.inj (h2.symm.trans hc6)
        exact Or.inr ⟨hz0, _, hcl6, h3⟩)
  obtain ⟨g₀, hfr⟩ := X'.frames_eq
  have hcell9 : ((T.setVm vm').setFrames (.throwing q :: below)).heap[q]? = some ce := by
    show T.heap[q]? = some ce
    rw [hT]; exact hcell
  have hend : Ended ((T.setVm vm').setFrames (.throwing q :: below)) below (.threw q) := State.frames_setFrames _ (State.cur_lt_of_frames hfr)
  refine ⟨(T.setVm vm').setFrames (.throwing q :: below), ?_, .threw q, X'.here.running, hend, Or.inr ⟨q, rfl, E, ce, locs, hx _ hT (X'.ends _).1.alike, hcell9, hv, hcl, (X'.ends _).1, (X'.ends _).2.mono hc hs, hf⟩⟩
  rw [X.pushThrowing_eq]
  exact st
/-- a thing of a world lies in the heap -/
theorem vx_lt {D : va_G} {cl : List vw_C} {ws : va_W} {H1 : Heap} (h : va_P D cl ws H1) {k : Nat} {q : Nat × va_E} (hk : ws[k]? = some q) : q.1 < H1.size := (h k q hk).lt
end VXS
/-! ===== END ===== -/
/-! ===== BEGIN methods with a table of their own: called by a name, returning or throwing ===== -/
section VXH
/-! vx_backW, vx_callVX, vx_callSX, vx_callVW, vx_runVW, vx_runVX, vx_runSX, vx_ofWH follow the same proofs as their sisters above (Free/Laws.lean, Shelf42/LK1.lean); vx_outP calls Shelf42/NT130.lean (outThrough). -/
section
variable {l : Launch} {R : Room} {p : Program} {e : Env} {below : List Frame} {s : State} {sargs : Array Value} {y : MethodName} {len W9 : Nat}
theorem vx_backW {ws : List Cond} {rm : Room} {Pc : Array Value → State → Prop} {Qc : Array Value → State → Outcome → State → Prop} {XC : String → State → State → Prop} {mc ms : Nat} {free : Addr → Prop} {bytes : ByteArray} {maxL : Nat} {ret : Option FieldType} {hh : List (Nat × Nat × Nat × Nat)}
    (hM : vx_Met l y ws rm Pc Qc XC mc ms free) (hblind : FrameBlind Pc) (hrc : rm.cells = mc) (hrs : rm.slots = ms)
    (hframes : rm.frames + 1 ≤ R.frames) (hlocals : W9 + (maxL + 11) + rm.locals ≤ R.locals)
    (hws : ∀ w ∈ ws, ∀ a' U, s.WarmedH U.vm → w.before a' U = true) (hcode : Cond.codeWith y bytes maxL ret hh ∈ ws) (hinit : ∀ a' U, s.WarmedH U.vm → (Cond.initialized y.cls).before a' U = true) :
    vx_Back l R p e below s sargs y len W9 (PreOf R mc ms Pc) (PostOf Qc mc ms free) (vx_Post XC mc ms free) := by
  intro m meth c A g ig mk a X hg hsize hdg hW hn hp
  have h1 : (headSpec ws rm).pre.before a A.U = true := atoms_intro fun w hw => hws w hw _ _ X.warmed
  have h2 : (Cond.codeWith y bytes maxL ret hh).before a A.U = true := hws _ hcode _ _ X.warmed
  have h3 : (Cond.initialized y.cls).before a A.U = true := hinit _ _ X.warmed
  have h4 : A.cells + (headSpec ws rm).room.cells ≤ R.cells := by rw [show (headSpec ws rm).room.cells = mc from hrc]; exact hp.1
  have h5 : A.slots + (headSpec ws rm).room.slots ≤ R.slots := by rw [show (headSpec ws rm).room.slots = ms from hrs]; exact hp.2.1
  have hPc : Pc a (A.U.calling g mk a) := hblind _ _ _ _ hp.2.2
  obtain ⟨U, Ls, c0, s0⟩ := A
  dsimp only [Pt.U, Pt.locs, Pt.cells, Pt.slots] at h1 h2 h3 h4 h5 X hn hPc ⊢
  obtain ⟨m9, methY, cY, hn9, hmY, hcY, -, hlY, -⟩ := Cond.codeWith_spec h2
  cases Option.some.inj (hn9.symm.trans hn)
  obtain ⟨kY, hkY, -⟩ := className_of_methodNamed hn
  have hinitY : kY.init = .initialized := Cond.initialized_spec (findClass_of_methodNamed hn) hkY h3
  have h : At U g.method c below := by rw [hg]; exact X.here
  have hlocals9 : W9 + (maxL + 11) + (headSpec ws rm).room.locals ≤ R.locals := hlocals
  have happ : (headSpec ws rm).appliesLoose y e.platform (U.calling g mk a) = true :=
    Spec.appliesLoose_calling (g := g) h hdg hn hkY hinitY
      (X.room_calling (g := g) (R' := (headSpec ws rm).room) hsize hmY hcY hframes (by rw [hlY]; omega) h4 h5) h1
  obtain ⟨mid, hmid⟩ := h.above
  have hfr : (U.setTop g).frames = (.java g :: mid) ++ below := by rw [State.frames_setTop' g h.top, hmid]; rfl
  obtain ⟨o, s₂, hsteps, -, hend, hq⟩ := Steps.callFree hM p X.admits X.cas X.clock (acts := []) hfr happ hPc trivial
  have hq' : vx_Q Qc XC mc ms free a (U.calling g mk a) o s₂ := hq
  rw [State.frames_setTop' g h.top] at hend
  obtain ⟨g₀, hg0⟩ := Option.isSome_iff_exists.mp h.top
  obtain ⟨r, hr⟩ := State.topJava?_eq_some.mp hg0
  have hr' : (({ U with heap := s₂.heap, slotsUsed := s₂.slotsUsed } : State).setVm s₂.vm).frames = .java g₀ :: r := hr
  rcases hq' with ⟨hqc, L, hfe, hL⟩ | ⟨q, rfl, E, ce, L, hx, hce, hcv, hcl, hW₂, hsm, hL⟩
  · obtain ⟨⟨v, rfl⟩, hW₂, e2, q2, q3, q4, q5, q6⟩ := id hfe
    have e3 : s₂ = ({ (U.calling g mk a).setFrames s₂.frames with heap := s₂.heap, slotsUsed := s₂.slotsUsed } : State).setVm s₂.vm := by
      have : s₂ = ({ s₂ with vm := (U.calling g mk a).vm } : State).setVm s₂.vm := rfl
      rw [e2] at this
      exact this
    obtain ⟨c₂, i₂, len₂, hc₂, hd₂, hf₂⟩ := hend
    have hW' : U.WarmedH s₂.vm := hW₂
    have hcc : c₂ = c := by
      have h1 : s₂.code? g.method = U.code? g.method := by
        rw [State.code?_eq, State.code?_eq, hW'.alike.method?]
      exact Option.some.inj (hc₂.symm.trans (h1.trans h.code))
    subst hcc
    have hlen : len₂ = len := by rw [hdg] at hd₂; cases hd₂; rfl
    subst hlen
    have hs₂ : s₂ = (({ U with heap := s₂.heap, slotsUsed := s₂.slotsUsed } : State).setVm s₂.vm).setTop { g with pc := g.pc + len₂, stack := v.toList ++ g.stack } := by
      refine e3.trans ?_
      rw [hf₂, State.calling_eq h.top, State.setFrames_setFrames, State.setTop_of_frames _ hr', hr]
      rfl
    have hsame : U.sameButNew ({ U with heap := s₂.heap, slotsUsed := s₂.slotsUsed } : State) L mc ms := by
      refine ⟨?_, q2, q3, q4, q5, q6⟩
      obtain ⟨t, ht, -⟩ := State.frames_cons hr
      show ({ U with heap := s₂.heap, slotsUsed := s₂.slotsUsed } : State) = { U.setFrames U.frames with heap := s₂.heap, slotsUsed := s₂.slotsUsed }
      rw [State.setFrames_self ht]
    subst hg
    refine Or.inl ⟨v, ⟨(({ U with heap := s₂.heap, slotsUsed := s₂.slotsUsed } : State).setVm s₂.vm), Ls ++ L, c0 + mc, s0 + ms⟩,
      ⟨X.admits, X.cas, X.clock, X.frames, X.room, X.hears, X.method, X.code, (X.here.setHeapUsed s₂.heap s₂.slotsUsed).setVm hW'.alike, X.tail, State.WarmedH.trans X.warmed hW', X.limits, X.bytes, X.same.trans (hsame.setVm s.vm)⟩,
      ⟨g, mk, s₂, L, rfl, rfl, hqc, rfl, hL, rfl, rfl⟩, ?_⟩
    show Steps p.tables e below _ ((({ U with heap := s₂.heap, slotsUsed := s₂.slotsUsed } : State).setVm s₂.vm).setTop { g with pc := g.pc + len₂, stack := v.toList ++ g.stack })
    rw [← hs₂]
    exact hsteps
  · obtain ⟨e2, q2, q3, q4, q5, q6⟩ := id hsm
    have e3 : s₂ = ({ (U.calling g mk a).setFrames s₂.frames with heap := s₂.heap, slotsUsed := s₂.slotsUsed } : State).setVm s₂.vm := by
      have : s₂ = ({ s₂ with vm := (U.calling g mk a).vm } : State).setVm s₂.vm := rfl
      rw [e2] at this
      exact this
    have hf₂ : s₂.frames = .throwing q :: .java g :: U.frames.tail := hend
    have hW' : U.WarmedH s₂.vm := hW₂
    have hs₂ : s₂ = ((({ U with heap := s₂.heap, slotsUsed := s₂.slotsUsed } : State).setVm s₂.vm).setTop g).pushFrame (.throwing q) := by
      refine e3.trans ?_
      rw [hf₂, State.calling_eq h.top, State.setFrames_setFrames, State.pushFrame, State.frames_setTop _ hr', State.setTop_of_frames _ hr', State.setFrames_setFrames, hr]
      rfl
    have hsame : U.sameButNew ({ U with heap := s₂.heap, slotsUsed := s₂.slotsUsed } : State) L mc ms := by
      refine ⟨?_, q2, q3, q4, q5, q6⟩
      obtain ⟨t, ht, -⟩ := State.frames_cons hr
      show ({ U with heap := s₂.heap, slotsUsed := s₂.slotsUsed } : State) = { U.setFrames U.frames with heap := s₂.heap, slotsUsed := s₂.slotsUsed }
      rw [State.setFrames_self ht]
    subst hg
    refine Or.inr ⟨q, ⟨(({ U with heap := s₂.heap, slotsUsed := s₂.slotsUsed } : State).setVm s₂.vm), Ls ++ L, c0 + mc, s0 + ms⟩,
      ⟨X.admits, X.cas, X.clock, X.frames, X.room, X.hears, X.method, X.code, (X.here.setHeapUsed s₂.heap s₂.slotsUsed).setVm hW'.alike, X.tail, State.WarmedH.trans X.warmed hW', X.limits, X.bytes, X.same.trans (hsame.setVm s.vm)⟩,
      ⟨g, mk, s₂, L, E, ce, rfl, rfl, hx, hce, hcv, hcl, rfl, hL, rfl, rfl⟩, ?_⟩
    show Steps p.tables e below _ (((({ U with heap := s₂.heap, slotsUsed := s₂.slotsUsed } : State).setVm s₂.vm).setTop g).pushFrame (.throwing q))
    rw [← hs₂]
    exact hsteps
end
variable {p : Program} {l : Launch} {e : Env} {R : Room} {s : State} {m : MethodId} {args : Array Value} {below : List Frame} {meth : Method} {c : Code} {T : State} {H : Heap} {locs : List Loc} {cells slots : Nat}
theorem vx_callVX (X : Stand p l e R s m args below meth c T locs cells slots) (hexec : p.tables.exec = Jvm.exec) {own C : String} {index : Nat} {y : MethodName} {bytes : ByteArray} {maxL : Nat} {ret : Option FieldType} {hh : List (Nat × Nat × Nat × Nat)}
    (hown : s.vm.findClass own = some m.cls) (hlink : (Cond.methodLink own index y).before args s = true) (hinst : (Cond.instanceMethod y).before args s = true) (hsel : (Cond.selects C y y).before args s = true)
    (hcode : (Cond.codeWith y bytes maxL ret hh).before args s = true) (hy : y.cls ≠ "java/lang/invoke/MethodHandle" ∧ y.cls ≠ "java/lang/invoke/VarHandle")
    {W9 : Nat} {Pre : Pt → Array Value → Prop} {Post : Pt → Array Value → Option Value → Pt → Prop} {PostX : Pt → Array Value → Addr → Pt → Prop} (hK : vx_Back l R p e below s args y 3 W9 Pre Post PostX)
    {b : Addr} {cellB : Cell} (hcell : T.heap[b]? = some cellB) (hobj : cellB.vm.isStatics = false) (hcls : s.vm.findClass C = some cellB.cls)
    {g : JFrame} (hg : g.method = m) (hsize : g.locals.size = c.maxLocals) {argsL rest : List Value} (hlen : ∀ sig, parseMethodDescriptor y.desc = some sig → argsL.length = sig.parameters.length)
    (hstack : g.stack = argsL.reverse ++ .ref b :: rest) (hW : 2 * g.monitorRoom + (rest.map fun v => v.category).sum ≤ W9) (hdg : decode c.code g.pc = .ok (.invokevirtual index, 3))
    (hpre : ∀ vm₁, s.WarmedH vm₁ → Pre ⟨T.setVm vm₁, locs, cells, slots⟩ (Value.ref b :: argsL).toArray) :
    (∃ (v : Option Value) (vm₁ : Vm) (B : Pt), s.WarmedH vm₁ ∧ Stand p l e R s m args below meth c B.U B.locs B.cells B.slots ∧ Post ⟨T.setVm vm₁, locs, cells, slots⟩ (Value.ref b :: argsL).toArray v B ∧
      ∀ target, Steps p.tables e below (B.U.setTop { g with pc := g.pc + 3, stack := v.toList ++ rest }) target → Steps p.tables e below (T.setTop g) target) ∨
    (∃ (q : Addr) (vm₁ : Vm) (B : Pt), s.WarmedH vm₁ ∧ Stand p l e R s m args below meth c B.U B.locs B.cells B.slots ∧ PostX ⟨T.setVm vm₁, locs, cells, slots⟩ (Value.ref b :: argsL).toArray q B ∧
      Steps p.tables e below (T.setTop g) ((B.U.setTop { g with stack := rest }).pushFrame (.throwing q))) := by
  obtain ⟨mk, methM, hnamed, hmethM, hstM, habM⟩ := Cond.instanceMethod_spec hinst
  obtain ⟨m8, methM', cM, hn8, hmethM', -, -, -, -, -, -, hsigM⟩ := Cond.codeWith_spec hcode
  cases Option.some.inj (hn8.symm.trans hnamed)
  cases hmethM.symm.trans hmethM'
  obtain ⟨c2, r2, m2, q1, q2, q3, q4, kP, hkP, hkPi⟩ := Cond.selects_spec hsel
  cases hcls.symm.trans q1
  cases (State.methodFound?_of_named hnamed hy).symm.trans q2
  cases hnamed.symm.trans q3
  have hselP : selectMethod e.platform s.vm cellB.cls mk = .method mk := by rw [Launch.admits_selectMethod X.admits]; exact q4
  obtain ⟨vm₁, X₁, hstep₁⟩ := X.invokevirtual hexec hown hlink hnamed hmethM hstM hkP hkPi hy (a := b) (cell := cellB) hcell
    (fun z h => by rw [h] at hobj; cases hobj) hselP hmethM habM hkP hkPi (g := g) hg (argsL := argsL) (rest := rest) (hlen _ hsigM) hstack hdg
  rcases hK m meth c ⟨T.setVm vm₁, locs, cells, slots⟩ { g with stack := rest } (.invokevirtual index) mk (Value.ref b :: argsL).toArray X₁ hg hsize hdg hW (X₁.named hnamed) (hpre vm₁ X₁.warmed) with ⟨v, B, X', hpost, hsteps⟩ | ⟨q, B, X', hpost, hsteps⟩
  · exact Or.inl ⟨v, vm₁, B, X₁.warmed, X', hpost, fun target h => hstep₁ _ fun acts => by rw [doInvoke_state]; exact hsteps.trans h⟩
  · exact Or.inr ⟨q, vm₁, B, X₁.warmed, X', hpost, hstep₁ _ fun acts => by rw [doInvoke_state]; exact hsteps⟩
theorem vx_callSX (X : Stand p l e R s m args below meth c T locs cells slots) (hexec : p.tables.exec = Jvm.exec) {own : String} {index : Nat} {y : MethodName} {bytes : ByteArray} {maxL : Nat} {ret : Option FieldType} {hh : List (Nat × Nat × Nat × Nat)}
    (hown : s.vm.findClass own = some m.cls) (hlink : (Cond.methodLink own index y).before args s = true) (hstat : (Cond.static y).before args s = true) (hinit : (Cond.initialized y.cls).before args s = true)
    (hcode : (Cond.codeWith y bytes maxL ret hh).before args s = true) (hy : y.cls ≠ "java/lang/invoke/MethodHandle" ∧ y.cls ≠ "java/lang/invoke/VarHandle")
    {W9 : Nat} {Pre : Pt → Array Value → Prop} {Post : Pt → Array Value → Option Value → Pt → Prop} {PostX : Pt → Array Value → Addr → Pt → Prop} (hK : vx_Back l R p e below s args y 3 W9 Pre Post PostX)
    {g : JFrame} (hg : g.method = m) (hsize : g.locals.size = c.maxLocals) {argsL rest : List Value} (hlen : ∀ sig, parseMethodDescriptor y.desc = some sig → argsL.length = sig.parameters.length)
    (hstack : g.stack = argsL.reverse ++ rest) (hW : 2 * g.monitorRoom + (rest.map fun v => v.category).sum ≤ W9) (hdg : decode c.code g.pc = .ok (.invokestatic index, 3))
    (hpre : ∀ vm₁, s.WarmedH vm₁ → Pre ⟨T.setVm vm₁, locs, cells, slots⟩ argsL.toArray) :
    (∃ (v : Option Value) (vm₁ : Vm) (B : Pt), s.WarmedH vm₁ ∧ Stand p l e R s m args below meth c B.U B.locs B.cells B.slots ∧ Post ⟨T.setVm vm₁, locs, cells, slots⟩ argsL.toArray v B ∧
      ∀ target, Steps p.tables e below (B.U.setTop { g with pc := g.pc + 3, stack := v.toList ++ rest }) target → Steps p.tables e below (T.setTop g) target) ∨
    (∃ (q : Addr) (vm₁ : Vm) (B : Pt), s.WarmedH vm₁ ∧ Stand p l e R s m args below meth c B.U B.locs B.cells B.slots ∧ PostX ⟨T.setVm vm₁, locs, cells, slots⟩ argsL.toArray q B ∧
      Steps p.tables e below (T.setTop g) ((B.U.setTop { g with stack := rest }).pushFrame (.throwing q))) := by
  obtain ⟨mk, methM, cM, hnamed, hmethM, -, -, -, -, -, -, hsigM⟩ := Cond.codeWith_spec hcode
  have hstatic : methM.isStatic = true := Cond.static_spec hnamed hmethM hstat
  obtain ⟨kP, hkP, -⟩ := className_of_methodNamed hnamed
  have hinitP : kP.init = .initialized := Cond.initialized_spec (findClass_of_methodNamed hnamed) hkP hinit
  obtain ⟨vm₁, X₁, hstep₁⟩ := X.invokestatic hexec hown hlink hnamed hmethM hstatic hkP hinitP hy (g := g) hg (argsL := argsL) (rest := rest) (hlen _ hsigM) hstack hdg
  rcases hK m meth c ⟨T.setVm vm₁, locs, cells, slots⟩ { g with stack := rest } (.invokestatic index) mk argsL.toArray X₁ hg hsize hdg hW (X₁.named hnamed) (hpre vm₁ X₁.warmed) with ⟨v, B, X', hpost, hsteps⟩ | ⟨q, B, X', hpost, hsteps⟩
  · exact Or.inl ⟨v, vm₁, B, X₁.warmed, X', hpost, fun target h => hstep₁ _ fun acts => by rw [doInvoke_state]; exact hsteps.trans h⟩
  · exact Or.inr ⟨q, vm₁, B, X₁.warmed, X', hpost, hstep₁ _ fun acts => by rw [doInvoke_state]; exact hsteps⟩
theorem vx_callVW (X : Stand p l e R s m args below meth c T locs cells slots) (hexec : p.tables.exec = Jvm.exec) {own C : String} {index : Nat} {y : MethodName} {bytes : ByteArray} {maxL : Nat} {ret : Option FieldType} {hh : List (Nat × Nat × Nat × Nat)}
    (hown : s.vm.findClass own = some m.cls) (hlink : (Cond.methodLink own index y).before args s = true) (hinst : (Cond.instanceMethod y).before args s = true) (hsel : (Cond.selects C y y).before args s = true)
    (hcode : (Cond.codeWith y bytes maxL ret hh).before args s = true) (hy : y.cls ≠ "java/lang/invoke/MethodHandle" ∧ y.cls ≠ "java/lang/invoke/VarHandle")
    {W9 : Nat} {Pre : Pt → Array Value → Prop} {Post : Pt → Array Value → Option Value → Pt → Prop} (hK : Back l R p e below s args y 3 W9 Pre Post)
    {b : Addr} {cellB : Cell} (hcell : T.heap[b]? = some cellB) (hobj : cellB.vm.isStatics = false) (hcls : s.vm.findClass C = some cellB.cls)
    {g : JFrame} (hg : g.method = m) (hsize : g.locals.size = c.maxLocals) {argsL rest : List Value} (hlen : ∀ sig, parseMethodDescriptor y.desc = some sig → argsL.length = sig.parameters.length)
    (hstack : g.stack = argsL.reverse ++ .ref b :: rest) (hW : 2 * g.monitorRoom + (rest.map fun v => v.category).sum ≤ W9) (hdg : decode c.code g.pc = .ok (.invokevirtual index, 3))
    (hpre : ∀ vm₁, s.WarmedH vm₁ → Pre ⟨T.setVm vm₁, locs, cells, slots⟩ (Value.ref b :: argsL).toArray) :
    ∃ (v : Option Value) (vm₁ : Vm) (B : Pt), s.WarmedH vm₁ ∧ Stand p l e R s m args below meth c B.U B.locs B.cells B.slots ∧ Post ⟨T.setVm vm₁, locs, cells, slots⟩ (Value.ref b :: argsL).toArray v B ∧
      ∀ target, Steps p.tables e below (B.U.setTop { g with pc := g.pc + 3, stack := v.toList ++ rest }) target → Steps p.tables e below (T.setTop g) target := by
  obtain ⟨mk, methM, hnamed, hmethM, hstM, habM⟩ := Cond.instanceMethod_spec hinst
  obtain ⟨m8, methM', cM, hn8, hmethM', -, -, -, -, -, -, hsigM⟩ := Cond.codeWith_spec hcode
  cases Option.some.inj (hn8.symm.trans hnamed)
  cases hmethM.symm.trans hmethM'
  obtain ⟨c2, r2, m2, q1, q2, q3, q4, kP, hkP, hkPi⟩ := Cond.selects_spec hsel
  cases hcls.symm.trans q1
  cases (State.methodFound?_of_named hnamed hy).symm.trans q2
  cases hnamed.symm.trans q3
  have hselP : selectMethod e.platform s.vm cellB.cls mk = .method mk := by rw [Launch.admits_selectMethod X.admits]; exact q4
  obtain ⟨vm₁, X₁, hstep₁⟩ := X.invokevirtual hexec hown hlink hnamed hmethM hstM hkP hkPi hy (a := b) (cell := cellB) hcell
    (fun z h => by rw [h] at hobj; cases hobj) hselP hmethM habM hkP hkPi (g := g) hg (argsL := argsL) (rest := rest) (hlen _ hsigM) hstack hdg
  obtain ⟨v, B, X', hpost, hsteps⟩ := hK m meth c ⟨T.setVm vm₁, locs, cells, slots⟩ { g with stack := rest } (.invokevirtual index) mk (Value.ref b :: argsL).toArray X₁ hg hsize hdg hW (X₁.named hnamed) (hpre vm₁ X₁.warmed)
  exact ⟨v, vm₁, B, X₁.warmed, X', hpost, fun target h => hstep₁ _ fun acts => by rw [doInvoke_state]; exact hsteps.trans h⟩
abbrev vx_CVW (R : Room) (s : State) (args : Array Value) (own C : String) (index : Nat) (y : MethodName) (bytes : ByteArray) (maxL : Nat) (ret : Option FieldType) (hh : List (Nat × Nat × Nat × Nat)) (ws : List Cond) (rm : Room) (mc ms n : Nat) : Prop :=
  (rm.cells = mc ∧ rm.slots = ms ∧ rm.frames + 1 ≤ R.frames ∧ 8 + (maxL + 11) + rm.locals ≤ R.locals ∧ (∀ w ∈ ws, ∀ (a' : Array Value) (U : State), s.WarmedH U.vm → w.before a' U = true) ∧ Cond.codeWith y bytes maxL ret hh ∈ ws) ∧
  (Cond.codeWith y bytes maxL ret hh).before args s = true ∧ (Cond.initialized y.cls).before args s = true ∧ (y.cls ≠ "java/lang/invoke/MethodHandle" ∧ y.cls ≠ "java/lang/invoke/VarHandle") ∧
  (∀ sig, parseMethodDescriptor y.desc = some sig → n = sig.parameters.length) ∧ (Cond.methodLink own index y).before args s = true ∧ (Cond.instanceMethod y).before args s = true ∧ (Cond.selects C y y).before args s = true
theorem vx_cwVW {own C : String} {index maxL mc ms : Nat} {y : MethodName} {bytes : ByteArray} {ret : Option FieldType} {hh : List (Nat × Nat × Nat × Nat)} {Ts ws ws' : List Cond} {rm : Room} (n : Nat) (ht : ∀ w ∈ Ts, w.before args s = true) (hT : GoodIn Ts (wsV own index C y ws)) (hw : ws = Cond.codeWith y bytes maxL ret hh :: ws') (hrc : rm.cells = mc) (hrs : rm.slots = ms)
    (hd : y.cls = C ∧ y.cls ≠ "java/lang/invoke/MethodHandle" ∧ y.cls ≠ "java/lang/invoke/VarHandle" ∧ (parseMethodDescriptor y.desc).map (fun d => d.parameters.length) = some n) (hR : rm.frames + 1 ≤ R.frames ∧ 8 + (maxL + 11) + rm.locals ≤ R.locals) :
    vx_CVW R s args own C index y bytes maxL ret hh ws rm mc ms n := by
  obtain ⟨hC, hd⟩ := hd
  subst hC
  have ok : ∀ w ∈ wsV own index y.cls y ws, w.before args s = true := fun w h => ht w (hT w h).1
  have hG : GoodIn Ts ws := fun w h => hT w (by unfold wsV; exact List.mem_append_right _ h)
  have hc : Cond.codeWith y bytes maxL ret hh ∈ ws := by rw [hw]; exact List.mem_cons_self
  refine ⟨⟨hrc, hrs, hR.1, hR.2, pay_in ht hG, hc⟩, ht _ (hG _ hc).1, ok _ (by simp [wsV]), ⟨hd.1, hd.2.1⟩, fun sig h => ?_, ok _ (by simp [wsV]), ok _ (by simp [wsV]), ok _ (by simp [wsV])⟩
  have h2 := hd.2.2
  rw [h] at h2
  exact (Option.some.inj h2).symm
theorem vx_runVW {y : MethodName} {bytes cc : ByteArray} {maxL nL mc ms n index : Nat} {ret : Option FieldType} {hh : List (Nat × Nat × Nat × Nat)} {ws : List Cond} {rm : Room} {Pc : Array Value → State → Prop} {Qc : Array Value → State → Outcome → State → Prop} {free : Addr → Prop} {Ts : List Cond} {own C : String} {b : Addr} {As rest : List Value} {g : JFrame}
    (S : CallFix p m c cc nL s args Ts own) (hM : Met l y ws rm Pc Qc mc ms free) (cw : vx_CVW R s args own C index y bytes maxL ret hh ws rm mc ms n) (hp : PreV s H C b Pc As)
    (hg : g.method = m) (hn : As.length = n) (hsize : g.locals.size = nL) (hstack : g.stack = As.reverse ++ .ref b :: rest) (hW : 2 * g.monitorRoom + (rest.map fun v => v.category).sum ≤ 8) (hdg : decode cc g.pc = .ok (.invokevirtual index, 3)) (hf : cells + mc ≤ R.cells ∧ slots + ms ≤ R.slots) :
    va_Run p l e R s m args below meth c H locs cells slots mc ms g rest (Qc (Value.ref b :: As).toArray) free := by
  obtain ⟨⟨hrc, hrs, hfr, hlo, hws, hcw⟩, hcode, hini, hy, hlen, hl, hin, hse⟩ := cw
  have hK : Back l R p e below s args y 3 8 (PreOf R mc ms Pc) (PostOf Qc mc ms free) := va_backW (hh := hh) (bytes := bytes) (maxL := maxL) (ret := ret) hM hp.1 hrc hrs hfr hlo hws hcw (fun a' U hW => word_at hW (Or.inl (by first | rfl | simp [Cond.onTables, Cond.keeps, Cond.steady])) hini)
  obtain ⟨hx, hb, hml, ho, -⟩ := S
  obtain ⟨-, ⟨cellB, hcB, hoB, hclB⟩, hPc⟩ := hp
  intro T hT X
  obtain ⟨v, vm₁, ⟨U', l2, c2, s2⟩, hW₁, X', ⟨g', mk, t, L, e1, e2, hq, h1, hL, h2, h3⟩, st⟩ := vx_callVW X hx (C := C) (hh := hh) (bytes := bytes) (maxL := maxL) (ret := ret) ho hl hin hse hcode hy hK (by rw [hT]; exact hcB) hoB hclB hg (hsize.trans hml.symm) (argsL := As) (rest := rest) (fun sig h => hn.trans (hlen sig h)) hstack hW (by rw [hb]; exact hdg)
    (fun vm₁ hW₁ => ⟨hf.1, hf.2, hPc (T.setVm vm₁) hT hW₁⟩)
  dsimp only [Pt.U, Pt.locs, Pt.cells, Pt.slots] at X' e1 e2 h1 h2 h3 st
  subst h1; subst h2; subst h3
  exact ⟨v, (T.setVm vm₁).calling g' mk (Value.ref b :: As).toArray, t, U', L, hT, X', hL, e1, e2, hq, st⟩
section
variable {y : MethodName} {bytes cc : ByteArray} {maxL nL mc ms n index : Nat} {ret : Option FieldType} {ws : List Cond} {rm : Room} {Pc : Array Value → State → Prop} {Qc : Array Value → State → Outcome → State → Prop} {XC : String → State → State → Prop} {free : Addr → Prop} {Ts : List Cond} {own C : String} {b : Addr} {As rest : List Value} {g : JFrame}
theorem vx_runVX {hh : List (Nat × Nat × Nat × Nat)} (S : CallFix p m c cc nL s args Ts own) (hM : vx_Met l y ws rm Pc Qc XC mc ms free) (cw : vx_CVW R s args own C index y bytes maxL ret hh ws rm mc ms n) (hp : PreV s H C b Pc As)
    (hg : g.method = m) (hn : As.length = n) (hsize : g.locals.size = nL) (hstack : g.stack = As.reverse ++ .ref b :: rest) (hW : 2 * g.monitorRoom + (rest.map fun v => v.category).sum ≤ 8) (hdg : decode cc g.pc = .ok (.invokevirtual index, 3)) (hf : cells + mc ≤ R.cells ∧ slots + ms ≤ R.slots) :
    vx_Run p l e R s m args below meth c H locs cells slots mc ms g rest (Qc (Value.ref b :: As).toArray) XC free := by
  obtain ⟨⟨hrc, hrs, hfr, hlo, hws, hcw⟩, hcode, hini, hy, hlen, hl, hin, hse⟩ := cw
  have hK : vx_Back l R p e below s args y 3 8 (PreOf R mc ms Pc) (PostOf Qc mc ms free) (vx_Post XC mc ms free) := vx_backW (hh := hh) (bytes := bytes) (maxL := maxL) (ret := ret) hM hp.1 hrc hrs hfr hlo hws hcw (fun a' U hW => word_at hW (Or.inl (by first | rfl | simp [Cond.onTables, Cond.keeps, Cond.steady])) hini)
  obtain ⟨hx, hb, hml, ho, -⟩ := S
  obtain ⟨-, ⟨cellB, hcB, hoB, hclB⟩, hPc⟩ := hp
  intro T hT X
  rcases vx_callVX X hx (C := C) (hh := hh) (bytes := bytes) (maxL := maxL) (ret := ret) ho hl hin hse hcode hy hK (by rw [hT]; exact hcB) hoB hclB hg (hsize.trans hml.symm) (argsL := As) (rest := rest) (fun sig h => hn.trans (hlen sig h)) hstack hW (by rw [hb]; exact hdg)
    (fun vm₁ hW₁ => ⟨hf.1, hf.2, hPc (T.setVm vm₁) hT hW₁⟩) with ⟨v, vm₁, ⟨U', l2, c2, s2⟩, hW₁, X', ⟨g', mk, t, L, e1, e2, hq, h1, hL, h2, h3⟩, st⟩ | ⟨q, vm₁, ⟨U', l2, c2, s2⟩, hW₁, X', ⟨g', mk, t, L, E, ce, e1, e2, hq, hce, hcv, hcl, h1, hL, h2, h3⟩, st⟩
  · dsimp only [Pt.U, Pt.locs, Pt.cells, Pt.slots] at X' e1 e2 h1 h2 h3 st
    subst h1; subst h2; subst h3
    exact Or.inl ⟨v, (T.setVm vm₁).calling g' mk (Value.ref b :: As).toArray, t, U', L, hT, X', hL, e1, e2, hq, st⟩
  · dsimp only [Pt.U, Pt.locs, Pt.cells, Pt.slots] at X' e1 e2 h1 h2 h3 st hcl
    subst h1; subst h2; subst h3
    exact Or.inr ⟨q, (T.setVm vm₁).calling g' mk (Value.ref b :: As).toArray, t, U', L, E, ce, hT, X', hL, e1, e2, hq, hce, hcv, vx_cls hW₁ hcl, st⟩
theorem vx_runSX {hh : List (Nat × Nat × Nat × Nat)} (S : CallFix p m c cc nL s args Ts own) (hM : vx_Met l y ws rm Pc Qc XC mc ms free) (cw : vx_CSW R s args own index y bytes maxL ret hh ws rm mc ms n) (hp : PreS s H Pc As)
    (hg : g.method = m) (hn : As.length = n) (hsize : g.locals.size = nL) (hstack : g.stack = As.reverse ++ rest) (hW : 2 * g.monitorRoom + (rest.map fun v => v.category).sum ≤ 8) (hdg : decode cc g.pc = .ok (.invokestatic index, 3)) (hf : cells + mc ≤ R.cells ∧ slots + ms ≤ R.slots) :
    vx_Run p l e R s m args below meth c H locs cells slots mc ms g rest (Qc As.toArray) XC free := by
  obtain ⟨⟨hrc, hrs, hfr, hlo, hws, hcw⟩, hcode, hini, hy, hlen, hl, hstt⟩ := cw
  have hK : vx_Back l R p e below s args y 3 8 (PreOf R mc ms Pc) (PostOf Qc mc ms free) (vx_Post XC mc ms free) := vx_backW (hh := hh) (bytes := bytes) (maxL := maxL) (ret := ret) hM hp.1 hrc hrs hfr hlo hws hcw (fun a' U hW => word_at hW (Or.inl (by first | rfl | simp [Cond.onTables, Cond.keeps, Cond.steady])) hini)
  obtain ⟨hx, hb, hml, ho, -⟩ := S
  intro T hT X
  rcases vx_callSX X hx (hh := hh) (bytes := bytes) (maxL := maxL) (ret := ret) ho hl hstt hini hcode hy hK hg (hsize.trans hml.symm) (argsL := As) (rest := rest) (fun sig h => hn.trans (hlen sig h)) hstack hW (by rw [hb]; exact hdg)
    (fun vm₁ hW₁ => ⟨hf.1, hf.2, hp.2 (T.setVm vm₁) hT hW₁⟩) with ⟨v, vm₁, ⟨U', l2, c2, s2⟩, hW₁, X', ⟨g', mk, t, L, e1, e2, hq, h1, hL, h2, h3⟩, st⟩ | ⟨q, vm₁, ⟨U', l2, c2, s2⟩, hW₁, X', ⟨g', mk, t, L, E, ce, e1, e2, hq, hce, hcv, hcl, h1, hL, h2, h3⟩, st⟩
  · dsimp only [Pt.U, Pt.locs, Pt.cells, Pt.slots] at X' e1 e2 h1 h2 h3 st
    subst h1; subst h2; subst h3
    exact Or.inl ⟨v, (T.setVm vm₁).calling g' mk As.toArray, t, U', L, hT, X', hL, e1, e2, hq, st⟩
  · dsimp only [Pt.U, Pt.locs, Pt.cells, Pt.slots] at X' e1 e2 h1 h2 h3 st hcl
    subst h1; subst h2; subst h3
    exact Or.inr ⟨q, (T.setVm vm₁).calling g' mk As.toArray, t, U', L, E, ce, hT, X', hL, e1, e2, hq, hce, hcv, vx_cls hW₁ hcl, st⟩
end
end VXH
theorem vx_ofWH {l : Launch} {y : MethodName} {ws ws' : List Cond} {rm : Room} {Pc : Array Value → State → Prop} {Qc : Array Value → State → Outcome → State → Prop} {XC : String → State → State → Prop} {mc ms : Nat} {free : Addr → Prop} {cc : ByteArray} {maxL : Nat} {ret : Option FieldType} {hh : List (Nat × Nat × Nat × Nat)}
    (hy : plainName y.cls = true) (hw : ws = Cond.codeWith y cc maxL ret hh :: ws')
    (body : ∀ p e s m args below meth c s₁, BodyLoose p l y (headSpec ws rm) cc maxL ret e s m args below meth c s₁ → c.maxLocals = maxL → Pc args s →
      W p l e (headSpec ws rm).room s m args below meth c s.heap [] 0 0 (vx_MQ below Qc XC args s mc ms free) (entryFrame m args maxL)) : vx_Met l y ws rm Pc Qc XC mc ms free := by
  refine MetFree.of_bodyS (code := cc) (maxLocals := maxL) (ret := ret) hy ?_ ?_
  · intro args s m h hn
    obtain ⟨m9, meth, c, hn9, h1, h2, h3, h4, -, h5, h6, -⟩ := Cond.codeWith_spec (atoms_spec (ws := ws) h _ (by rw [hw]; exact List.mem_cons_self))
    cases hn.symm.trans hn9
    exact ⟨meth, c, h1, h2, h3, h4, h5, h6⟩
  · intro p e s m args below meth c s₁ B hml hP _
    have hh0 : s₁.heap = s.heap := by rw [B.state]; rfl
    obtain ⟨t, a1, o, b1, b2, b3⟩ := body p e s m args below meth c s₁ B hml hP s₁ hh0 (Stand.of_body B)
    exact ⟨t, o, a1, b1, b2, b3⟩
/-! ===== END ===== -/
end
section
/-! MAPS OF CELLS: a world is a map M from addresses to cells. -/
abbrev hb_M : Type := Nat → Option va_E
def hb_P (D : va_G) (cl : List vw_C) (M : hb_M) (H : Heap) : Prop := ∀ (a : Nat) (e : va_E), M a = some e → va_at D cl (a, e) H
def hb_D (A : Nat → Prop) (M : hb_M) : Prop := ∀ (a : Nat) (e : va_E), M a = some e → A a
def hb_A (M : hb_M) (sz : Nat) : Nat → Prop := fun q => M q ≠ none ∨ sz ≤ q
def hb_up (M : hb_M) (a : Nat) (e : va_E) : hb_M := fun b => if b = a then some e else M b
theorem hb_up_self {M : hb_M} {a : Nat} {e : va_E} : hb_up M a e a = some e := by simp [hb_up]
theorem hb_up_ne {M : hb_M} {a b : Nat} {e : va_E} (h : b ≠ a) : hb_up M a e b = M b := by simp [hb_up, h]
theorem hb_up_idem {M : hb_M} {a : Nat} {e e' : va_E} : hb_up (hb_up M a e) a e' = hb_up M a e' := by
  funext b; by_cases h : b = a <;> simp [hb_up, h]
theorem hb_up_same {M : hb_M} {a : Nat} {e : va_E} (h : M a = some e) : hb_up M a e = M := by
  funext b; by_cases hb : b = a <;> simp [hb_up, hb, h]
theorem hb_up_comm {M : hb_M} {a b : Nat} {e f : va_E} (h : a ≠ b) : hb_up (hb_up M a e) b f = hb_up (hb_up M b f) a e := by
  funext c
  by_cases h1 : c = a
  · subst h1; simp [hb_up, h]
  · by_cases h2 : c = b
    · subst h2; simp [hb_up, h1]
    · simp [hb_up, h1, h2]
theorem hb_P.lt {D : va_G} {cl : List vw_C} {M : hb_M} {H : Heap} (h : hb_P D cl M H) {a : Nat} {e : va_E} (ha : M a = some e) : a < H.size := (h a e ha).lt
theorem hb_P.kept {D : va_G} {cl : List vw_C} {M : hb_M} {H H1 : Heap} (h : hb_P D cl M H) (hk : ∀ (a : Nat) (e : va_E), M a = some e → H1[a]? = H[a]?) : hb_P D cl M H1 := fun a e ha => (h a e ha).kept (hk a e ha)
theorem hb_P.one {D : va_G} {cl : List vw_C} {M : hb_M} {H : Heap} (h : hb_P D cl M H) {a : Nat} {e : va_E} (ha : M a = some e) : va_P D cl [(a, e)] H := by
  intro k q hk
  match k, hk with
  | 0, hk => cases hk; exact h a e ha
  | k + 1, hk => simp at hk
theorem hb_P.two {D : va_G} {cl : List vw_C} {M : hb_M} {H : Heap} (h : hb_P D cl M H) {a b : Nat} {e f : va_E} (ha : M a = some e) (hb : M b = some f) : va_P D cl [(a, e), (b, f)] H := by
  intro k q hk
  match k, hk with
  | 0, hk => cases hk; exact h a e ha
  | 1, hk => cases hk; exact h b f hb
  | k + 2, hk => simp at hk
def hb_L (M : hb_M) (n : Nat) : va_W := (List.range n).filterMap (fun a => (M a).map (fun e => (a, e)))
theorem hb_L_mem {M : hb_M} {n : Nat} {q : Nat × va_E} : q ∈ hb_L M n ↔ q.1 < n ∧ M q.1 = some q.2 := by
  obtain ⟨a, e⟩ := q
  simp only [hb_L, List.mem_filterMap, List.mem_range, Option.map_eq_some_iff]
  constructor
  · rintro ⟨b, hb, x, hx, hq⟩
    cases hq
    exact ⟨hb, hx⟩
  · rintro ⟨h1, h2⟩
    exact ⟨a, h1, e, h2, rfl⟩
theorem hb_L_P {D : va_G} {cl : List vw_C} {M : hb_M} {H : Heap} (h : hb_P D cl M H) (n : Nat) : va_P D cl (hb_L M n) H := fun _ q hk => h q.1 q.2 (hb_L_mem.mp (List.mem_of_getElem? hk)).2
theorem hb_L_at {D : va_G} {cl : List vw_C} {M : hb_M} {H : Heap} (h : hb_P D cl M H) {a : Nat} {e : va_E} (ha : M a = some e) : ∃ k : Nat, (hb_L M H.size)[k]? = some (a, e) := List.getElem?_of_mem (hb_L_mem.mpr ⟨h.lt ha, ha⟩)
theorem hb_L_pw (M : hb_M) (n : Nat) : (hb_L M n).Pairwise (fun p q => p.1 < q.1) := by
  refine List.Pairwise.filterMap _ ?_ List.pairwise_lt_range
  intro a b hab p hp q hq
  simp only [Option.map_eq_some_iff] at hp hq
  obtain ⟨x, -, rfl⟩ := hp
  obtain ⟨y, -, rfl⟩ := hq
  exact hab
theorem hb_L_D {A : Nat → Prop} {M : hb_M} (h : hb_D A M) (n : Nat) : va_D A (hb_L M n) := by
  refine ⟨?_, fun k q hk => h q.1 q.2 (hb_L_mem.mp (List.mem_of_getElem? hk)).2⟩
  intro i j p q hi hj hpq
  have hw := List.pairwise_iff_getElem.mp (hb_L_pw M n)
  obtain ⟨hi1, hi2⟩ := List.getElem?_eq_some_iff.mp hi
  obtain ⟨hj1, hj2⟩ := List.getElem?_eq_some_iff.mp hj
  rcases Nat.lt_trichotomy i j with h1 | h1 | h1
  · have := hw i j hi1 hj1 h1
    rw [hi2, hj2] at this
    omega
  · exact h1
  · have := hw j i hj1 hi1 h1
    rw [hi2, hj2] at this
    omega
theorem hb_set {D : va_G} {cl : List vw_C} {M : hb_M} {H H1 : Heap} {k a : Nat} {e e' : va_E} (hP : hb_P D cl M H) (hk : (hb_L M H.size)[k]? = some (a, e)) (h : va_P D cl ((hb_L M H.size).set k (a, e')) H1) : hb_P D cl (hb_up M a e') H1 := by
  intro b x hb
  have hkl := (List.getElem?_eq_some_iff.mp hk).1
  by_cases hba : b = a
  · subst hba
    rw [hb_up_self] at hb
    cases hb
    exact h k (b, e') (by rw [List.getElem?_set]; simp [hkl])
  · rw [hb_up_ne hba] at hb
    obtain ⟨j, hj⟩ := hb_L_at hP hb
    refine h j (b, x) ?_
    have hjk : k ≠ j := by
      intro q
      subst q
      rw [hk] at hj
      cases hj
      exact hba rfl
    rw [List.getElem?_set_ne hjk]
    exact hj
theorem hb_setD {A : Nat → Prop} {M : hb_M} {a : Nat} {e e' : va_E} (hD : hb_D A M) (ha : M a = some e) : hb_D A (hb_up M a e') := by
  intro b x hb
  by_cases hba : b = a
  · subst hba; exact hD b e ha
  · rw [hb_up_ne hba] at hb; exact hD b x hb
theorem hb_push {D : va_G} {cl : List vw_C} {A : Nat → Prop} {M : hb_M} {H H1 : Heap} {q : Nat} {e : va_E} (hP : hb_P D cl M H) (h : va_P D cl (hb_L M H.size ++ [(q, e)]) H1) (hd : va_D A (hb_L M H.size ++ [(q, e)])) : M q = none ∧ hb_P D cl (hb_up M q e) H1 ∧ A q := by
  have hlast : (hb_L M H.size ++ [(q, e)])[(hb_L M H.size).length]? = some (q, e) := by simp
  refine ⟨?_, ?_, hd.2 _ _ hlast⟩
  · cases hx : M q with
    | none => rfl
    | some x =>
      obtain ⟨j, hj⟩ := hb_L_at hP hx
      have hjl := (List.getElem?_eq_some_iff.mp hj).1
      have := hd.1 j _ (q, x) (q, e) (by rw [List.getElem?_append_left hjl]; exact hj) hlast rfl
      omega
  · intro b x hb
    by_cases hba : b = q
    · subst hba
      rw [hb_up_self] at hb
      cases hb
      exact h _ _ hlast
    · rw [hb_up_ne hba] at hb
      obtain ⟨j, hj⟩ := hb_L_at hP hb
      have hjl := (List.getElem?_eq_some_iff.mp hj).1
      exact h j (b, x) (by rw [List.getElem?_append_left hjl]; exact hj)
theorem hb_pushD {A : Nat → Prop} {M : hb_M} {q : Nat} {e : va_E} (hD : hb_D A M) (hq : A q) : hb_D A (hb_up M q e) := by
  intro b x hb
  by_cases hba : b = q
  · subst hba; exact hq
  · rw [hb_up_ne hba] at hb; exact hD b x hb
/-- what a program decides of a class: its place, its words, its types, its names -/
def hb_C (cl : List vw_C) (Ts : List Cond) (C : String) (T : u_T) (N ci : Nat) (ty0 : Nat → FieldType) : Prop := cl[ci]? = some (C, T, N) ∧ (∀ w ∈ u_ws C T N, w ∈ Ts) ∧ (∀ k, k < N → parseFieldDescriptor (T k).2.2.1 = some (ty0 k)) ∧ ∀ a, a < N → ∀ b, b < N → a ≠ b → (T a).2.1 ≠ (T b).2.1
section HB
variable {p : Program} {l : Launch} {e : Env} {R : Room} {s : State} {m : MethodId} {args : Array Value} {below : List Frame} {meth : Method} {c : Code} {H : Heap} {locs : List Loc} {cells slots : Nat} {Q : State → Prop}
variable {cc : ByteArray} {pc : Nat} {ls : Array Slot} {rest : List Value} {D : va_G} {cl : List vw_C} {A : Nat → Prop} {a : Nat} {tys : List (ClassId × FieldType)} {M : hb_M} {H0 : Heap}
variable {own C : String} {T : u_T} {N ci index : Nat} {Ts : List Cond} {ty0 : Nat → FieldType}
theorem hb_get (hx : p.tables.exec = Jvm.exec) (hb : c.code = cc) (hts : ∀ w ∈ Ts, w.before args s = true) (hown : s.vm.findClass own = some m.cls) (hC : hb_C cl Ts C T N ci ty0) (hK : va_K D cl tys s) (hP : hb_P D cl M H) {fs : List Value} (he : M a = some (.inr (ci, fs))) (k : Nat) (hk : k < N) (ho : (T k).1 = C) (hlink : Cond.fieldLink own index C (T k).2.1 (T k).2.2.1 ∈ Ts) {v : Value} (hv : fs[k]? = some v) (hdg : decode cc pc = .ok (.getfield index, 3))
    (kk : W p l e R s m args below meth c H locs cells slots Q (F0 m (pc + 3) ls (v :: rest))) : W p l e R s m args below meth c H locs cells slots Q (F0 m pc ls (.ref a :: rest)) :=
  va_get hx hb hts hC.2.1 hown hK (hP.one he) 0 rfl hC.1 k hk (hts _ hlink) (fun _ h9 => by rw [ho] at h9; exact h9) hv hdg kk
theorem hb_put (hx : p.tables.exec = Jvm.exec) (hb : c.code = cc) (hts : ∀ w ∈ Ts, w.before args s = true) (hown : s.vm.findClass own = some m.cls) (hC : hb_C cl Ts C T N ci ty0) (hK : va_K D cl tys s) (hP : hb_P D cl M H) (hD : hb_D A M) (hS : va_S A H0 H locs) {fs : List Value} (he : M a = some (.inr (ci, fs))) (k : Nat) (hk : k < N) (ho : (T k).1 = C) (hlink : Cond.fieldLink own index C (T k).2.1 (T k).2.2.1 ∈ Ts) (hfin : (T k).2.2.2 = false) {ty : FieldType} {v : Value} (hd : parseFieldDescriptor (T k).2.2.1 = some ty) (hn : narrow ty v = v) (hfit : fits ty v = true) (hl : k < fs.length) (hdg : decode cc pc = .ok (.putfield index, 3))
    (kk : ∀ (M1 : hb_M) (H1 : Heap) (locs1 : List Loc), M1 = hb_up M a (.inr (ci, fs.set k v)) → hb_P D cl M1 H1 → hb_D A M1 → va_S A H0 H1 locs1 → W p l e R s m args below meth c H1 locs1 cells slots Q (F0 m (pc + 3) ls rest)) : W p l e R s m args below meth c H locs cells slots Q (F0 m pc ls (v :: .ref a :: rest)) := by
  obtain ⟨q0, hq⟩ := hb_L_at hP he
  exact va_put hx hb hts hC.2.1 ty0 hC.2.2.1 hC.2.2.2 hown hK (hb_L_P hP _) (hb_L_D hD _) hS q0 hq hC.1 k hk (hts _ hlink) (fun _ h9 => by rw [ho] at h9; exact h9) hfin hd hn hfit hl hdg (fun H1 locs1 h1 _ h3 => kk _ H1 locs1 rfl (hb_set hP hq h1) (hb_setD hD he) h3)
theorem hb_putF (hx : p.tables.exec = Jvm.exec) (hb : c.code = cc) (hts : ∀ w ∈ Ts, w.before args s = true) (hown : s.vm.findClass own = some m.cls) (hC : hb_C cl Ts C T N ci ty0) (hK : va_K D cl tys s) (hP : hb_P D cl M H) (hD : hb_D A M) (hS : va_S A H0 H locs) {fs : List Value} (he : M a = some (.inr (ci, fs))) (k : Nat) (hk : k < N) (ho : (T k).1 = C) (hlink : Cond.fieldLink own index C (T k).2.1 (T k).2.2.1 ∈ Ts) (hfin : (T k).2.2.2 = true) (hin2 : meth.name = "<init>") (hdecl : (T k).1 = own) {ty : FieldType} {v : Value} (hd : parseFieldDescriptor (T k).2.2.1 = some ty) (hn : narrow ty v = v) (hfit : fits ty v = true) (hl : k < fs.length) (hdg : decode cc pc = .ok (.putfield index, 3))
    (kk : ∀ (M1 : hb_M) (H1 : Heap) (locs1 : List Loc), M1 = hb_up M a (.inr (ci, fs.set k v)) → hb_P D cl M1 H1 → hb_D A M1 → va_S A H0 H1 locs1 → W p l e R s m args below meth c H1 locs1 cells slots Q (F0 m (pc + 3) ls rest)) : W p l e R s m args below meth c H locs cells slots Q (F0 m pc ls (v :: .ref a :: rest)) := by
  obtain ⟨q0, hq⟩ := hb_L_at hP he
  exact va_putF hx hb hts hC.2.1 ty0 hC.2.2.1 hC.2.2.2 hown hK (hb_L_P hP _) (hb_L_D hD _) hS q0 hq hC.1 k hk (hts _ hlink) (fun _ h9 => by rw [ho] at h9; exact h9) hfin hin2 hdecl hd hn hfit hl hdg (fun H1 locs1 h1 _ h3 => kk _ H1 locs1 rfl (hb_set hP hq h1) (hb_setD hD he) h3)
theorem hb_new (hx : p.tables.exec = Jvm.exec) (hb : c.code = cc) (hts : ∀ w ∈ Ts, w.before args s = true) (hown : s.vm.findClass own = some m.cls) (hC : hb_C cl Ts C T N ci ty0) (hcl : Cond.classLink own index C ∈ Ts) (hinst : Cond.instantiable C N ∈ Ts) (hini : Cond.initialized C ∈ Ts) (hK : va_K D cl tys s) (hP : hb_P D cl M H) (hD : hb_D A M) (hS : va_S A H0 H locs) (hA : ∀ q, H0.size ≤ q → A q) {fs : List Value} (hfs : ∀ j, j < N → defaultValue (ty0 j) = vp_V fs j) (hcells : cells + 1 ≤ R.cells) (hslots : slots + N ≤ R.slots) (hdg : decode cc pc = .ok (.new index, 3))
    (kk : ∀ (q : Nat) (M1 : hb_M) (H1 : Heap), M q = none → A q → M1 = hb_up M q (.inr (ci, fs)) → hb_P D cl M1 H1 → hb_D A M1 → va_S A H0 H1 locs → W p l e R s m args below meth c H1 locs (cells + 1) (slots + N) Q (F0 m (pc + 3) ls (.ref q :: rest))) : W p l e R s m args below meth c H locs cells slots Q (F0 m pc ls rest) :=
  va_new hx hb hts hC.2.1 ty0 hC.2.2.1 hown (hts _ hcl) (hts _ hinst) (hts _ hini) hK (hb_L_P hP _) (hb_L_D hD _) hS hA hC.1 hfs hcells hslots hdg (fun q H1 h1 h2 h3 => by
    obtain ⟨g1, g2, g3⟩ := hb_push hP h1 h2
    exact kk q _ H1 g1 g3 rfl g2 (hb_pushD hD g3) h3)
end HB
end
section
/-! CONTRACTS OVER MAPS OF CELLS. s0: the law's first state; every cell that it had stays; the tables only grow warmer. -/
def hb_G (s0 U : State) : Prop := s0.WarmedH U.vm ∧ s0.heap.size ≤ U.heap.size ∧ ∀ q, q < s0.heap.size → U.heap[q]? = s0.heap[q]?
def hb_Z (s0 : State) (A : Nat → Prop) : Prop := ∀ q, A q → s0.heap.size ≤ q
def hb_Pre (D : va_G) (cl : List vw_C) (s0 : State) (sz : Nat) (M : hb_M) (U : State) : Prop := U.heap.size = sz ∧ hb_P D cl M U.heap ∧ hb_D (fun q => s0.heap.size ≤ q) M ∧ hb_G s0 U
def hb_Post (D : va_G) (cl : List vw_C) (sz : Nat) (M : hb_M) (post : Option Value → hb_M → Prop) : Array Value → State → Outcome → State → Prop := fun _ st oc t => (∃ (v : Option Value) (M1 : hb_M), oc = .returned v ∧ post v M1 ∧ hb_P D cl M1 t.heap ∧ hb_D (hb_A M sz) M1) ∧ va_F (hb_A M sz) st t
def hb_Met (l : Launch) (D : va_G) (cl : List vw_C) (s0 : State) (y : MethodName) (b : ByteArray) (n : Nat) (ret : Option FieldType) (rm : Room) (av : List Value) (M : hb_M) (post : Option Value → hb_M → Prop) : Prop :=
  ∀ sz : Nat, Met l y [.code y b n ret] rm (va_Pc av (hb_Pre D cl s0 sz M)) (hb_Post D cl sz M post) rm.cells rm.slots (hb_A M sz)
theorem hb_G.moved {s0 s U : State} {H : Heap} {locs : List Loc} {A : Nat → Prop} (h : hb_G s0 s) (hS : va_S A s.heap H locs) (hz : hb_Z s0 A) (hU : U.heap = H) (hW : s.WarmedH U.vm) : hb_G s0 U := by
  obtain ⟨h1, h2, h3⟩ := h
  refine ⟨State.WarmedH.trans h1 hW, by rw [hU]; exact Nat.le_trans h2 hS.1, fun q hq => ?_⟩
  rw [hU, hS.2.1 q (Nat.lt_of_lt_of_le hq h2) (fun ha => Nat.lt_irrefl _ (Nat.lt_of_lt_of_le hq (hz q ha)))]
  exact h3 q hq
theorem hb_A.z {s0 : State} {M : hb_M} {sz : Nat} (h : hb_D (fun q => s0.heap.size ≤ q) M) (hs : s0.heap.size ≤ sz) : hb_Z s0 (hb_A M sz) := by
  intro q hq
  rcases hq with hq | hq
  · cases hx : M q with
    | none => exact absurd hx hq
    | some x => exact h q x hx
  · exact Nat.le_trans hs hq
theorem hb_Pre.blind {D : va_G} {cl : List vw_C} {s0 : State} {sz : Nat} {M : hb_M} {av : List Value} : FrameBlind (va_Pc av (hb_Pre D cl s0 sz M)) := fun _ _ _ _ h => ⟨h.1, h.2.1, h.2.2.1, h.2.2.2.1, h.2.2.2.2.1, h.2.2.2.2.2.1, h.2.2.2.2.2.2⟩
/-- what a body stands on -/
def hb_Cx (p : Program) (s0 s : State) (m : MethodId) (meth : Method) (c : Code) (y : MethodName) (b : ByteArray) (n : Nat) (ret : Option FieldType) : Prop :=
  p.tables.exec = Jvm.exec ∧ c.code = b ∧ meth.sig.returnType = ret ∧ c.maxLocals = n ∧ s.vm.findClass y.cls = some m.cls ∧ meth.locks = false ∧ meth.name = y.name ∧ hb_G s0 s ∧ c.exceptionTable.isEmpty = true
theorem hb_Met.of {l : Launch} {D : va_G} {cl : List vw_C} {s0 : State} {y : MethodName} {b : ByteArray} {n : Nat} {ret : Option FieldType} {rm : Room} {av : List Value} {M : hb_M} {post : Option Value → hb_M → Prop}
    (hy : plainName y.cls = true) (hlen : (lg_sl av).length ≤ n)
    (body : ∀ (p : Program) (e : Env) (s : State) (m : MethodId) (below : List Frame) (meth : Method) (c : Code) (A : Nat → Prop), hb_A M s.heap.size = A → hb_Cx p s0 s m meth c y b n ret → hb_Z s0 A → hb_P D cl M s.heap → hb_D A M → (∀ q, s.heap.size ≤ q → A q) → va_S A s.heap s.heap [] → ∀ ls : Array Slot, lv_has ls n (lv_args 0 av) →
      W p l e rm s m av.toArray below meth c s.heap [] 0 0 (MQ below (hb_Post D cl s.heap.size M post) av.toArray s rm.cells rm.slots A) (F0 m 0 ls [])) : hb_Met l D cl s0 y b n ret rm av M post := by
  intro sz
  refine Met.ofW (cc := b) (maxL := n) (ret := ret) hy rfl ?_
  intro p e s m args below meth c s₁ B hml hv
  obtain ⟨rfl, hsz, hP, hD, hG⟩ := hv
  subst hsz
  have hw : (Cond.code y b n ret).before av.toArray s = true := atoms_spec (ws := [.code y b n ret]) B.pre _ List.mem_cons_self
  have hl := lv_entry av hlen
  rw [lg_entry_eq]
  exact body p e s m below meth c _ rfl ⟨B.exec, B.bytes, B.returns, hml, findClass_of_methodNamed B.named, B.notSynchronized, (name_of_methodNamed B.named B.method).1, hG, B.noHandlers hw⟩ (hb_A.z hD hG.2.1) hP (fun a x ha => Or.inl (by rw [ha]; simp)) (fun q hq => Or.inr hq) va_S.rf _ hl
section HBR
variable {p : Program} {l : Launch} {e : Env} {R : Room} {s0 s : State} {m : MethodId} {args : Array Value} {below : List Frame} {meth : Method} {c : Code} {H : Heap} {locs : List Loc} {cells slots : Nat} {Q : State → Prop}
variable {cc : ByteArray} {pc : Nat} {ls : Array Slot} {rest : List Value} {D : va_G} {cl : List vw_C} {A : Nat → Prop} {M M1 : hb_M} {post : Option Value → hb_M → Prop} {mc ms : Nat}
theorem hb_lret {v : Int64} (hA : hb_A M s.heap.size = A) (hx : p.tables.exec = Jvm.exec) (hb : c.code = cc) (hr : meth.sig.returnType = some .long) (hlocks : meth.locks = false) (hP : hb_P D cl M1 H) (hD : hb_D A M1) (hS : va_S A s.heap H locs) (hc : cells ≤ mc) (hs : slots ≤ ms) (hq : post (some (.long v)) M1) (hdg : decode cc pc = .ok (.lreturn, 1)) :
    W p l e R s m args below meth c H locs cells slots (MQ below (hb_Post D cl s.heap.size M post) args s mc ms A) (F0 m pc ls [.long v]) := by
  subst hA
  exact W.widen hc hs (W.lret hx hb hr (fun t ht _ => ⟨⟨_, M1, rfl, hq, by rw [ht]; exact hP, hD⟩, hS.F ht⟩) hS.2.2 hdg hlocks)
theorem hb_iret {v : Int32} (hA : hb_A M s.heap.size = A) (hx : p.tables.exec = Jvm.exec) (hb : c.code = cc) (hr : meth.sig.returnType = some .int) (hlocks : meth.locks = false) (hP : hb_P D cl M1 H) (hD : hb_D A M1) (hS : va_S A s.heap H locs) (hc : cells ≤ mc) (hs : slots ≤ ms) (hq : post (some (.int v)) M1) (hdg : decode cc pc = .ok (.ireturn, 1)) :
    W p l e R s m args below meth c H locs cells slots (MQ below (hb_Post D cl s.heap.size M post) args s mc ms A) (F0 m pc ls [.int v]) := by
  subst hA
  exact W.widen hc hs (W.iret hx hb hr (fun t ht _ => ⟨⟨_, M1, rfl, hq, by rw [ht]; exact hP, hD⟩, hS.F ht⟩) hS.2.2 hdg hlocks)
theorem hb_zret {v : Int32} (hA : hb_A M s.heap.size = A) (hx : p.tables.exec = Jvm.exec) (hb : c.code = cc) (hr : meth.sig.returnType = some .boolean) (hn : narrow .boolean (.int v) = .int v) (hlocks : meth.locks = false) (hP : hb_P D cl M1 H) (hD : hb_D A M1) (hS : va_S A s.heap H locs) (hc : cells ≤ mc) (hs : slots ≤ ms) (hq : post (some (.int v)) M1) (hdg : decode cc pc = .ok (.ireturn, 1)) :
    W p l e R s m args below meth c H locs cells slots (MQ below (hb_Post D cl s.heap.size M post) args s mc ms A) (F0 m pc ls [.int v]) := by
  subst hA
  exact W.widen hc hs (W.zret hx hb hr hn (fun t ht _ => ⟨⟨_, M1, rfl, hq, by rw [ht]; exact hP, hD⟩, hS.F ht⟩) hS.2.2 hdg hlocks)
theorem hb_vret (hA : hb_A M s.heap.size = A) (hx : p.tables.exec = Jvm.exec) (hb : c.code = cc) (hr : meth.sig.returnType = none) (hlocks : meth.locks = false) (hP : hb_P D cl M1 H) (hD : hb_D A M1) (hS : va_S A s.heap H locs) (hc : cells ≤ mc) (hs : slots ≤ ms) (hq : post none M1) (hdg : decode cc pc = .ok (.return_, 1)) :
    W p l e R s m args below meth c H locs cells slots (MQ below (hb_Post D cl s.heap.size M post) args s mc ms A) (F0 m pc ls []) := by
  subst hA
  exact W.widen hc hs (W.vret hx hb hr (fun t ht _ => ⟨⟨_, M1, rfl, hq, by rw [ht]; exact hP, hD⟩, hS.F ht⟩) hS.2.2 hdg hlocks)
theorem hb_aret {v : Value} {rt : FieldType} (hA : hb_A M s.heap.size = A) (hx : p.tables.exec = Jvm.exec) (hb : c.code = cc) (hr : meth.sig.returnType = some rt) (hrt : (∃ n, rt = .object n) ∨ ∃ t, rt = .array t) (hv : v = .null ∨ ∃ a, v = .ref a) (hlocks : meth.locks = false) (hP : hb_P D cl M1 H) (hD : hb_D A M1) (hS : va_S A s.heap H locs) (hc : cells ≤ mc) (hs : slots ≤ ms) (hq : post (some v) M1) (hdg : decode cc pc = .ok (.areturn, 1)) :
    W p l e R s m args below meth c H locs cells slots (MQ below (hb_Post D cl s.heap.size M post) args s mc ms A) (F0 m pc ls [v]) := by
  subst hA
  exact W.widen hc hs (W.aret hx hb hr hrt hv (fun t ht _ => ⟨⟨_, M1, rfl, hq, by rw [ht]; exact hP, hD⟩, hS.F ht⟩) hS.2.2 hdg hlocks)
/-- behind a call -/
theorem hb_back {st0 : List Value} {a : Array Value} (hr : va_Run p l e R s m args below meth c H locs cells slots mc ms (F0 m pc ls st0) rest (hb_Post D cl H.size M1 post a) (hb_A M1 H.size)) (hD : hb_D A M1) (hS : va_S A s.heap H locs) (hA : ∀ q, s.heap.size ≤ q → A q)
    (kk : ∀ (v : Option Value) (M2 : hb_M) (H1 : Heap) (locs1 : List Loc), post v M2 → hb_P D cl M2 H1 → hb_D A M2 → va_S A s.heap H1 locs1 → H.size ≤ H1.size → (∀ q, q < H.size → M1 q = none → H1[q]? = H[q]?) → W p l e R s m args below meth c H1 locs1 (cells + mc) (slots + ms) Q (F0 m (pc + 3) ls (v.toList ++ rest))) : W p l e R s m args below meth c H locs cells slots Q (F0 m pc ls st0) := by
  have hsub : ∀ q, hb_A M1 H.size q → A q := by
    intro q hq
    rcases hq with hq | hq
    · cases hx : M1 q with
      | none => exact absurd hx hq
      | some x => exact hD q x hx
    · exact hA q (Nat.le_trans hS.1 hq)
  intro T hT X
  obtain ⟨v, st₀, t, T', L, h0, X', hL, e1, e2, ⟨⟨v', M2, hv, hp, hP2, hD2⟩, hz, hk⟩, st⟩ := hr T hT X
  cases hv
  rw [h0] at hz hk
  have hk' : ∀ q, q < H.size → ¬ hb_A M1 H.size q → T'.heap[q]? = H[q]? := fun q h1 h2 => by rw [e1]; exact hk q h1 h2
  obtain ⟨t2, a1, b1⟩ := kk v M2 T'.heap (locs ++ L) hp (by rw [e1]; exact hP2) (fun q x hq => hsub q (hD2 q x hq))
    ⟨Nat.le_trans hS.1 (by rw [e1]; exact hz), fun q h1 h2 => by rw [hk' q (Nat.lt_of_lt_of_le h1 hS.1) (fun z => h2 (hsub q z))]; exact hS.2.1 q h1 h2, fun q hq => by
      rcases List.mem_append.mp hq with h | h
      · exact hS.2.2 q h
      · exact hsub _ (hL q h)⟩ (by rw [e1]; exact hz) (fun q h1 h2 => hk' q h1 (fun z => by
      rcases z with z | z
      · exact z h2
      · omega)) T' rfl X'
  exact ⟨t2, st t2 a1, b1⟩
end HBR
/-- what a program decides of a method -/
def hb_Y (Ts : List Cond) (y : MethodName) (b : ByteArray) (n : Nat) (ret : Option FieldType) (k : Nat) : Prop :=
  Cond.code y b n ret ∈ Ts ∧ Cond.initialized y.cls ∈ Ts ∧ (y.cls ≠ "java/lang/invoke/MethodHandle" ∧ y.cls ≠ "java/lang/invoke/VarHandle") ∧ (parseMethodDescriptor y.desc).map (fun d => d.parameters.length) = some k
section HBC
variable {p : Program} {l : Launch} {e : Env} {R : Room} {s0 s : State} {m : MethodId} {args : Array Value} {below : List Frame} {meth : Method} {c : Code} {H : Heap} {locs : List Loc} {cells slots : Nat} {Q : State → Prop}
variable {pc : Nat} {ls : Array Slot} {st0 rest : List Value} {D : va_G} {cl : List vw_C} {A : Nat → Prop} {M1 : hb_M} {post : Option Value → hb_M → Prop} {Ts : List Cond} {tys : List (ClassId × FieldType)}
variable {yo y : MethodName} {bo b : ByteArray} {no n k index : Nat} {ro ret : Option FieldType} {rm : Room} {As : List Value}
theorem hb_cb (hts : ∀ w ∈ Ts, w.before args s = true) (hgd : ∀ w ∈ Ts, goodWord w = true) (hY : hb_Y Ts y b n ret k) (hlink : Cond.methodLink yo.cls index y ∈ Ts) (hR : rm.frames + 1 ≤ R.frames ∧ 8 + (n + 11) + rm.locals ≤ R.locals) :
    CallB R s args yo.cls index y b n ret [.code y b n ret] rm rm.cells rm.slots k := by
  refine ⟨rfl, rfl, hR.1, hR.2, ?_, List.mem_cons_self, hts _ hY.1, hts _ hY.2.1, hY.2.2.1, ?_, hts _ hlink⟩
  · intro w hw a' U hW
    rw [List.mem_singleton] at hw
    subst hw
    exact word_at hW (good_of_word (hgd _ hY.1)) (hts _ hY.1)
  · intro sig hs
    have := hY.2.2.2
    rw [hs] at this
    exact (Option.some.inj this).symm
theorem hb_PreS (hG : hb_G s0 s) (hz : hb_Z s0 A) (hP : hb_P D cl M1 H) (hD : hb_D A M1) (hS : va_S A s.heap H locs) : PreS s H (va_Pc As (hb_Pre D cl s0 H.size M1)) As :=
  ⟨hb_Pre.blind, fun U hU hW => ⟨rfl, by rw [hU], by rw [hU]; exact hP, fun q x hq => hz q (hD q x hq), hG.moved hS hz hU hW⟩⟩
theorem hb_callS (hX : hb_Cx p s0 s m meth c yo bo no ro) (hts : ∀ w ∈ Ts, w.before args s = true) (hgd : ∀ w ∈ Ts, goodWord w = true) (hY : hb_Y Ts y b n ret k) (hM : hb_Met l D cl s0 y b n ret rm As M1 post) (hlink : Cond.methodLink yo.cls index y ∈ Ts) (hst : Cond.static y ∈ Ts)
    (hz : hb_Z s0 A) (hP : hb_P D cl M1 H) (hD : hb_D A M1) (hS : va_S A s.heap H locs) (hA : ∀ q, s.heap.size ≤ q → A q) (hn : As.length = k) (hsz : ls.size = no) (hstack : st0 = As.reverse ++ rest) (hW : (rest.map fun v => v.category).sum ≤ 8) (hR : rm.frames + 1 ≤ R.frames ∧ 8 + (n + 11) + rm.locals ≤ R.locals) (hf : cells + rm.cells ≤ R.cells ∧ slots + rm.slots ≤ R.slots) (hdg : decode bo pc = .ok (.invokestatic index, 3))
    (kk : ∀ (v : Option Value) (M2 : hb_M) (H1 : Heap) (locs1 : List Loc), post v M2 → hb_P D cl M2 H1 → hb_D A M2 → va_S A s.heap H1 locs1 → H.size ≤ H1.size → (∀ q, q < H.size → M1 q = none → H1[q]? = H[q]?) → W p l e R s m args below meth c H1 locs1 (cells + rm.cells) (slots + rm.slots) Q (F0 m (pc + 3) ls (v.toList ++ rest))) : W p l e R s m args below meth c H locs cells slots Q (F0 m pc ls st0) := by
  obtain ⟨hx, hb, -, hml, hown, -, -, hG, -⟩ := hX
  exact hb_back (va_runS (Ts := Ts) (own := yo.cls) ⟨hx, hb, hml, hown, hts⟩ (hM H.size) ⟨hb_cb hts hgd hY hlink hR, hts _ hst⟩ (hb_PreS hG hz hP hD hS) rfl hn hsz hstack (lv_room hW) hdg hf) hD hS hA kk
theorem hb_callI {a : Nat} (hX : hb_Cx p s0 s m meth c yo bo no ro) (hts : ∀ w ∈ Ts, w.before args s = true) (hgd : ∀ w ∈ Ts, goodWord w = true) (hY : hb_Y Ts y b n none k) (hM : hb_Met l D cl s0 y b n none rm (.ref a :: As) M1 post) (hlink : Cond.methodLink yo.cls index y ∈ Ts) (hin : Cond.instanceMethod y ∈ Ts) (hy1 : y.name = "<init>")
    (hz : hb_Z s0 A) (hP : hb_P D cl M1 H) (hD : hb_D A M1) (hS : va_S A s.heap H locs) (hA : ∀ q, s.heap.size ≤ q → A q) (hn : As.length = k) (hsz : ls.size = no) (hstack : st0 = As.reverse ++ .ref a :: rest) (hW : (rest.map fun v => v.category).sum ≤ 8) (hR : rm.frames + 1 ≤ R.frames ∧ 8 + (n + 11) + rm.locals ≤ R.locals) (hf : cells + rm.cells ≤ R.cells ∧ slots + rm.slots ≤ R.slots) (hdg : decode bo pc = .ok (.invokespecial index, 3))
    (kk : ∀ (v : Option Value) (M2 : hb_M) (H1 : Heap) (locs1 : List Loc), post v M2 → hb_P D cl M2 H1 → hb_D A M2 → va_S A s.heap H1 locs1 → H.size ≤ H1.size → (∀ q, q < H.size → M1 q = none → H1[q]? = H[q]?) → W p l e R s m args below meth c H1 locs1 (cells + rm.cells) (slots + rm.slots) Q (F0 m (pc + 3) ls (v.toList ++ rest))) : W p l e R s m args below meth c H locs cells slots Q (F0 m pc ls st0) := by
  obtain ⟨hx, hb, -, hml, hown, -, -, hG, -⟩ := hX
  exact hb_back (va_runI (Ts := Ts) (own := yo.cls) ⟨hx, hb, hml, hown, hts⟩ (hM H.size) ⟨hb_cb hts hgd hY hlink hR, hy1, hts _ hin⟩ (hb_PreS hG hz hP hD hS) rfl hn hsz hstack (lv_room hW) hdg hf) hD hS hA kk
theorem hb_callV {a ci N : Nat} {C : String} {Tt : u_T} {fs : List Value} (hX : hb_Cx p s0 s m meth c yo bo no ro) (hts : ∀ w ∈ Ts, w.before args s = true) (hgd : ∀ w ∈ Ts, goodWord w = true) (hY : hb_Y Ts y b n ret k) (hM : hb_Met l D cl s0 y b n ret rm (.ref a :: As) M1 post) (hlink : Cond.methodLink yo.cls index y ∈ Ts) (hin : Cond.instanceMethod y ∈ Ts) (hsel : Cond.selects C y y ∈ Ts) (hK : va_K D cl tys s) (he : M1 a = some (.inr (ci, fs))) (hc : cl[ci]? = some (C, Tt, N))
    (hz : hb_Z s0 A) (hP : hb_P D cl M1 H) (hD : hb_D A M1) (hS : va_S A s.heap H locs) (hA : ∀ q, s.heap.size ≤ q → A q) (hn : As.length = k) (hsz : ls.size = no) (hstack : st0 = As.reverse ++ .ref a :: rest) (hW : (rest.map fun v => v.category).sum ≤ 8) (hR : rm.frames + 1 ≤ R.frames ∧ 8 + (n + 11) + rm.locals ≤ R.locals) (hf : cells + rm.cells ≤ R.cells ∧ slots + rm.slots ≤ R.slots) (hdg : decode bo pc = .ok (.invokevirtual index, 3))
    (kk : ∀ (v : Option Value) (M2 : hb_M) (H1 : Heap) (locs1 : List Loc), post v M2 → hb_P D cl M2 H1 → hb_D A M2 → va_S A s.heap H1 locs1 → H.size ≤ H1.size → (∀ q, q < H.size → M1 q = none → H1[q]? = H[q]?) → W p l e R s m args below meth c H1 locs1 (cells + rm.cells) (slots + rm.slots) Q (F0 m (pc + 3) ls (v.toList ++ rest))) : W p l e R s m args below meth c H locs cells slots Q (F0 m pc ls st0) := by
  obtain ⟨hx, hb, -, hml, hown, -, -, hG, -⟩ := hX
  have hp := hb_PreS (As := .ref a :: As) hG hz hP hD hS
  exact hb_back (va_runV (Ts := Ts) (own := yo.cls) (C := C) ⟨hx, hb, hml, hown, hts⟩ (hM H.size) ⟨hb_cb hts hgd hY hlink hR, hts _ hin, hts _ hsel⟩ ⟨hp.1, va_recv hK (hP.one he) hc (q0 := 0) rfl, hp.2⟩ rfl hn hsz hstack (lv_room hW) hdg hf) hD hS hA kk
end HBC
end
section
/-! NAMES: classes, fields (in the order of the words), methods, words of the tables; by program out of the Statement -/
abbrev C_Acc : String := "HoldBook$Account"
def T_Acc : u_T := fun k => match k with
  | 0 => ("HoldBook$Account", "number", "I", true)
  | 1 => ("HoldBook$Account", "minimum", "J", true)
  | 2 => ("HoldBook$Account", "freeAtFirst", "J", true)
  | 3 => ("HoldBook$Account", "balance", "J", false)
  | 4 => ("HoldBook$Account", "held", "J", false)
  | _ => ("HoldBook$Account", "locked", "J", false)
def t_Acc : Nat → FieldType := fun k => match k with
  | 0 => .int
  | 1 => .long
  | 2 => .long
  | 3 => .long
  | 4 => .long
  | _ => .long
abbrev C_Pay : String := "HoldBook$Payment"
def T_Pay : u_T := fun k => match k with
  | 0 => ("HoldBook$Payment", "key", "I", true)
  | 1 => ("HoldBook$Payment", "account", "LHoldBook$Account;", true)
  | 2 => ("HoldBook$Payment", "state", "I", false)
  | 3 => ("HoldBook$Payment", "held", "J", false)
  | 4 => ("HoldBook$Payment", "cleared", "J", false)
  | 5 => ("HoldBook$Payment", "until", "I", false)
  | 6 => ("HoldBook$Payment", "since", "I", false)
  | 7 => ("HoldBook$Payment", "dispute", "I", false)
  | 8 => ("HoldBook$Payment", "disputed", "J", false)
  | _ => ("HoldBook$Payment", "disputeUntil", "I", false)
def t_Pay : Nat → FieldType := fun k => match k with
  | 0 => .int
  | 1 => .object "HoldBook$Account"
  | 2 => .int
  | 3 => .long
  | 4 => .long
  | 5 => .int
  | 6 => .int
  | 7 => .int
  | 8 => .long
  | _ => .int
abbrev C_Hb : String := "HoldBook"
def T_Hb : u_T := fun k => match k with
  | 0 => ("HoldBook", "hold", "I", true)
  | 1 => ("HoldBook", "patience", "I", true)
  | 2 => ("HoldBook", "accounts", "Ljava/util/ArrayList;", true)
  | 3 => ("HoldBook", "payments", "Ljava/util/ArrayList;", true)
  | 4 => ("HoldBook", "nobody", "LHoldBook$Account;", true)
  | _ => ("HoldBook", "time", "I", false)
def t_Hb : Nat → FieldType := fun k => match k with
  | 0 => .int
  | 1 => .int
  | 2 => .object "java/util/ArrayList"
  | 3 => .object "java/util/ArrayList"
  | 4 => .object "HoldBook$Account"
  | _ => .int
abbrev C_Al : String := "java/util/ArrayList"
def T_Al : u_T := fun k => match k with
  | 0 => ("java/util/ArrayList", "elementData", "[Ljava/lang/Object;", false)
  | 1 => ("java/util/ArrayList", "size", "I", false)
  | _ => ("java/util/AbstractList", "modCount", "I", false)
def t_Al : Nat → FieldType := fun k => match k with
  | 0 => .array (.object "java/lang/Object")
  | 1 => .int
  | _ => .int
abbrev C_Md : String := "HoldBookModel"
def T_Md : u_T := fun k => match k with
  | 0 => ("HoldBookModel", "code", "I", false)
  | 1 => ("HoldBookModel", "hold", "I", true)
  | 2 => ("HoldBookModel", "patience", "I", true)
  | 3 => ("HoldBookModel", "time", "I", false)
  | 4 => ("HoldBookModel", "accounts", "I", false)
  | 5 => ("HoldBookModel", "balance", "[J", true)
  | 6 => ("HoldBookModel", "minimum", "[J", true)
  | 7 => ("HoldBookModel", "payments", "I", false)
  | 8 => ("HoldBookModel", "key", "[I", true)
  | 9 => ("HoldBookModel", "account", "[I", true)
  | 10 => ("HoldBookModel", "stage", "[I", true)
  | 11 => ("HoldBookModel", "held", "[J", true)
  | 12 => ("HoldBookModel", "cleared", "[J", true)
  | 13 => ("HoldBookModel", "until", "[I", true)
  | 14 => ("HoldBookModel", "done", "[I", true)
  | 15 => ("HoldBookModel", "dispute", "[I", true)
  | 16 => ("HoldBookModel", "disputed", "[J", true)
  | _ => ("HoldBookModel", "deadline", "[I", true)
def t_Md : Nat → FieldType := fun k => match k with
  | 0 => .int
  | 1 => .int
  | 2 => .int
  | 3 => .int
  | 4 => .int
  | 5 => .array .long
  | 6 => .array .long
  | 7 => .int
  | 8 => .array .int
  | 9 => .array .int
  | 10 => .array .int
  | 11 => .array .long
  | 12 => .array .long
  | 13 => .array .int
  | 14 => .array .int
  | 15 => .array .int
  | 16 => .array .long
  | _ => .array .int
abbrev hb_cl : List vw_C := [(C_Acc, T_Acc, 6), (C_Pay, T_Pay, 10), (C_Hb, T_Hb, 6), (C_Al, T_Al, 3), (C_Md, T_Md, 18)]
theorem uw_Acc : ∀ w ∈ u_ws C_Acc T_Acc 6, w ∈ lw_tbl ∧ goodWord w = true := by decide +kernel
theorem hC_Acc : hb_C hb_cl hb_tbl C_Acc T_Acc 6 0 t_Acc := ⟨rfl, fun w h => hb_in (uw_Acc w h).1 (uw_Acc w h).2, by decide +kernel, by decide +kernel⟩
theorem uw_Pay : ∀ w ∈ u_ws C_Pay T_Pay 10, w ∈ lw_tbl ∧ goodWord w = true := by decide +kernel
theorem hC_Pay : hb_C hb_cl hb_tbl C_Pay T_Pay 10 1 t_Pay := ⟨rfl, fun w h => hb_in (uw_Pay w h).1 (uw_Pay w h).2, by decide +kernel, by decide +kernel⟩
theorem uw_Hb : ∀ w ∈ u_ws C_Hb T_Hb 6, w ∈ lw_tbl ∧ goodWord w = true := by decide +kernel
theorem hC_Hb : hb_C hb_cl hb_tbl C_Hb T_Hb 6 2 t_Hb := ⟨rfl, fun w h => hb_in (uw_Hb w h).1 (uw_Hb w h).2, by decide +kernel, by decide +kernel⟩
theorem uw_Al : ∀ w ∈ u_ws C_Al T_Al 3, w ∈ lw_tbl ∧ goodWord w = true := by decide +kernel
theorem hC_Al : hb_C hb_cl hb_tbl C_Al T_Al 3 3 t_Al := ⟨rfl, fun w h => hb_in (uw_Al w h).1 (uw_Al w h).2, by decide +kernel, by decide +kernel⟩
theorem uw_Md : ∀ w ∈ u_ws C_Md T_Md 18, w ∈ lw_tbl ∧ goodWord w = true := by decide +kernel
theorem hC_Md : hb_C hb_cl hb_tbl C_Md T_Md 18 4 t_Md := ⟨rfl, fun w h => hb_in (uw_Md w h).1 (uw_Md w h).2, by decide +kernel, by decide +kernel⟩
abbrev b_Hb_init : ByteArray := prog_1_method_1_code
def y_Hb_init : MethodName := ⟨"HoldBook", "<init>", "(II)V"⟩
abbrev b_Ob_init : ByteArray := object_method_1_code
def y_Ob_init : MethodName := ⟨"java/lang/Object", "<init>", "()V"⟩
abbrev b_Al_init : ByteArray := prog_19_method_2_code
def y_Al_init : MethodName := ⟨"java/util/ArrayList", "<init>", "()V"⟩
abbrev b_Abs_init : ByteArray := prog_18_method_1_code
def y_Abs_init : MethodName := ⟨"java/util/AbstractList", "<init>", "()V"⟩
abbrev b_Col_init : ByteArray := prog_17_method_1_code
def y_Col_init : MethodName := ⟨"java/util/AbstractCollection", "<init>", "()V"⟩
abbrev b_Acc_init : ByteArray := prog_2_method_1_code
def y_Acc_init : MethodName := ⟨"HoldBook$Account", "<init>", "(IJJ)V"⟩
abbrev b_Hb_spanOf : ByteArray := prog_1_method_16_code
def y_Hb_spanOf : MethodName := ⟨"HoldBook", "spanOf", "(I)I"⟩
abbrev b_Mth_min1 : ByteArray := prog_12_method_69_code
def y_Mth_min1 : MethodName := ⟨"java/lang/Math", "min", "(II)I"⟩
abbrev b_Mth_max : ByteArray := prog_12_method_65_code
def y_Mth_max : MethodName := ⟨"java/lang/Math", "max", "(II)I"⟩
abbrev b_Hb_forget : ByteArray := prog_1_method_10_code
def y_Hb_forget : MethodName := ⟨"HoldBook", "forget", "()I"⟩
abbrev b_Al_size : ByteArray := prog_19_method_8_code
def y_Al_size : MethodName := ⟨"java/util/ArrayList", "size", "()I"⟩
abbrev b_Al_get : ByteArray := prog_19_method_20_code
def y_Al_get : MethodName := ⟨"java/util/ArrayList", "get", "(I)Ljava/lang/Object;"⟩
abbrev b_Obs_checkIndex : ByteArray := prog_23_method_17_code
def y_Obs_checkIndex : MethodName := ⟨"java/util/Objects", "checkIndex", "(II)I"⟩
abbrev b_Prc_checkIndex : ByteArray := prog_27_method_11_code
def y_Prc_checkIndex : MethodName := ⟨"jdk/internal/util/Preconditions", "checkIndex", "(IILjava/util/function/BiFunction;)I"⟩
abbrev b_Al_elementData : ByteArray := prog_19_method_18_code
def y_Al_elementData : MethodName := ⟨"java/util/ArrayList", "elementData", "(I)Ljava/lang/Object;"⟩
abbrev b_Hb_isOver : ByteArray := prog_1_method_25_code
def y_Hb_isOver : MethodName := ⟨"HoldBook", "isOver", "(LHoldBook$Payment;)Z"⟩
abbrev b_Hb_isLongDone : ByteArray := prog_1_method_24_code
def y_Hb_isLongDone : MethodName := ⟨"HoldBook", "isLongDone", "(LHoldBook$Payment;)Z"⟩
abbrev b_Al_remove : ByteArray := prog_19_method_29_code
def y_Al_remove : MethodName := ⟨"java/util/ArrayList", "remove", "(I)Ljava/lang/Object;"⟩
abbrev b_Al_fastRemove : ByteArray := prog_19_method_39_code
def y_Al_fastRemove : MethodName := ⟨"java/util/ArrayList", "fastRemove", "([Ljava/lang/Object;I)V"⟩
abbrev b_Hb_payments : ByteArray := prog_1_method_14_code
def y_Hb_payments : MethodName := ⟨"HoldBook", "payments", "()I"⟩
abbrev b_Hb_audit : ByteArray := prog_1_method_15_code
def y_Hb_audit : MethodName := ⟨"HoldBook", "audit", "()I"⟩
abbrev b_Hb_agrees : ByteArray := prog_1_method_26_code
def y_Hb_agrees : MethodName := ⟨"HoldBook", "agrees", "(LHoldBook$Account;)Z"⟩
abbrev b_Pay_locked : ByteArray := prog_3_method_10_code
def y_Pay_locked : MethodName := ⟨"HoldBook$Payment", "locked", "()J"⟩
abbrev b_Pay_isDisputeOpen : ByteArray := prog_3_method_9_code
def y_Pay_isDisputeOpen : MethodName := ⟨"HoldBook$Payment", "isDisputeOpen", "()Z"⟩
abbrev b_Acc_isOverdrawn : ByteArray := prog_2_method_3_code
def y_Acc_isOverdrawn : MethodName := ⟨"HoldBook$Account", "isOverdrawn", "()Z"⟩
abbrev b_Acc_free : ByteArray := prog_2_method_2_code
def y_Acc_free : MethodName := ⟨"HoldBook$Account", "free", "()J"⟩
abbrev b_Law_cell : ByteArray := method_2_code
def y_Law_cell : MethodName := ⟨"HoldBookLaw", "cell", "([II)I"⟩
abbrev b_Law_account : ByteArray := method_3_code
def y_Law_account : MethodName := ⟨"HoldBookLaw", "account", "(LHoldBook;JJ[J)I"⟩
abbrev b_Hb_account : ByteArray := prog_1_method_2_code
def y_Hb_account : MethodName := ⟨"HoldBook", "account", "(JJ)I"⟩
abbrev b_Al_add1 : ByteArray := prog_19_method_25_code
def y_Al_add1 : MethodName := ⟨"java/util/ArrayList", "add", "(Ljava/lang/Object;)Z"⟩
abbrev b_Al_add2 : ByteArray := prog_19_method_24_code
def y_Al_add2 : MethodName := ⟨"java/util/ArrayList", "add", "(Ljava/lang/Object;[Ljava/lang/Object;I)V"⟩
abbrev b_Al_grow1 : ByteArray := prog_19_method_7_code
def y_Al_grow1 : MethodName := ⟨"java/util/ArrayList", "grow", "()[Ljava/lang/Object;"⟩
abbrev b_Al_grow2 : ByteArray := prog_19_method_6_code
def y_Al_grow2 : MethodName := ⟨"java/util/ArrayList", "grow", "(I)[Ljava/lang/Object;"⟩
abbrev b_Sup_newLength : ByteArray := prog_26_method_27_code
def y_Sup_newLength : MethodName := ⟨"jdk/internal/util/ArraysSupport", "newLength", "(III)I"⟩
abbrev b_Sup_hugeLength : ByteArray := prog_26_method_28_code
def y_Sup_hugeLength : MethodName := ⟨"jdk/internal/util/ArraysSupport", "hugeLength", "(II)I"⟩
abbrev b_Ars_copyOf1 : ByteArray := prog_20_method_119_code
def y_Ars_copyOf1 : MethodName := ⟨"java/util/Arrays", "copyOf", "([Ljava/lang/Object;I)[Ljava/lang/Object;"⟩
abbrev b_Ars_copyOf2 : ByteArray := prog_20_method_120_code
def y_Ars_copyOf2 : MethodName := ⟨"java/util/Arrays", "copyOf", "([Ljava/lang/Object;ILjava/lang/Class;)[Ljava/lang/Object;"⟩
abbrev b_Law_ask : ByteArray := method_4_code
def y_Law_ask : MethodName := ⟨"HoldBookLaw", "ask", "(LHoldBook;IIJZ[J)I"⟩
abbrev b_Hb_ask : ByteArray := prog_1_method_3_code
def y_Hb_ask : MethodName := ⟨"HoldBook", "ask", "(IIJZ)J"⟩
abbrev b_Hb_checkKey : ByteArray := prog_1_method_17_code
def y_Hb_checkKey : MethodName := ⟨"HoldBook", "checkKey", "(I)V"⟩
abbrev b_Hb_checkAccount : ByteArray := prog_1_method_20_code
def y_Hb_checkAccount : MethodName := ⟨"HoldBook", "checkAccount", "(I)V"⟩
abbrev b_Hb_checkAmount : ByteArray := prog_1_method_18_code
def y_Hb_checkAmount : MethodName := ⟨"HoldBook", "checkAmount", "(J)V"⟩
abbrev b_Hb_find : ByteArray := prog_1_method_22_code
def y_Hb_find : MethodName := ⟨"HoldBook", "find", "(I)LHoldBook$Payment;"⟩
abbrev b_Hb_placeOf : ByteArray := prog_1_method_21_code
def y_Hb_placeOf : MethodName := ⟨"HoldBook", "placeOf", "(I)I"⟩
abbrev b_Pay_init : ByteArray := prog_3_method_1_code
def y_Pay_init : MethodName := ⟨"HoldBook$Payment", "<init>", "(ILHoldBook$Account;)V"⟩
abbrev b_Mth_min2 : ByteArray := prog_12_method_70_code
def y_Mth_min2 : MethodName := ⟨"java/lang/Math", "min", "(JJ)J"⟩
abbrev b_Pay_holdUntil : ByteArray := prog_3_method_2_code
def y_Pay_holdUntil : MethodName := ⟨"HoldBook$Payment", "holdUntil", "(JI)V"⟩
abbrev b_Pay_keepHeld : ByteArray := prog_3_method_3_code
def y_Pay_keepHeld : MethodName := ⟨"HoldBook$Payment", "keepHeld", "(J)V"⟩
abbrev b_Hb_enter : ByteArray := prog_1_method_23_code
def y_Hb_enter : MethodName := ⟨"HoldBook", "enter", "(LHoldBook$Payment;)V"⟩
abbrev b_Al_add3 : ByteArray := prog_19_method_26_code
def y_Al_add3 : MethodName := ⟨"java/util/ArrayList", "add", "(ILjava/lang/Object;)V"⟩
abbrev b_Al_rangeCheckForAdd : ByteArray := prog_19_method_45_code
def y_Al_rangeCheckForAdd : MethodName := ⟨"java/util/ArrayList", "rangeCheckForAdd", "(I)V"⟩
abbrev b_Law_clear : ByteArray := method_5_code
def y_Law_clear : MethodName := ⟨"HoldBookLaw", "clear", "(LHoldBook;IJZ[J)I"⟩
abbrev b_Hb_clear : ByteArray := prog_1_method_4_code
def y_Hb_clear : MethodName := ⟨"HoldBook", "clear", "(IJZ)J"⟩
abbrev b_Pay_take : ByteArray := prog_3_method_4_code
def y_Pay_take : MethodName := ⟨"HoldBook$Payment", "take", "(J)V"⟩
abbrev b_Pay_endHold : ByteArray := prog_3_method_5_code
def y_Pay_endHold : MethodName := ⟨"HoldBook$Payment", "endHold", "(I)V"⟩
abbrev b_Law_undo : ByteArray := method_6_code
def y_Law_undo : MethodName := ⟨"HoldBookLaw", "undo", "(LHoldBook;IJZ[J)I"⟩
abbrev b_Hb_undo : ByteArray := prog_1_method_5_code
def y_Hb_undo : MethodName := ⟨"HoldBook", "undo", "(IJZ)J"⟩
abbrev b_Law_ticks : ByteArray := method_7_code
def y_Law_ticks : MethodName := ⟨"HoldBookLaw", "ticks", "(LHoldBook;I[J)I"⟩
abbrev b_Hb_ticks : ByteArray := prog_1_method_6_code
def y_Hb_ticks : MethodName := ⟨"HoldBook", "ticks", "(I)I"⟩
abbrev b_Pay_passTo : ByteArray := prog_3_method_11_code
def y_Pay_passTo : MethodName := ⟨"HoldBook$Payment", "passTo", "(I)V"⟩
abbrev b_Pay_endDispute : ByteArray := prog_3_method_8_code
def y_Pay_endDispute : MethodName := ⟨"HoldBook$Payment", "endDispute", "(Z)V"⟩
abbrev b_Law_charge : ByteArray := method_8_code
def y_Law_charge : MethodName := ⟨"HoldBookLaw", "charge", "(LHoldBook;IJ[J)I"⟩
abbrev b_Hb_charge : ByteArray := prog_1_method_7_code
def y_Hb_charge : MethodName := ⟨"HoldBook", "charge", "(IJ)I"⟩
abbrev b_Pay_openDispute : ByteArray := prog_3_method_6_code
def y_Pay_openDispute : MethodName := ⟨"HoldBook$Payment", "openDispute", "(JI)V"⟩
abbrev b_Law_represent : ByteArray := method_9_code
def y_Law_represent : MethodName := ⟨"HoldBookLaw", "represent", "(LHoldBook;I[J)I"⟩
abbrev b_Hb_represent : ByteArray := prog_1_method_8_code
def y_Hb_represent : MethodName := ⟨"HoldBook", "represent", "(I)I"⟩
abbrev b_Pay_answerDispute : ByteArray := prog_3_method_7_code
def y_Pay_answerDispute : MethodName := ⟨"HoldBook$Payment", "answerDispute", "(I)V"⟩
abbrev b_Law_decide : ByteArray := method_10_code
def y_Law_decide : MethodName := ⟨"HoldBookLaw", "decide", "(LHoldBook;IZ[J)I"⟩
abbrev b_Hb_decide : ByteArray := prog_1_method_9_code
def y_Hb_decide : MethodName := ⟨"HoldBook", "decide", "(IZ)I"⟩
abbrev b_Law_funds : ByteArray := method_11_code
def y_Law_funds : MethodName := ⟨"HoldBookLaw", "funds", "(LHoldBook;II[J)I"⟩
abbrev b_Hb_funds : ByteArray := prog_1_method_11_code
def y_Hb_funds : MethodName := ⟨"HoldBook", "funds", "(II)J"⟩
abbrev b_Hb_checkWhat : ByteArray := prog_1_method_19_code
def y_Hb_checkWhat : MethodName := ⟨"HoldBook", "checkWhat", "(II)V"⟩
abbrev b_Acc_tell : ByteArray := prog_2_method_4_code
def y_Acc_tell : MethodName := ⟨"HoldBook$Account", "tell", "(I)J"⟩
abbrev b_Law_payment : ByteArray := method_12_code
def y_Law_payment : MethodName := ⟨"HoldBookLaw", "payment", "(LHoldBook;II[J)I"⟩
abbrev b_Hb_payment : ByteArray := prog_1_method_12_code
def y_Hb_payment : MethodName := ⟨"HoldBook", "payment", "(II)J"⟩
abbrev b_Pay_tell : ByteArray := prog_3_method_12_code
def y_Pay_tell : MethodName := ⟨"HoldBook$Payment", "tell", "(I)J"⟩
abbrev b_Law_key : ByteArray := method_13_code
def y_Law_key : MethodName := ⟨"HoldBookLaw", "key", "(LHoldBook;I[J)I"⟩
abbrev b_Hb_key : ByteArray := prog_1_method_13_code
def y_Hb_key : MethodName := ⟨"HoldBook", "key", "(I)I"⟩
abbrev b_Md_init : ByteArray := prog_5_method_1_code
def y_Md_init : MethodName := ⟨"HoldBookModel", "<init>", "(II)V"⟩
abbrev b_Md_thrown : ByteArray := prog_5_method_2_code
def y_Md_thrown : MethodName := ⟨"HoldBookModel", "thrown", "()I"⟩
abbrev b_Md_account : ByteArray := prog_5_method_10_code
def y_Md_account : MethodName := ⟨"HoldBookModel", "account", "(JJ)I"⟩
abbrev b_Md_ask : ByteArray := prog_5_method_12_code
def y_Md_ask : MethodName := ⟨"HoldBookModel", "ask", "(IIJZ)J"⟩
abbrev b_Md_isKey : ByteArray := prog_5_method_4_code
def y_Md_isKey : MethodName := ⟨"HoldBookModel", "isKey", "(I)Z"⟩
abbrev b_Md_isAmount : ByteArray := prog_5_method_5_code
def y_Md_isAmount : MethodName := ⟨"HoldBookModel", "isAmount", "(J)Z"⟩
abbrev b_Md_goes : ByteArray := prog_5_method_3_code
def y_Md_goes : MethodName := ⟨"HoldBookModel", "goes", "(Z)Z"⟩
abbrev b_Md_place : ByteArray := prog_5_method_6_code
def y_Md_place : MethodName := ⟨"HoldBookModel", "place", "(I)I"⟩
abbrev b_Md_freeOf : ByteArray := prog_5_method_9_code
def y_Md_freeOf : MethodName := ⟨"HoldBookModel", "freeOf", "(I)J"⟩
abbrev b_Md_heldOf : ByteArray := prog_5_method_7_code
def y_Md_heldOf : MethodName := ⟨"HoldBookModel", "heldOf", "(I)J"⟩
abbrev b_Md_lockedOf : ByteArray := prog_5_method_8_code
def y_Md_lockedOf : MethodName := ⟨"HoldBookModel", "lockedOf", "(I)J"⟩
abbrev b_Md_come : ByteArray := prog_5_method_11_code
def y_Md_come : MethodName := ⟨"HoldBookModel", "come", "(II)I"⟩
abbrev b_Md_clear : ByteArray := prog_5_method_14_code
def y_Md_clear : MethodName := ⟨"HoldBookModel", "clear", "(IJZ)J"⟩
abbrev b_Md_ends : ByteArray := prog_5_method_13_code
def y_Md_ends : MethodName := ⟨"HoldBookModel", "ends", "(I)V"⟩
abbrev b_Md_undo : ByteArray := prog_5_method_15_code
def y_Md_undo : MethodName := ⟨"HoldBookModel", "undo", "(IJZ)J"⟩
abbrev b_Md_ticks : ByteArray := prog_5_method_17_code
def y_Md_ticks : MethodName := ⟨"HoldBookModel", "ticks", "(I)I"⟩
abbrev b_Md_closes : ByteArray := prog_5_method_16_code
def y_Md_closes : MethodName := ⟨"HoldBookModel", "closes", "(IZ)V"⟩
abbrev b_Md_charge : ByteArray := prog_5_method_18_code
def y_Md_charge : MethodName := ⟨"HoldBookModel", "charge", "(IJ)I"⟩
abbrev b_Md_represent : ByteArray := prog_5_method_19_code
def y_Md_represent : MethodName := ⟨"HoldBookModel", "represent", "(I)I"⟩
abbrev b_Md_decide : ByteArray := prog_5_method_20_code
def y_Md_decide : MethodName := ⟨"HoldBookModel", "decide", "(IZ)I"⟩
abbrev b_Md_forget : ByteArray := prog_5_method_22_code
def y_Md_forget : MethodName := ⟨"HoldBookModel", "forget", "()I"⟩
abbrev b_Md_stays : ByteArray := prog_5_method_21_code
def y_Md_stays : MethodName := ⟨"HoldBookModel", "stays", "(I)Z"⟩
abbrev b_Md_funds : ByteArray := prog_5_method_23_code
def y_Md_funds : MethodName := ⟨"HoldBookModel", "funds", "(II)J"⟩
abbrev b_Md_payment : ByteArray := prog_5_method_24_code
def y_Md_payment : MethodName := ⟨"HoldBookModel", "payment", "(II)J"⟩
abbrev b_Md_key : ByteArray := prog_5_method_25_code
def y_Md_key : MethodName := ⟨"HoldBookModel", "key", "(I)I"⟩
abbrev b_Md_payments : ByteArray := prog_5_method_26_code
def y_Md_payments : MethodName := ⟨"HoldBookModel", "payments", "()I"⟩
abbrev b_Md_audit : ByteArray := prog_5_method_27_code
def y_Md_audit : MethodName := ⟨"HoldBookModel", "audit", "()I"⟩
abbrev b_Law_law : ByteArray := code
def y_Law_law : MethodName := ⟨"HoldBookLaw", "law", "([I)Z"⟩
end
section
/-! WORDS of the tables, by their places -/
theorem se_Hb_isOver : Cond.selects "HoldBook" ⟨"HoldBook", "isOver", "(LHoldBook$Payment;)Z"⟩ ⟨"HoldBook", "isOver", "(LHoldBook$Payment;)Z"⟩ ∈ hb_tbl := hb_in (List.mem_of_getElem? (i := 0) (by decide +kernel)) (by decide +kernel)
theorem se_Hb_isLongDone : Cond.selects "HoldBook" ⟨"HoldBook", "isLongDone", "(LHoldBook$Payment;)Z"⟩ ⟨"HoldBook", "isLongDone", "(LHoldBook$Payment;)Z"⟩ ∈ hb_tbl := hb_in (List.mem_of_getElem? (i := 1) (by decide +kernel)) (by decide +kernel)
theorem se_Al_fastRemove : Cond.selects "java/util/ArrayList" ⟨"java/util/ArrayList", "fastRemove", "([Ljava/lang/Object;I)V"⟩ ⟨"java/util/ArrayList", "fastRemove", "([Ljava/lang/Object;I)V"⟩ ∈ hb_tbl := hb_in (List.mem_of_getElem? (i := 2) (by decide +kernel)) (by decide +kernel)
theorem se_Hb_agrees : Cond.selects "HoldBook" ⟨"HoldBook", "agrees", "(LHoldBook$Account;)Z"⟩ ⟨"HoldBook", "agrees", "(LHoldBook$Account;)Z"⟩ ∈ hb_tbl := hb_in (List.mem_of_getElem? (i := 3) (by decide +kernel)) (by decide +kernel)
theorem se_Al_add2 : Cond.selects "java/util/ArrayList" ⟨"java/util/ArrayList", "add", "(Ljava/lang/Object;[Ljava/lang/Object;I)V"⟩ ⟨"java/util/ArrayList", "add", "(Ljava/lang/Object;[Ljava/lang/Object;I)V"⟩ ∈ hb_tbl := hb_in (List.mem_of_getElem? (i := 5) (by decide +kernel)) (by decide +kernel)
theorem se_Al_grow1 : Cond.selects "java/util/ArrayList" ⟨"java/util/ArrayList", "grow", "()[Ljava/lang/Object;"⟩ ⟨"java/util/ArrayList", "grow", "()[Ljava/lang/Object;"⟩ ∈ hb_tbl := hb_in (List.mem_of_getElem? (i := 6) (by decide +kernel)) (by decide +kernel)
theorem se_Al_grow2 : Cond.selects "java/util/ArrayList" ⟨"java/util/ArrayList", "grow", "(I)[Ljava/lang/Object;"⟩ ⟨"java/util/ArrayList", "grow", "(I)[Ljava/lang/Object;"⟩ ∈ hb_tbl := hb_in (List.mem_of_getElem? (i := 7) (by decide +kernel)) (by decide +kernel)
theorem se_Hb_checkAccount : Cond.selects "HoldBook" ⟨"HoldBook", "checkAccount", "(I)V"⟩ ⟨"HoldBook", "checkAccount", "(I)V"⟩ ∈ hb_tbl := hb_in (List.mem_of_getElem? (i := 8) (by decide +kernel)) (by decide +kernel)
theorem se_Hb_find : Cond.selects "HoldBook" ⟨"HoldBook", "find", "(I)LHoldBook$Payment;"⟩ ⟨"HoldBook", "find", "(I)LHoldBook$Payment;"⟩ ∈ hb_tbl := hb_in (List.mem_of_getElem? (i := 9) (by decide +kernel)) (by decide +kernel)
theorem se_Hb_placeOf : Cond.selects "HoldBook" ⟨"HoldBook", "placeOf", "(I)I"⟩ ⟨"HoldBook", "placeOf", "(I)I"⟩ ∈ hb_tbl := hb_in (List.mem_of_getElem? (i := 10) (by decide +kernel)) (by decide +kernel)
theorem se_Hb_enter : Cond.selects "HoldBook" ⟨"HoldBook", "enter", "(LHoldBook$Payment;)V"⟩ ⟨"HoldBook", "enter", "(LHoldBook$Payment;)V"⟩ ∈ hb_tbl := hb_in (List.mem_of_getElem? (i := 11) (by decide +kernel)) (by decide +kernel)
theorem se_Al_rangeCheckForAdd : Cond.selects "java/util/ArrayList" ⟨"java/util/ArrayList", "rangeCheckForAdd", "(I)V"⟩ ⟨"java/util/ArrayList", "rangeCheckForAdd", "(I)V"⟩ ∈ hb_tbl := hb_in (List.mem_of_getElem? (i := 12) (by decide +kernel)) (by decide +kernel)
theorem se_Md_goes : Cond.selects "HoldBookModel" ⟨"HoldBookModel", "goes", "(Z)Z"⟩ ⟨"HoldBookModel", "goes", "(Z)Z"⟩ ∈ hb_tbl := hb_in (List.mem_of_getElem? (i := 13) (by decide +kernel)) (by decide +kernel)
theorem se_Md_place : Cond.selects "HoldBookModel" ⟨"HoldBookModel", "place", "(I)I"⟩ ⟨"HoldBookModel", "place", "(I)I"⟩ ∈ hb_tbl := hb_in (List.mem_of_getElem? (i := 14) (by decide +kernel)) (by decide +kernel)
theorem se_Md_freeOf : Cond.selects "HoldBookModel" ⟨"HoldBookModel", "freeOf", "(I)J"⟩ ⟨"HoldBookModel", "freeOf", "(I)J"⟩ ∈ hb_tbl := hb_in (List.mem_of_getElem? (i := 15) (by decide +kernel)) (by decide +kernel)
theorem se_Md_heldOf : Cond.selects "HoldBookModel" ⟨"HoldBookModel", "heldOf", "(I)J"⟩ ⟨"HoldBookModel", "heldOf", "(I)J"⟩ ∈ hb_tbl := hb_in (List.mem_of_getElem? (i := 16) (by decide +kernel)) (by decide +kernel)
theorem se_Md_lockedOf : Cond.selects "HoldBookModel" ⟨"HoldBookModel", "lockedOf", "(I)J"⟩ ⟨"HoldBookModel", "lockedOf", "(I)J"⟩ ∈ hb_tbl := hb_in (List.mem_of_getElem? (i := 17) (by decide +kernel)) (by decide +kernel)
theorem se_Md_come : Cond.selects "HoldBookModel" ⟨"HoldBookModel", "come", "(II)I"⟩ ⟨"HoldBookModel", "come", "(II)I"⟩ ∈ hb_tbl := hb_in (List.mem_of_getElem? (i := 18) (by decide +kernel)) (by decide +kernel)
theorem se_Md_ends : Cond.selects "HoldBookModel" ⟨"HoldBookModel", "ends", "(I)V"⟩ ⟨"HoldBookModel", "ends", "(I)V"⟩ ∈ hb_tbl := hb_in (List.mem_of_getElem? (i := 19) (by decide +kernel)) (by decide +kernel)
theorem se_Md_closes : Cond.selects "HoldBookModel" ⟨"HoldBookModel", "closes", "(IZ)V"⟩ ⟨"HoldBookModel", "closes", "(IZ)V"⟩ ∈ hb_tbl := hb_in (List.mem_of_getElem? (i := 20) (by decide +kernel)) (by decide +kernel)
theorem se_Md_stays : Cond.selects "HoldBookModel" ⟨"HoldBookModel", "stays", "(I)Z"⟩ ⟨"HoldBookModel", "stays", "(I)Z"⟩ ∈ hb_tbl := hb_in (List.mem_of_getElem? (i := 21) (by decide +kernel)) (by decide +kernel)
theorem in_Law : Cond.initialized "HoldBookLaw" ∈ hb_tbl := hb_in (List.mem_of_getElem? (i := 22) (by decide +kernel)) (by decide +kernel)
theorem in_Hb : Cond.initialized "HoldBook" ∈ hb_tbl := hb_in (List.mem_of_getElem? (i := 23) (by decide +kernel)) (by decide +kernel)
theorem in_Col : Cond.initialized "java/util/AbstractCollection" ∈ hb_tbl := hb_in (List.mem_of_getElem? (i := 24) (by decide +kernel)) (by decide +kernel)
theorem in_Abs : Cond.initialized "java/util/AbstractList" ∈ hb_tbl := hb_in (List.mem_of_getElem? (i := 25) (by decide +kernel)) (by decide +kernel)
theorem in_Al : Cond.initialized "java/util/ArrayList" ∈ hb_tbl := hb_in (List.mem_of_getElem? (i := 26) (by decide +kernel)) (by decide +kernel)
theorem in_Acc : Cond.initialized "HoldBook$Account" ∈ hb_tbl := hb_in (List.mem_of_getElem? (i := 27) (by decide +kernel)) (by decide +kernel)
theorem in_Mth : Cond.initialized "java/lang/Math" ∈ hb_tbl := hb_in (List.mem_of_getElem? (i := 28) (by decide +kernel)) (by decide +kernel)
theorem in_Md : Cond.initialized "HoldBookModel" ∈ hb_tbl := hb_in (List.mem_of_getElem? (i := 29) (by decide +kernel)) (by decide +kernel)
theorem in_Iae : Cond.initialized "java/lang/IllegalArgumentException" ∈ hb_tbl := hb_in (List.mem_of_getElem? (i := 33) (by decide +kernel)) (by decide +kernel)
theorem in_Ise : Cond.initialized "java/lang/IllegalStateException" ∈ hb_tbl := hb_in (List.mem_of_getElem? (i := 34) (by decide +kernel)) (by decide +kernel)
theorem in_Sup : Cond.initialized "jdk/internal/util/ArraysSupport" ∈ hb_tbl := hb_in (List.mem_of_getElem? (i := 35) (by decide +kernel)) (by decide +kernel)
theorem in_Ars : Cond.initialized "java/util/Arrays" ∈ hb_tbl := hb_in (List.mem_of_getElem? (i := 36) (by decide +kernel)) (by decide +kernel)
theorem in_Sys : Cond.initialized "java/lang/System" ∈ hb_tbl := hb_in (List.mem_of_getElem? (i := 37) (by decide +kernel)) (by decide +kernel)
theorem in_Obs : Cond.initialized "java/util/Objects" ∈ hb_tbl := hb_in (List.mem_of_getElem? (i := 38) (by decide +kernel)) (by decide +kernel)
theorem in_Prc : Cond.initialized "jdk/internal/util/Preconditions" ∈ hb_tbl := hb_in (List.mem_of_getElem? (i := 39) (by decide +kernel)) (by decide +kernel)
theorem in_Pay : Cond.initialized "HoldBook$Payment" ∈ hb_tbl := hb_in (List.mem_of_getElem? (i := 40) (by decide +kernel)) (by decide +kernel)
theorem kl_Law_8 : Cond.classLink "HoldBookLaw" 8 "HoldBook" ∈ hb_tbl := hb_in (List.mem_of_getElem? (i := 41) (by decide +kernel)) (by decide +kernel)
theorem it_Hb : Cond.instantiable "HoldBook" 6 ∈ hb_tbl := hb_in (List.mem_of_getElem? (i := 42) (by decide +kernel)) (by decide +kernel)
theorem ml_Law_59 : Cond.methodLink "HoldBookLaw" 59 ⟨"HoldBook", "<init>", "(II)V"⟩ ∈ hb_tbl := hb_in (List.mem_of_getElem? (i := 43) (by decide +kernel)) (by decide +kernel)
theorem im_Hb_init : Cond.instanceMethod ⟨"HoldBook", "<init>", "(II)V"⟩ ∈ hb_tbl := hb_in (List.mem_of_getElem? (i := 44) (by decide +kernel)) (by decide +kernel)
theorem cd_Hb_init : Cond.code ⟨"HoldBook", "<init>", "(II)V"⟩ prog_1_method_1_code 3 none ∈ hb_tbl := hb_in (List.mem_of_getElem? (i := 45) (by decide +kernel)) (by decide +kernel)
theorem ml_Hb_1 : Cond.methodLink "HoldBook" 1 ⟨"java/lang/Object", "<init>", "()V"⟩ ∈ hb_tbl := hb_in (List.mem_of_getElem? (i := 46) (by decide +kernel)) (by decide +kernel)
theorem im_Ob_init : Cond.instanceMethod ⟨"java/lang/Object", "<init>", "()V"⟩ ∈ hb_tbl := hb_in (List.mem_of_getElem? (i := 47) (by decide +kernel)) (by decide +kernel)
theorem cd_Ob_init : Cond.code ⟨"java/lang/Object", "<init>", "()V"⟩ object_method_1_code 1 none ∈ hb_tbl := hb_in (List.mem_of_getElem? (i := 48) (by decide +kernel)) (by decide +kernel)
theorem kl_Hb_7 : Cond.classLink "HoldBook" 7 "java/util/ArrayList" ∈ hb_tbl := hb_in (List.mem_of_getElem? (i := 49) (by decide +kernel)) (by decide +kernel)
theorem it_Al : Cond.instantiable "java/util/ArrayList" 3 ∈ hb_tbl := hb_in (List.mem_of_getElem? (i := 50) (by decide +kernel)) (by decide +kernel)
theorem ml_Hb_9 : Cond.methodLink "HoldBook" 9 ⟨"java/util/ArrayList", "<init>", "()V"⟩ ∈ hb_tbl := hb_in (List.mem_of_getElem? (i := 51) (by decide +kernel)) (by decide +kernel)
theorem im_Al_init : Cond.instanceMethod ⟨"java/util/ArrayList", "<init>", "()V"⟩ ∈ hb_tbl := hb_in (List.mem_of_getElem? (i := 52) (by decide +kernel)) (by decide +kernel)
theorem cd_Al_init : Cond.code ⟨"java/util/ArrayList", "<init>", "()V"⟩ prog_19_method_2_code 1 none ∈ hb_tbl := hb_in (List.mem_of_getElem? (i := 53) (by decide +kernel)) (by decide +kernel)
theorem ml_Al_1 : Cond.methodLink "java/util/ArrayList" 1 ⟨"java/util/AbstractList", "<init>", "()V"⟩ ∈ hb_tbl := hb_in (List.mem_of_getElem? (i := 54) (by decide +kernel)) (by decide +kernel)
theorem im_Abs_init : Cond.instanceMethod ⟨"java/util/AbstractList", "<init>", "()V"⟩ ∈ hb_tbl := hb_in (List.mem_of_getElem? (i := 55) (by decide +kernel)) (by decide +kernel)
theorem cd_Abs_init : Cond.code ⟨"java/util/AbstractList", "<init>", "()V"⟩ prog_18_method_1_code 1 none ∈ hb_tbl := hb_in (List.mem_of_getElem? (i := 56) (by decide +kernel)) (by decide +kernel)
theorem ml_Abs_1 : Cond.methodLink "java/util/AbstractList" 1 ⟨"java/util/AbstractCollection", "<init>", "()V"⟩ ∈ hb_tbl := hb_in (List.mem_of_getElem? (i := 57) (by decide +kernel)) (by decide +kernel)
theorem im_Col_init : Cond.instanceMethod ⟨"java/util/AbstractCollection", "<init>", "()V"⟩ ∈ hb_tbl := hb_in (List.mem_of_getElem? (i := 58) (by decide +kernel)) (by decide +kernel)
theorem cd_Col_init : Cond.code ⟨"java/util/AbstractCollection", "<init>", "()V"⟩ prog_17_method_1_code 1 none ∈ hb_tbl := hb_in (List.mem_of_getElem? (i := 59) (by decide +kernel)) (by decide +kernel)
theorem ml_Col_1 : Cond.methodLink "java/util/AbstractCollection" 1 ⟨"java/lang/Object", "<init>", "()V"⟩ ∈ hb_tbl := hb_in (List.mem_of_getElem? (i := 60) (by decide +kernel)) (by decide +kernel)
theorem fl_Al_39 : Cond.fieldLink "java/util/ArrayList" 39 "java/util/ArrayList" "DEFAULTCAPACITY_EMPTY_ELEMENTDATA" "[Ljava/lang/Object;" ∈ hb_tbl := hb_in (List.mem_of_getElem? (i := 61) (by decide +kernel)) (by decide +kernel)
theorem fl_Al_9 : Cond.fieldLink "java/util/ArrayList" 9 "java/util/ArrayList" "elementData" "[Ljava/lang/Object;" ∈ hb_tbl := hb_in (List.mem_of_getElem? (i := 63) (by decide +kernel)) (by decide +kernel)
theorem fl_Al_48 : Cond.fieldLink "java/util/ArrayList" 48 "java/util/ArrayList" "size" "I" ∈ hb_tbl := hb_in (List.mem_of_getElem? (i := 64) (by decide +kernel)) (by decide +kernel)
theorem fl_Abs_7 : Cond.fieldLink "java/util/AbstractList" 7 "java/util/AbstractList" "modCount" "I" ∈ hb_tbl := hb_in (List.mem_of_getElem? (i := 65) (by decide +kernel)) (by decide +kernel)
theorem fl_Al_63 : Cond.fieldLink "java/util/ArrayList" 63 "java/util/ArrayList" "modCount" "I" ∈ hb_tbl := hb_in (List.mem_of_getElem? (i := 66) (by decide +kernel)) (by decide +kernel)
theorem sf_modCount : Cond.sameField "java/util/ArrayList" "java/util/AbstractList" "modCount" "I" ∈ hb_tbl := hb_in (List.mem_of_getElem? (i := 67) (by decide +kernel)) (by decide +kernel)
theorem kl_Hb_19 : Cond.classLink "HoldBook" 19 "HoldBook$Account" ∈ hb_tbl := hb_in (List.mem_of_getElem? (i := 75) (by decide +kernel)) (by decide +kernel)
theorem it_Acc : Cond.instantiable "HoldBook$Account" 6 ∈ hb_tbl := hb_in (List.mem_of_getElem? (i := 76) (by decide +kernel)) (by decide +kernel)
theorem ml_Hb_21 : Cond.methodLink "HoldBook" 21 ⟨"HoldBook$Account", "<init>", "(IJJ)V"⟩ ∈ hb_tbl := hb_in (List.mem_of_getElem? (i := 77) (by decide +kernel)) (by decide +kernel)
theorem im_Acc_init : Cond.instanceMethod ⟨"HoldBook$Account", "<init>", "(IJJ)V"⟩ ∈ hb_tbl := hb_in (List.mem_of_getElem? (i := 78) (by decide +kernel)) (by decide +kernel)
theorem cd_Acc_init : Cond.code ⟨"HoldBook$Account", "<init>", "(IJJ)V"⟩ prog_2_method_1_code 6 none ∈ hb_tbl := hb_in (List.mem_of_getElem? (i := 79) (by decide +kernel)) (by decide +kernel)
theorem ml_Acc_1 : Cond.methodLink "HoldBook$Account" 1 ⟨"java/lang/Object", "<init>", "()V"⟩ ∈ hb_tbl := hb_in (List.mem_of_getElem? (i := 80) (by decide +kernel)) (by decide +kernel)
theorem fl_Acc_16 : Cond.fieldLink "HoldBook$Account" 16 "HoldBook$Account" "number" "I" ∈ hb_tbl := hb_in (List.mem_of_getElem? (i := 81) (by decide +kernel)) (by decide +kernel)
theorem fl_Pay_69 : Cond.fieldLink "HoldBook$Payment" 69 "HoldBook$Account" "number" "I" ∈ hb_tbl := hb_in (List.mem_of_getElem? (i := 82) (by decide +kernel)) (by decide +kernel)
theorem fl_Hb_226 : Cond.fieldLink "HoldBook" 226 "HoldBook$Account" "number" "I" ∈ hb_tbl := hb_in (List.mem_of_getElem? (i := 83) (by decide +kernel)) (by decide +kernel)
theorem fl_Acc_23 : Cond.fieldLink "HoldBook$Account" 23 "HoldBook$Account" "minimum" "J" ∈ hb_tbl := hb_in (List.mem_of_getElem? (i := 84) (by decide +kernel)) (by decide +kernel)
theorem fl_Acc_26 : Cond.fieldLink "HoldBook$Account" 26 "HoldBook$Account" "freeAtFirst" "J" ∈ hb_tbl := hb_in (List.mem_of_getElem? (i := 85) (by decide +kernel)) (by decide +kernel)
theorem fl_Acc_20 : Cond.fieldLink "HoldBook$Account" 20 "HoldBook$Account" "balance" "J" ∈ hb_tbl := hb_in (List.mem_of_getElem? (i := 86) (by decide +kernel)) (by decide +kernel)
theorem fl_Pay_51 : Cond.fieldLink "HoldBook$Payment" 51 "HoldBook$Account" "balance" "J" ∈ hb_tbl := hb_in (List.mem_of_getElem? (i := 87) (by decide +kernel)) (by decide +kernel)
theorem fl_Acc_7 : Cond.fieldLink "HoldBook$Account" 7 "HoldBook$Account" "held" "J" ∈ hb_tbl := hb_in (List.mem_of_getElem? (i := 88) (by decide +kernel)) (by decide +kernel)
theorem fl_Pay_48 : Cond.fieldLink "HoldBook$Payment" 48 "HoldBook$Account" "held" "J" ∈ hb_tbl := hb_in (List.mem_of_getElem? (i := 89) (by decide +kernel)) (by decide +kernel)
theorem fl_Hb_232 : Cond.fieldLink "HoldBook" 232 "HoldBook$Account" "held" "J" ∈ hb_tbl := hb_in (List.mem_of_getElem? (i := 90) (by decide +kernel)) (by decide +kernel)
theorem fl_Acc_13 : Cond.fieldLink "HoldBook$Account" 13 "HoldBook$Account" "locked" "J" ∈ hb_tbl := hb_in (List.mem_of_getElem? (i := 91) (by decide +kernel)) (by decide +kernel)
theorem fl_Pay_54 : Cond.fieldLink "HoldBook$Payment" 54 "HoldBook$Account" "locked" "J" ∈ hb_tbl := hb_in (List.mem_of_getElem? (i := 92) (by decide +kernel)) (by decide +kernel)
theorem fl_Hb_233 : Cond.fieldLink "HoldBook" 233 "HoldBook$Account" "locked" "J" ∈ hb_tbl := hb_in (List.mem_of_getElem? (i := 93) (by decide +kernel)) (by decide +kernel)
theorem ml_Hb_32 : Cond.methodLink "HoldBook" 32 ⟨"HoldBook", "spanOf", "(I)I"⟩ ∈ hb_tbl := hb_in (List.mem_of_getElem? (i := 107) (by decide +kernel)) (by decide +kernel)
theorem st_Hb_spanOf : Cond.static ⟨"HoldBook", "spanOf", "(I)I"⟩ ∈ hb_tbl := hb_in (List.mem_of_getElem? (i := 108) (by decide +kernel)) (by decide +kernel)
theorem cd_Hb_spanOf : Cond.code ⟨"HoldBook", "spanOf", "(I)I"⟩ prog_1_method_16_code 1 (some .int) ∈ hb_tbl := hb_in (List.mem_of_getElem? (i := 109) (by decide +kernel)) (by decide +kernel)
theorem ml_Hb_200 : Cond.methodLink "HoldBook" 200 ⟨"java/lang/Math", "min", "(II)I"⟩ ∈ hb_tbl := hb_in (List.mem_of_getElem? (i := 110) (by decide +kernel)) (by decide +kernel)
theorem st_Mth_min1 : Cond.static ⟨"java/lang/Math", "min", "(II)I"⟩ ∈ hb_tbl := hb_in (List.mem_of_getElem? (i := 111) (by decide +kernel)) (by decide +kernel)
theorem cd_Mth_min1 : Cond.code ⟨"java/lang/Math", "min", "(II)I"⟩ prog_12_method_69_code 2 (some .int) ∈ hb_tbl := hb_in (List.mem_of_getElem? (i := 112) (by decide +kernel)) (by decide +kernel)
theorem ml_Hb_203 : Cond.methodLink "HoldBook" 203 ⟨"java/lang/Math", "max", "(II)I"⟩ ∈ hb_tbl := hb_in (List.mem_of_getElem? (i := 113) (by decide +kernel)) (by decide +kernel)
theorem st_Mth_max : Cond.static ⟨"java/lang/Math", "max", "(II)I"⟩ ∈ hb_tbl := hb_in (List.mem_of_getElem? (i := 114) (by decide +kernel)) (by decide +kernel)
theorem cd_Mth_max : Cond.code ⟨"java/lang/Math", "max", "(II)I"⟩ prog_12_method_65_code 2 (some .int) ∈ hb_tbl := hb_in (List.mem_of_getElem? (i := 115) (by decide +kernel)) (by decide +kernel)
theorem fl_Hb_36 : Cond.fieldLink "HoldBook" 36 "HoldBook" "hold" "I" ∈ hb_tbl := hb_in (List.mem_of_getElem? (i := 116) (by decide +kernel)) (by decide +kernel)
theorem fl_Hb_39 : Cond.fieldLink "HoldBook" 39 "HoldBook" "patience" "I" ∈ hb_tbl := hb_in (List.mem_of_getElem? (i := 117) (by decide +kernel)) (by decide +kernel)
theorem fl_Hb_10 : Cond.fieldLink "HoldBook" 10 "HoldBook" "accounts" "Ljava/util/ArrayList;" ∈ hb_tbl := hb_in (List.mem_of_getElem? (i := 118) (by decide +kernel)) (by decide +kernel)
theorem fl_Hb_16 : Cond.fieldLink "HoldBook" 16 "HoldBook" "payments" "Ljava/util/ArrayList;" ∈ hb_tbl := hb_in (List.mem_of_getElem? (i := 119) (by decide +kernel)) (by decide +kernel)
theorem fl_Hb_24 : Cond.fieldLink "HoldBook" 24 "HoldBook" "nobody" "LHoldBook$Account;" ∈ hb_tbl := hb_in (List.mem_of_getElem? (i := 120) (by decide +kernel)) (by decide +kernel)
theorem fl_Hb_28 : Cond.fieldLink "HoldBook" 28 "HoldBook" "time" "I" ∈ hb_tbl := hb_in (List.mem_of_getElem? (i := 121) (by decide +kernel)) (by decide +kernel)
theorem ml_Law_101 : Cond.methodLink "HoldBookLaw" 101 ⟨"HoldBook", "forget", "()I"⟩ ∈ hb_tbl := hb_in (List.mem_of_getElem? (i := 135) (by decide +kernel)) (by decide +kernel)
theorem im_Hb_forget : Cond.instanceMethod ⟨"HoldBook", "forget", "()I"⟩ ∈ hb_tbl := hb_in (List.mem_of_getElem? (i := 136) (by decide +kernel)) (by decide +kernel)
theorem se_Hb_forget : Cond.selects "HoldBook" ⟨"HoldBook", "forget", "()I"⟩ ⟨"HoldBook", "forget", "()I"⟩ ∈ hb_tbl := hb_in (List.mem_of_getElem? (i := 137) (by decide +kernel)) (by decide +kernel)
theorem cd_Hb_forget : Cond.code ⟨"HoldBook", "forget", "()I"⟩ prog_1_method_10_code 3 (some .int) ∈ hb_tbl := hb_in (List.mem_of_getElem? (i := 138) (by decide +kernel)) (by decide +kernel)
theorem ml_Hb_55 : Cond.methodLink "HoldBook" 55 ⟨"java/util/ArrayList", "size", "()I"⟩ ∈ hb_tbl := hb_in (List.mem_of_getElem? (i := 139) (by decide +kernel)) (by decide +kernel)
theorem im_Al_size : Cond.instanceMethod ⟨"java/util/ArrayList", "size", "()I"⟩ ∈ hb_tbl := hb_in (List.mem_of_getElem? (i := 140) (by decide +kernel)) (by decide +kernel)
theorem se_Al_size : Cond.selects "java/util/ArrayList" ⟨"java/util/ArrayList", "size", "()I"⟩ ⟨"java/util/ArrayList", "size", "()I"⟩ ∈ hb_tbl := hb_in (List.mem_of_getElem? (i := 141) (by decide +kernel)) (by decide +kernel)
theorem cd_Al_size : Cond.code ⟨"java/util/ArrayList", "size", "()I"⟩ prog_19_method_8_code 1 (some .int) ∈ hb_tbl := hb_in (List.mem_of_getElem? (i := 142) (by decide +kernel)) (by decide +kernel)
theorem ml_Hb_87 : Cond.methodLink "HoldBook" 87 ⟨"java/util/ArrayList", "get", "(I)Ljava/lang/Object;"⟩ ∈ hb_tbl := hb_in (List.mem_of_getElem? (i := 143) (by decide +kernel)) (by decide +kernel)
theorem im_Al_get : Cond.instanceMethod ⟨"java/util/ArrayList", "get", "(I)Ljava/lang/Object;"⟩ ∈ hb_tbl := hb_in (List.mem_of_getElem? (i := 144) (by decide +kernel)) (by decide +kernel)
theorem se_Al_get : Cond.selects "java/util/ArrayList" ⟨"java/util/ArrayList", "get", "(I)Ljava/lang/Object;"⟩ ⟨"java/util/ArrayList", "get", "(I)Ljava/lang/Object;"⟩ ∈ hb_tbl := hb_in (List.mem_of_getElem? (i := 145) (by decide +kernel)) (by decide +kernel)
theorem cd_Al_get : Cond.code ⟨"java/util/ArrayList", "get", "(I)Ljava/lang/Object;"⟩ prog_19_method_20_code 2 (some (.object "java/lang/Object")) ∈ hb_tbl := hb_in (List.mem_of_getElem? (i := 146) (by decide +kernel)) (by decide +kernel)
theorem ml_Al_118 : Cond.methodLink "java/util/ArrayList" 118 ⟨"java/util/Objects", "checkIndex", "(II)I"⟩ ∈ hb_tbl := hb_in (List.mem_of_getElem? (i := 147) (by decide +kernel)) (by decide +kernel)
theorem st_Obs_checkIndex : Cond.static ⟨"java/util/Objects", "checkIndex", "(II)I"⟩ ∈ hb_tbl := hb_in (List.mem_of_getElem? (i := 148) (by decide +kernel)) (by decide +kernel)
theorem cd_Obs_checkIndex : Cond.code ⟨"java/util/Objects", "checkIndex", "(II)I"⟩ prog_23_method_17_code 2 (some .int) ∈ hb_tbl := hb_in (List.mem_of_getElem? (i := 149) (by decide +kernel)) (by decide +kernel)
theorem ml_Obs_105 : Cond.methodLink "java/util/Objects" 105 ⟨"jdk/internal/util/Preconditions", "checkIndex", "(IILjava/util/function/BiFunction;)I"⟩ ∈ hb_tbl := hb_in (List.mem_of_getElem? (i := 150) (by decide +kernel)) (by decide +kernel)
theorem st_Prc_checkIndex : Cond.static ⟨"jdk/internal/util/Preconditions", "checkIndex", "(IILjava/util/function/BiFunction;)I"⟩ ∈ hb_tbl := hb_in (List.mem_of_getElem? (i := 151) (by decide +kernel)) (by decide +kernel)
theorem cd_Prc_checkIndex : Cond.code ⟨"jdk/internal/util/Preconditions", "checkIndex", "(IILjava/util/function/BiFunction;)I"⟩ prog_27_method_11_code 3 (some .int) ∈ hb_tbl := hb_in (List.mem_of_getElem? (i := 152) (by decide +kernel)) (by decide +kernel)
theorem ml_Al_123 : Cond.methodLink "java/util/ArrayList" 123 ⟨"java/util/ArrayList", "elementData", "(I)Ljava/lang/Object;"⟩ ∈ hb_tbl := hb_in (List.mem_of_getElem? (i := 153) (by decide +kernel)) (by decide +kernel)
theorem im_Al_elementData : Cond.instanceMethod ⟨"java/util/ArrayList", "elementData", "(I)Ljava/lang/Object;"⟩ ∈ hb_tbl := hb_in (List.mem_of_getElem? (i := 154) (by decide +kernel)) (by decide +kernel)
theorem se_Al_elementData : Cond.selects "java/util/ArrayList" ⟨"java/util/ArrayList", "elementData", "(I)Ljava/lang/Object;"⟩ ⟨"java/util/ArrayList", "elementData", "(I)Ljava/lang/Object;"⟩ ∈ hb_tbl := hb_in (List.mem_of_getElem? (i := 155) (by decide +kernel)) (by decide +kernel)
theorem cd_Al_elementData : Cond.code ⟨"java/util/ArrayList", "elementData", "(I)Ljava/lang/Object;"⟩ prog_19_method_18_code 2 (some (.object "java/lang/Object")) ∈ hb_tbl := hb_in (List.mem_of_getElem? (i := 156) (by decide +kernel)) (by decide +kernel)
theorem kl_Hb_97 : Cond.classLink "HoldBook" 97 "HoldBook$Payment" ∈ hb_tbl := hb_in (List.mem_of_getElem? (i := 157) (by decide +kernel)) (by decide +kernel)
theorem ml_Hb_170 : Cond.methodLink "HoldBook" 170 ⟨"HoldBook", "isOver", "(LHoldBook$Payment;)Z"⟩ ∈ hb_tbl := hb_in (List.mem_of_getElem? (i := 158) (by decide +kernel)) (by decide +kernel)
theorem im_Hb_isOver : Cond.instanceMethod ⟨"HoldBook", "isOver", "(LHoldBook$Payment;)Z"⟩ ∈ hb_tbl := hb_in (List.mem_of_getElem? (i := 160) (by decide +kernel)) (by decide +kernel)
theorem cd_Hb_isOver : Cond.code ⟨"HoldBook", "isOver", "(LHoldBook$Payment;)Z"⟩ prog_1_method_25_code 2 (some .boolean) ∈ hb_tbl := hb_in (List.mem_of_getElem? (i := 161) (by decide +kernel)) (by decide +kernel)
theorem ml_Hb_156 : Cond.methodLink "HoldBook" 156 ⟨"HoldBook", "isLongDone", "(LHoldBook$Payment;)Z"⟩ ∈ hb_tbl := hb_in (List.mem_of_getElem? (i := 162) (by decide +kernel)) (by decide +kernel)
theorem im_Hb_isLongDone : Cond.instanceMethod ⟨"HoldBook", "isLongDone", "(LHoldBook$Payment;)Z"⟩ ∈ hb_tbl := hb_in (List.mem_of_getElem? (i := 164) (by decide +kernel)) (by decide +kernel)
theorem cd_Hb_isLongDone : Cond.code ⟨"HoldBook", "isLongDone", "(LHoldBook$Payment;)Z"⟩ prog_1_method_24_code 2 (some .boolean) ∈ hb_tbl := hb_in (List.mem_of_getElem? (i := 165) (by decide +kernel)) (by decide +kernel)
theorem ml_Hb_173 : Cond.methodLink "HoldBook" 173 ⟨"java/util/ArrayList", "remove", "(I)Ljava/lang/Object;"⟩ ∈ hb_tbl := hb_in (List.mem_of_getElem? (i := 166) (by decide +kernel)) (by decide +kernel)
theorem im_Al_remove : Cond.instanceMethod ⟨"java/util/ArrayList", "remove", "(I)Ljava/lang/Object;"⟩ ∈ hb_tbl := hb_in (List.mem_of_getElem? (i := 167) (by decide +kernel)) (by decide +kernel)
theorem se_Al_remove : Cond.selects "java/util/ArrayList" ⟨"java/util/ArrayList", "remove", "(I)Ljava/lang/Object;"⟩ ⟨"java/util/ArrayList", "remove", "(I)Ljava/lang/Object;"⟩ ∈ hb_tbl := hb_in (List.mem_of_getElem? (i := 168) (by decide +kernel)) (by decide +kernel)
theorem cd_Al_remove : Cond.code ⟨"java/util/ArrayList", "remove", "(I)Ljava/lang/Object;"⟩ prog_19_method_29_code 4 (some (.object "java/lang/Object")) ∈ hb_tbl := hb_in (List.mem_of_getElem? (i := 169) (by decide +kernel)) (by decide +kernel)
theorem ml_Al_144 : Cond.methodLink "java/util/ArrayList" 144 ⟨"java/util/ArrayList", "fastRemove", "([Ljava/lang/Object;I)V"⟩ ∈ hb_tbl := hb_in (List.mem_of_getElem? (i := 170) (by decide +kernel)) (by decide +kernel)
theorem im_Al_fastRemove : Cond.instanceMethod ⟨"java/util/ArrayList", "fastRemove", "([Ljava/lang/Object;I)V"⟩ ∈ hb_tbl := hb_in (List.mem_of_getElem? (i := 172) (by decide +kernel)) (by decide +kernel)
theorem cd_Al_fastRemove : Cond.code ⟨"java/util/ArrayList", "fastRemove", "([Ljava/lang/Object;I)V"⟩ prog_19_method_39_code 4 none ∈ hb_tbl := hb_in (List.mem_of_getElem? (i := 173) (by decide +kernel)) (by decide +kernel)
theorem ml_Al_112 : Cond.methodLink "java/util/ArrayList" 112 ⟨"java/lang/System", "arraycopy", "(Ljava/lang/Object;ILjava/lang/Object;II)V"⟩ ∈ hb_tbl := hb_in (List.mem_of_getElem? (i := 174) (by decide +kernel)) (by decide +kernel)
theorem st_arraycopy : Cond.static ⟨"java/lang/System", "arraycopy", "(Ljava/lang/Object;ILjava/lang/Object;II)V"⟩ ∈ hb_tbl := hb_in (List.mem_of_getElem? (i := 175) (by decide +kernel)) (by decide +kernel)
theorem nv_arraycopy : Cond.native ⟨"java/lang/System", "arraycopy", "(Ljava/lang/Object;ILjava/lang/Object;II)V"⟩ ∈ hb_tbl := hb_in (List.mem_of_getElem? (i := 176) (by decide +kernel)) (by decide +kernel)
theorem ml_Law_115 : Cond.methodLink "HoldBookLaw" 115 ⟨"HoldBook", "payments", "()I"⟩ ∈ hb_tbl := hb_in (List.mem_of_getElem? (i := 177) (by decide +kernel)) (by decide +kernel)
theorem im_Hb_payments : Cond.instanceMethod ⟨"HoldBook", "payments", "()I"⟩ ∈ hb_tbl := hb_in (List.mem_of_getElem? (i := 178) (by decide +kernel)) (by decide +kernel)
theorem se_Hb_payments : Cond.selects "HoldBook" ⟨"HoldBook", "payments", "()I"⟩ ⟨"HoldBook", "payments", "()I"⟩ ∈ hb_tbl := hb_in (List.mem_of_getElem? (i := 179) (by decide +kernel)) (by decide +kernel)
theorem cd_Hb_payments : Cond.code ⟨"HoldBook", "payments", "()I"⟩ prog_1_method_14_code 1 (some .int) ∈ hb_tbl := hb_in (List.mem_of_getElem? (i := 180) (by decide +kernel)) (by decide +kernel)
theorem ml_Law_119 : Cond.methodLink "HoldBookLaw" 119 ⟨"HoldBook", "audit", "()I"⟩ ∈ hb_tbl := hb_in (List.mem_of_getElem? (i := 181) (by decide +kernel)) (by decide +kernel)
theorem im_Hb_audit : Cond.instanceMethod ⟨"HoldBook", "audit", "()I"⟩ ∈ hb_tbl := hb_in (List.mem_of_getElem? (i := 182) (by decide +kernel)) (by decide +kernel)
theorem se_Hb_audit : Cond.selects "HoldBook" ⟨"HoldBook", "audit", "()I"⟩ ⟨"HoldBook", "audit", "()I"⟩ ∈ hb_tbl := hb_in (List.mem_of_getElem? (i := 183) (by decide +kernel)) (by decide +kernel)
theorem cd_Hb_audit : Cond.code ⟨"HoldBook", "audit", "()I"⟩ prog_1_method_15_code 4 (some .int) ∈ hb_tbl := hb_in (List.mem_of_getElem? (i := 184) (by decide +kernel)) (by decide +kernel)
theorem ml_Hb_192 : Cond.methodLink "HoldBook" 192 ⟨"HoldBook", "agrees", "(LHoldBook$Account;)Z"⟩ ∈ hb_tbl := hb_in (List.mem_of_getElem? (i := 185) (by decide +kernel)) (by decide +kernel)
theorem im_Hb_agrees : Cond.instanceMethod ⟨"HoldBook", "agrees", "(LHoldBook$Account;)Z"⟩ ∈ hb_tbl := hb_in (List.mem_of_getElem? (i := 187) (by decide +kernel)) (by decide +kernel)
theorem cd_Hb_agrees : Cond.code ⟨"HoldBook", "agrees", "(LHoldBook$Account;)Z"⟩ prog_1_method_26_code 8 (some .boolean) ∈ hb_tbl := hb_in (List.mem_of_getElem? (i := 188) (by decide +kernel)) (by decide +kernel)
theorem ml_Hb_229 : Cond.methodLink "HoldBook" 229 ⟨"HoldBook$Payment", "locked", "()J"⟩ ∈ hb_tbl := hb_in (List.mem_of_getElem? (i := 189) (by decide +kernel)) (by decide +kernel)
theorem im_Pay_locked : Cond.instanceMethod ⟨"HoldBook$Payment", "locked", "()J"⟩ ∈ hb_tbl := hb_in (List.mem_of_getElem? (i := 190) (by decide +kernel)) (by decide +kernel)
theorem se_Pay_locked : Cond.selects "HoldBook$Payment" ⟨"HoldBook$Payment", "locked", "()J"⟩ ⟨"HoldBook$Payment", "locked", "()J"⟩ ∈ hb_tbl := hb_in (List.mem_of_getElem? (i := 191) (by decide +kernel)) (by decide +kernel)
theorem cd_Pay_locked : Cond.code ⟨"HoldBook$Payment", "locked", "()J"⟩ prog_3_method_10_code 1 (some .long) ∈ hb_tbl := hb_in (List.mem_of_getElem? (i := 192) (by decide +kernel)) (by decide +kernel)
theorem ml_Pay_57 : Cond.methodLink "HoldBook$Payment" 57 ⟨"HoldBook$Payment", "isDisputeOpen", "()Z"⟩ ∈ hb_tbl := hb_in (List.mem_of_getElem? (i := 193) (by decide +kernel)) (by decide +kernel)
theorem im_Pay_isDisputeOpen : Cond.instanceMethod ⟨"HoldBook$Payment", "isDisputeOpen", "()Z"⟩ ∈ hb_tbl := hb_in (List.mem_of_getElem? (i := 194) (by decide +kernel)) (by decide +kernel)
theorem se_Pay_isDisputeOpen : Cond.selects "HoldBook$Payment" ⟨"HoldBook$Payment", "isDisputeOpen", "()Z"⟩ ⟨"HoldBook$Payment", "isDisputeOpen", "()Z"⟩ ∈ hb_tbl := hb_in (List.mem_of_getElem? (i := 195) (by decide +kernel)) (by decide +kernel)
theorem cd_Pay_isDisputeOpen : Cond.code ⟨"HoldBook$Payment", "isDisputeOpen", "()Z"⟩ prog_3_method_9_code 1 (some .boolean) ∈ hb_tbl := hb_in (List.mem_of_getElem? (i := 196) (by decide +kernel)) (by decide +kernel)
theorem ml_Hb_196 : Cond.methodLink "HoldBook" 196 ⟨"HoldBook$Account", "isOverdrawn", "()Z"⟩ ∈ hb_tbl := hb_in (List.mem_of_getElem? (i := 197) (by decide +kernel)) (by decide +kernel)
theorem im_Acc_isOverdrawn : Cond.instanceMethod ⟨"HoldBook$Account", "isOverdrawn", "()Z"⟩ ∈ hb_tbl := hb_in (List.mem_of_getElem? (i := 198) (by decide +kernel)) (by decide +kernel)
theorem se_Acc_isOverdrawn : Cond.selects "HoldBook$Account" ⟨"HoldBook$Account", "isOverdrawn", "()Z"⟩ ⟨"HoldBook$Account", "isOverdrawn", "()Z"⟩ ∈ hb_tbl := hb_in (List.mem_of_getElem? (i := 199) (by decide +kernel)) (by decide +kernel)
theorem cd_Acc_isOverdrawn : Cond.code ⟨"HoldBook$Account", "isOverdrawn", "()Z"⟩ prog_2_method_3_code 3 (some .boolean) ∈ hb_tbl := hb_in (List.mem_of_getElem? (i := 200) (by decide +kernel)) (by decide +kernel)
theorem ml_Acc_29 : Cond.methodLink "HoldBook$Account" 29 ⟨"HoldBook$Account", "free", "()J"⟩ ∈ hb_tbl := hb_in (List.mem_of_getElem? (i := 201) (by decide +kernel)) (by decide +kernel)
theorem im_Acc_free : Cond.instanceMethod ⟨"HoldBook$Account", "free", "()J"⟩ ∈ hb_tbl := hb_in (List.mem_of_getElem? (i := 202) (by decide +kernel)) (by decide +kernel)
theorem se_Acc_free : Cond.selects "HoldBook$Account" ⟨"HoldBook$Account", "free", "()J"⟩ ⟨"HoldBook$Account", "free", "()J"⟩ ∈ hb_tbl := hb_in (List.mem_of_getElem? (i := 203) (by decide +kernel)) (by decide +kernel)
theorem cd_Acc_free : Cond.code ⟨"HoldBook$Account", "free", "()J"⟩ prog_2_method_2_code 1 (some .long) ∈ hb_tbl := hb_in (List.mem_of_getElem? (i := 204) (by decide +kernel)) (by decide +kernel)
theorem ml_Law_53 : Cond.methodLink "HoldBookLaw" 53 ⟨"HoldBookLaw", "cell", "([II)I"⟩ ∈ hb_tbl := hb_in (List.mem_of_getElem? (i := 205) (by decide +kernel)) (by decide +kernel)
theorem st_Law_cell : Cond.static ⟨"HoldBookLaw", "cell", "([II)I"⟩ ∈ hb_tbl := hb_in (List.mem_of_getElem? (i := 206) (by decide +kernel)) (by decide +kernel)
theorem cd_Law_cell : Cond.code ⟨"HoldBookLaw", "cell", "([II)I"⟩ method_2_code 2 (some .int) ∈ hb_tbl := hb_in (List.mem_of_getElem? (i := 207) (by decide +kernel)) (by decide +kernel)
theorem ml_Law_67 : Cond.methodLink "HoldBookLaw" 67 ⟨"HoldBookLaw", "account", "(LHoldBook;JJ[J)I"⟩ ∈ hb_tbl := hb_in (List.mem_of_getElem? (i := 208) (by decide +kernel)) (by decide +kernel)
theorem st_Law_account : Cond.static ⟨"HoldBookLaw", "account", "(LHoldBook;JJ[J)I"⟩ ∈ hb_tbl := hb_in (List.mem_of_getElem? (i := 209) (by decide +kernel)) (by decide +kernel)
theorem cd_Law_account : Cond.codeWith ⟨"HoldBookLaw", "account", "(LHoldBook;JJ[J)I"⟩ method_3_code 7 (some .int) [(0, 11, 14, 13), (0, 11, 18, 15)] ∈ hb_tbl := hb_in (List.mem_of_getElem? (i := 210) (by decide +kernel)) (by decide +kernel)
theorem kl_Law_13 : Cond.classLink "HoldBookLaw" 13 "java/lang/IllegalArgumentException" ∈ hb_tbl := hb_in (List.mem_of_getElem? (i := 211) (by decide +kernel)) (by decide +kernel)
theorem kl_Law_15 : Cond.classLink "HoldBookLaw" 15 "java/lang/IllegalStateException" ∈ hb_tbl := hb_in (List.mem_of_getElem? (i := 212) (by decide +kernel)) (by decide +kernel)
theorem ml_Law_7 : Cond.methodLink "HoldBookLaw" 7 ⟨"HoldBook", "account", "(JJ)I"⟩ ∈ hb_tbl := hb_in (List.mem_of_getElem? (i := 213) (by decide +kernel)) (by decide +kernel)
theorem im_Hb_account : Cond.instanceMethod ⟨"HoldBook", "account", "(JJ)I"⟩ ∈ hb_tbl := hb_in (List.mem_of_getElem? (i := 214) (by decide +kernel)) (by decide +kernel)
theorem se_Hb_account : Cond.selects "HoldBook" ⟨"HoldBook", "account", "(JJ)I"⟩ ⟨"HoldBook", "account", "(JJ)I"⟩ ∈ hb_tbl := hb_in (List.mem_of_getElem? (i := 215) (by decide +kernel)) (by decide +kernel)
theorem cd_Hb_account : Cond.code ⟨"HoldBook", "account", "(JJ)I"⟩ prog_1_method_2_code 6 (some .int) ∈ hb_tbl := hb_in (List.mem_of_getElem? (i := 216) (by decide +kernel)) (by decide +kernel)
theorem kc_Hb_42 : Cond.constantLong "HoldBook" 42 (-1000000000000 : Int64) ∈ hb_tbl := hb_in (List.mem_of_getElem? (i := 217) (by decide +kernel)) (by decide +kernel)
theorem kc_Hb_44 : Cond.constantLong "HoldBook" 44 (1000000000000 : Int64) ∈ hb_tbl := hb_in (List.mem_of_getElem? (i := 218) (by decide +kernel)) (by decide +kernel)
theorem kl_Hb_46 : Cond.classLink "HoldBook" 46 "java/lang/IllegalArgumentException" ∈ hb_tbl := hb_in (List.mem_of_getElem? (i := 219) (by decide +kernel)) (by decide +kernel)
theorem ml_Hb_50 : Cond.methodLink "HoldBook" 50 ⟨"java/lang/IllegalArgumentException", "<init>", "(Ljava/lang/String;)V"⟩ ∈ hb_tbl := hb_in (List.mem_of_getElem? (i := 260) (by decide +kernel)) (by decide +kernel)
theorem ac_byte : Cond.arrayClass .byte ∈ hb_tbl := hb_in (List.mem_of_getElem? (i := 285) (by decide +kernel)) (by decide +kernel)
theorem kl_Hb_59 : Cond.classLink "HoldBook" 59 "java/lang/IllegalStateException" ∈ hb_tbl := hb_in (List.mem_of_getElem? (i := 287) (by decide +kernel)) (by decide +kernel)
theorem ml_Hb_63 : Cond.methodLink "HoldBook" 63 ⟨"java/lang/IllegalStateException", "<init>", "(Ljava/lang/String;)V"⟩ ∈ hb_tbl := hb_in (List.mem_of_getElem? (i := 297) (by decide +kernel)) (by decide +kernel)
theorem ml_Hb_64 : Cond.methodLink "HoldBook" 64 ⟨"java/util/ArrayList", "add", "(Ljava/lang/Object;)Z"⟩ ∈ hb_tbl := hb_in (List.mem_of_getElem? (i := 303) (by decide +kernel)) (by decide +kernel)
theorem im_Al_add1 : Cond.instanceMethod ⟨"java/util/ArrayList", "add", "(Ljava/lang/Object;)Z"⟩ ∈ hb_tbl := hb_in (List.mem_of_getElem? (i := 304) (by decide +kernel)) (by decide +kernel)
theorem se_Al_add1 : Cond.selects "java/util/ArrayList" ⟨"java/util/ArrayList", "add", "(Ljava/lang/Object;)Z"⟩ ⟨"java/util/ArrayList", "add", "(Ljava/lang/Object;)Z"⟩ ∈ hb_tbl := hb_in (List.mem_of_getElem? (i := 305) (by decide +kernel)) (by decide +kernel)
theorem cd_Al_add1 : Cond.code ⟨"java/util/ArrayList", "add", "(Ljava/lang/Object;)Z"⟩ prog_19_method_25_code 2 (some .boolean) ∈ hb_tbl := hb_in (List.mem_of_getElem? (i := 306) (by decide +kernel)) (by decide +kernel)
theorem ml_Al_131 : Cond.methodLink "java/util/ArrayList" 131 ⟨"java/util/ArrayList", "add", "(Ljava/lang/Object;[Ljava/lang/Object;I)V"⟩ ∈ hb_tbl := hb_in (List.mem_of_getElem? (i := 307) (by decide +kernel)) (by decide +kernel)
theorem im_Al_add2 : Cond.instanceMethod ⟨"java/util/ArrayList", "add", "(Ljava/lang/Object;[Ljava/lang/Object;I)V"⟩ ∈ hb_tbl := hb_in (List.mem_of_getElem? (i := 309) (by decide +kernel)) (by decide +kernel)
theorem cd_Al_add2 : Cond.code ⟨"java/util/ArrayList", "add", "(Ljava/lang/Object;[Ljava/lang/Object;I)V"⟩ prog_19_method_24_code 4 none ∈ hb_tbl := hb_in (List.mem_of_getElem? (i := 310) (by decide +kernel)) (by decide +kernel)
theorem ml_Al_129 : Cond.methodLink "java/util/ArrayList" 129 ⟨"java/util/ArrayList", "grow", "()[Ljava/lang/Object;"⟩ ∈ hb_tbl := hb_in (List.mem_of_getElem? (i := 311) (by decide +kernel)) (by decide +kernel)
theorem im_Al_grow1 : Cond.instanceMethod ⟨"java/util/ArrayList", "grow", "()[Ljava/lang/Object;"⟩ ∈ hb_tbl := hb_in (List.mem_of_getElem? (i := 313) (by decide +kernel)) (by decide +kernel)
theorem cd_Al_grow1 : Cond.code ⟨"java/util/ArrayList", "grow", "()[Ljava/lang/Object;"⟩ prog_19_method_7_code 1 (some (.array (.object "java/lang/Object"))) ∈ hb_tbl := hb_in (List.mem_of_getElem? (i := 314) (by decide +kernel)) (by decide +kernel)
theorem ml_Al_69 : Cond.methodLink "java/util/ArrayList" 69 ⟨"java/util/ArrayList", "grow", "(I)[Ljava/lang/Object;"⟩ ∈ hb_tbl := hb_in (List.mem_of_getElem? (i := 315) (by decide +kernel)) (by decide +kernel)
theorem im_Al_grow2 : Cond.instanceMethod ⟨"java/util/ArrayList", "grow", "(I)[Ljava/lang/Object;"⟩ ∈ hb_tbl := hb_in (List.mem_of_getElem? (i := 317) (by decide +kernel)) (by decide +kernel)
theorem cd_Al_grow2 : Cond.code ⟨"java/util/ArrayList", "grow", "(I)[Ljava/lang/Object;"⟩ prog_19_method_6_code 4 (some (.array (.object "java/lang/Object"))) ∈ hb_tbl := hb_in (List.mem_of_getElem? (i := 318) (by decide +kernel)) (by decide +kernel)
theorem ml_Al_73 : Cond.methodLink "java/util/ArrayList" 73 ⟨"jdk/internal/util/ArraysSupport", "newLength", "(III)I"⟩ ∈ hb_tbl := hb_in (List.mem_of_getElem? (i := 319) (by decide +kernel)) (by decide +kernel)
theorem st_Sup_newLength : Cond.static ⟨"jdk/internal/util/ArraysSupport", "newLength", "(III)I"⟩ ∈ hb_tbl := hb_in (List.mem_of_getElem? (i := 320) (by decide +kernel)) (by decide +kernel)
theorem cd_Sup_newLength : Cond.code ⟨"jdk/internal/util/ArraysSupport", "newLength", "(III)I"⟩ prog_26_method_27_code 4 (some .int) ∈ hb_tbl := hb_in (List.mem_of_getElem? (i := 321) (by decide +kernel)) (by decide +kernel)
theorem ml_Sup_194 : Cond.methodLink "jdk/internal/util/ArraysSupport" 194 ⟨"java/lang/Math", "max", "(II)I"⟩ ∈ hb_tbl := hb_in (List.mem_of_getElem? (i := 322) (by decide +kernel)) (by decide +kernel)
theorem kc_Sup_200 : Cond.constant "jdk/internal/util/ArraysSupport" 200 (2147483639 : Int32) ∈ hb_tbl := hb_in (List.mem_of_getElem? (i := 323) (by decide +kernel)) (by decide +kernel)
theorem ml_Sup_201 : Cond.methodLink "jdk/internal/util/ArraysSupport" 201 ⟨"jdk/internal/util/ArraysSupport", "hugeLength", "(II)I"⟩ ∈ hb_tbl := hb_in (List.mem_of_getElem? (i := 324) (by decide +kernel)) (by decide +kernel)
theorem st_Sup_hugeLength : Cond.static ⟨"jdk/internal/util/ArraysSupport", "hugeLength", "(II)I"⟩ ∈ hb_tbl := hb_in (List.mem_of_getElem? (i := 325) (by decide +kernel)) (by decide +kernel)
theorem cd_Sup_hugeLength : Cond.code ⟨"jdk/internal/util/ArraysSupport", "hugeLength", "(II)I"⟩ prog_26_method_28_code 3 (some .int) ∈ hb_tbl := hb_in (List.mem_of_getElem? (i := 326) (by decide +kernel)) (by decide +kernel)
theorem ml_Al_66 : Cond.methodLink "java/util/ArrayList" 66 ⟨"java/util/Arrays", "copyOf", "([Ljava/lang/Object;I)[Ljava/lang/Object;"⟩ ∈ hb_tbl := hb_in (List.mem_of_getElem? (i := 327) (by decide +kernel)) (by decide +kernel)
theorem st_Ars_copyOf1 : Cond.static ⟨"java/util/Arrays", "copyOf", "([Ljava/lang/Object;I)[Ljava/lang/Object;"⟩ ∈ hb_tbl := hb_in (List.mem_of_getElem? (i := 328) (by decide +kernel)) (by decide +kernel)
theorem cd_Ars_copyOf1 : Cond.code ⟨"java/util/Arrays", "copyOf", "([Ljava/lang/Object;I)[Ljava/lang/Object;"⟩ prog_20_method_119_code 2 (some (.array (.object "java/lang/Object"))) ∈ hb_tbl := hb_in (List.mem_of_getElem? (i := 329) (by decide +kernel)) (by decide +kernel)
theorem ml_Ars_86 : Cond.methodLink "java/util/Arrays" 86 ⟨"java/lang/Object", "getClass", "()Ljava/lang/Class;"⟩ ∈ hb_tbl := hb_in (List.mem_of_getElem? (i := 330) (by decide +kernel)) (by decide +kernel)
theorem im_getClass : Cond.instanceMethod ⟨"java/lang/Object", "getClass", "()Ljava/lang/Class;"⟩ ∈ hb_tbl := hb_in (List.mem_of_getElem? (i := 331) (by decide +kernel)) (by decide +kernel)
theorem se_getClass_311 : Cond.selects "HoldBook" ⟨"java/lang/Object", "getClass", "()Ljava/lang/Class;"⟩ ⟨"java/lang/Object", "getClass", "()Ljava/lang/Class;"⟩ ∈ hb_tbl := hb_in (List.mem_of_getElem? (i := 333) (by decide +kernel)) (by decide +kernel)
theorem se_getClass_312 : Cond.selects "HoldBook$Account" ⟨"java/lang/Object", "getClass", "()Ljava/lang/Class;"⟩ ⟨"java/lang/Object", "getClass", "()Ljava/lang/Class;"⟩ ∈ hb_tbl := hb_in (List.mem_of_getElem? (i := 334) (by decide +kernel)) (by decide +kernel)
theorem se_getClass_313 : Cond.selects "HoldBook$Payment" ⟨"java/lang/Object", "getClass", "()Ljava/lang/Class;"⟩ ⟨"java/lang/Object", "getClass", "()Ljava/lang/Class;"⟩ ∈ hb_tbl := hb_in (List.mem_of_getElem? (i := 335) (by decide +kernel)) (by decide +kernel)
theorem se_getClass_314 : Cond.selects "HoldBookModel" ⟨"java/lang/Object", "getClass", "()Ljava/lang/Class;"⟩ ⟨"java/lang/Object", "getClass", "()Ljava/lang/Class;"⟩ ∈ hb_tbl := hb_in (List.mem_of_getElem? (i := 336) (by decide +kernel)) (by decide +kernel)
theorem se_getClass_315 : Cond.selects "java/lang/IllegalArgumentException" ⟨"java/lang/Object", "getClass", "()Ljava/lang/Class;"⟩ ⟨"java/lang/Object", "getClass", "()Ljava/lang/Class;"⟩ ∈ hb_tbl := hb_in (List.mem_of_getElem? (i := 337) (by decide +kernel)) (by decide +kernel)
theorem se_getClass_316 : Cond.selects "java/lang/IllegalStateException" ⟨"java/lang/Object", "getClass", "()Ljava/lang/Class;"⟩ ⟨"java/lang/Object", "getClass", "()Ljava/lang/Class;"⟩ ∈ hb_tbl := hb_in (List.mem_of_getElem? (i := 338) (by decide +kernel)) (by decide +kernel)
theorem se_getClass_317 : Cond.selects "java/util/ArrayList" ⟨"java/lang/Object", "getClass", "()Ljava/lang/Class;"⟩ ⟨"java/lang/Object", "getClass", "()Ljava/lang/Class;"⟩ ∈ hb_tbl := hb_in (List.mem_of_getElem? (i := 339) (by decide +kernel)) (by decide +kernel)
theorem nv_getClass : Cond.native ⟨"java/lang/Object", "getClass", "()Ljava/lang/Class;"⟩ ∈ hb_tbl := hb_in (List.mem_of_getElem? (i := 340) (by decide +kernel)) (by decide +kernel)
theorem ml_Ars_300 : Cond.methodLink "java/util/Arrays" 300 ⟨"java/util/Arrays", "copyOf", "([Ljava/lang/Object;ILjava/lang/Class;)[Ljava/lang/Object;"⟩ ∈ hb_tbl := hb_in (List.mem_of_getElem? (i := 341) (by decide +kernel)) (by decide +kernel)
theorem st_Ars_copyOf2 : Cond.static ⟨"java/util/Arrays", "copyOf", "([Ljava/lang/Object;ILjava/lang/Class;)[Ljava/lang/Object;"⟩ ∈ hb_tbl := hb_in (List.mem_of_getElem? (i := 342) (by decide +kernel)) (by decide +kernel)
theorem cd_Ars_copyOf2 : Cond.code ⟨"java/util/Arrays", "copyOf", "([Ljava/lang/Object;ILjava/lang/Class;)[Ljava/lang/Object;"⟩ prog_20_method_120_code 4 (some (.array (.object "java/lang/Object"))) ∈ hb_tbl := hb_in (List.mem_of_getElem? (i := 343) (by decide +kernel)) (by decide +kernel)
theorem kl_Ars_110 : Cond.classLink "java/util/Arrays" 110 "[Ljava/lang/Object;" ∈ hb_tbl := hb_in (List.mem_of_getElem? (i := 344) (by decide +kernel)) (by decide +kernel)
theorem kl_Ars_2 : Cond.classLink "java/util/Arrays" 2 "java/lang/Object" ∈ hb_tbl := hb_in (List.mem_of_getElem? (i := 346) (by decide +kernel)) (by decide +kernel)
theorem ml_Ars_304 : Cond.methodLink "java/util/Arrays" 304 ⟨"java/lang/Math", "min", "(II)I"⟩ ∈ hb_tbl := hb_in (List.mem_of_getElem? (i := 347) (by decide +kernel)) (by decide +kernel)
theorem ml_Ars_150 : Cond.methodLink "java/util/Arrays" 150 ⟨"java/lang/System", "arraycopy", "(Ljava/lang/Object;ILjava/lang/Object;II)V"⟩ ∈ hb_tbl := hb_in (List.mem_of_getElem? (i := 348) (by decide +kernel)) (by decide +kernel)
theorem ml_Al_79 : Cond.methodLink "java/util/ArrayList" 79 ⟨"java/lang/Math", "max", "(II)I"⟩ ∈ hb_tbl := hb_in (List.mem_of_getElem? (i := 349) (by decide +kernel)) (by decide +kernel)
theorem kl_Al_7 : Cond.classLink "java/util/ArrayList" 7 "java/lang/Object" ∈ hb_tbl := hb_in (List.mem_of_getElem? (i := 350) (by decide +kernel)) (by decide +kernel)
theorem ml_Law_75 : Cond.methodLink "HoldBookLaw" 75 ⟨"HoldBookLaw", "ask", "(LHoldBook;IIJZ[J)I"⟩ ∈ hb_tbl := hb_in (List.mem_of_getElem? (i := 351) (by decide +kernel)) (by decide +kernel)
theorem st_Law_ask : Cond.static ⟨"HoldBookLaw", "ask", "(LHoldBook;IIJZ[J)I"⟩ ∈ hb_tbl := hb_in (List.mem_of_getElem? (i := 352) (by decide +kernel)) (by decide +kernel)
theorem cd_Law_ask : Cond.codeWith ⟨"HoldBookLaw", "ask", "(LHoldBook;IIJZ[J)I"⟩ method_4_code 8 (some .int) [(0, 13, 16, 13)] ∈ hb_tbl := hb_in (List.mem_of_getElem? (i := 353) (by decide +kernel)) (by decide +kernel)
theorem ml_Law_17 : Cond.methodLink "HoldBookLaw" 17 ⟨"HoldBook", "ask", "(IIJZ)J"⟩ ∈ hb_tbl := hb_in (List.mem_of_getElem? (i := 354) (by decide +kernel)) (by decide +kernel)
theorem im_Hb_ask : Cond.instanceMethod ⟨"HoldBook", "ask", "(IIJZ)J"⟩ ∈ hb_tbl := hb_in (List.mem_of_getElem? (i := 355) (by decide +kernel)) (by decide +kernel)
theorem se_Hb_ask : Cond.selects "HoldBook" ⟨"HoldBook", "ask", "(IIJZ)J"⟩ ⟨"HoldBook", "ask", "(IIJZ)J"⟩ ∈ hb_tbl := hb_in (List.mem_of_getElem? (i := 356) (by decide +kernel)) (by decide +kernel)
theorem cd_Hb_ask : Cond.code ⟨"HoldBook", "ask", "(IIJZ)J"⟩ prog_1_method_3_code 10 (some .long) ∈ hb_tbl := hb_in (List.mem_of_getElem? (i := 357) (by decide +kernel)) (by decide +kernel)
theorem ml_Hb_68 : Cond.methodLink "HoldBook" 68 ⟨"HoldBook", "checkKey", "(I)V"⟩ ∈ hb_tbl := hb_in (List.mem_of_getElem? (i := 358) (by decide +kernel)) (by decide +kernel)
theorem st_Hb_checkKey : Cond.static ⟨"HoldBook", "checkKey", "(I)V"⟩ ∈ hb_tbl := hb_in (List.mem_of_getElem? (i := 359) (by decide +kernel)) (by decide +kernel)
theorem cd_Hb_checkKey : Cond.code ⟨"HoldBook", "checkKey", "(I)V"⟩ prog_1_method_17_code 1 none ∈ hb_tbl := hb_in (List.mem_of_getElem? (i := 360) (by decide +kernel)) (by decide +kernel)
theorem kc_Hb_145 : Cond.constant "HoldBook" 145 (1000000 : Int32) ∈ hb_tbl := hb_in (List.mem_of_getElem? (i := 361) (by decide +kernel)) (by decide +kernel)
theorem ml_Hb_72 : Cond.methodLink "HoldBook" 72 ⟨"HoldBook", "checkAccount", "(I)V"⟩ ∈ hb_tbl := hb_in (List.mem_of_getElem? (i := 363) (by decide +kernel)) (by decide +kernel)
theorem im_Hb_checkAccount : Cond.instanceMethod ⟨"HoldBook", "checkAccount", "(I)V"⟩ ∈ hb_tbl := hb_in (List.mem_of_getElem? (i := 365) (by decide +kernel)) (by decide +kernel)
theorem cd_Hb_checkAccount : Cond.code ⟨"HoldBook", "checkAccount", "(I)V"⟩ prog_1_method_20_code 2 none ∈ hb_tbl := hb_in (List.mem_of_getElem? (i := 366) (by decide +kernel)) (by decide +kernel)
theorem ml_Hb_75 : Cond.methodLink "HoldBook" 75 ⟨"HoldBook", "checkAmount", "(J)V"⟩ ∈ hb_tbl := hb_in (List.mem_of_getElem? (i := 368) (by decide +kernel)) (by decide +kernel)
theorem st_Hb_checkAmount : Cond.static ⟨"HoldBook", "checkAmount", "(J)V"⟩ ∈ hb_tbl := hb_in (List.mem_of_getElem? (i := 369) (by decide +kernel)) (by decide +kernel)
theorem cd_Hb_checkAmount : Cond.code ⟨"HoldBook", "checkAmount", "(J)V"⟩ prog_1_method_18_code 2 none ∈ hb_tbl := hb_in (List.mem_of_getElem? (i := 370) (by decide +kernel)) (by decide +kernel)
theorem ml_Hb_79 : Cond.methodLink "HoldBook" 79 ⟨"HoldBook", "find", "(I)LHoldBook$Payment;"⟩ ∈ hb_tbl := hb_in (List.mem_of_getElem? (i := 372) (by decide +kernel)) (by decide +kernel)
theorem im_Hb_find : Cond.instanceMethod ⟨"HoldBook", "find", "(I)LHoldBook$Payment;"⟩ ∈ hb_tbl := hb_in (List.mem_of_getElem? (i := 374) (by decide +kernel)) (by decide +kernel)
theorem cd_Hb_find : Cond.code ⟨"HoldBook", "find", "(I)LHoldBook$Payment;"⟩ prog_1_method_22_code 4 (some (.object "HoldBook$Payment")) ∈ hb_tbl := hb_in (List.mem_of_getElem? (i := 375) (by decide +kernel)) (by decide +kernel)
theorem ml_Hb_214 : Cond.methodLink "HoldBook" 214 ⟨"HoldBook", "placeOf", "(I)I"⟩ ∈ hb_tbl := hb_in (List.mem_of_getElem? (i := 376) (by decide +kernel)) (by decide +kernel)
theorem im_Hb_placeOf : Cond.instanceMethod ⟨"HoldBook", "placeOf", "(I)I"⟩ ∈ hb_tbl := hb_in (List.mem_of_getElem? (i := 378) (by decide +kernel)) (by decide +kernel)
theorem cd_Hb_placeOf : Cond.code ⟨"HoldBook", "placeOf", "(I)I"⟩ prog_1_method_21_code 3 (some .int) ∈ hb_tbl := hb_in (List.mem_of_getElem? (i := 379) (by decide +kernel)) (by decide +kernel)
theorem kc_Hb_83 : Cond.constantLong "HoldBook" 83 (-8 : Int64) ∈ hb_tbl := hb_in (List.mem_of_getElem? (i := 380) (by decide +kernel)) (by decide +kernel)
theorem kc_Hb_85 : Cond.constantLong "HoldBook" 85 (-2 : Int64) ∈ hb_tbl := hb_in (List.mem_of_getElem? (i := 381) (by decide +kernel)) (by decide +kernel)
theorem ml_Hb_91 : Cond.methodLink "HoldBook" 91 ⟨"HoldBook$Account", "free", "()J"⟩ ∈ hb_tbl := hb_in (List.mem_of_getElem? (i := 382) (by decide +kernel)) (by decide +kernel)
theorem kc_Hb_95 : Cond.constantLong "HoldBook" 95 (-12 : Int64) ∈ hb_tbl := hb_in (List.mem_of_getElem? (i := 383) (by decide +kernel)) (by decide +kernel)
theorem it_Pay : Cond.instantiable "HoldBook$Payment" 10 ∈ hb_tbl := hb_in (List.mem_of_getElem? (i := 384) (by decide +kernel)) (by decide +kernel)
theorem ml_Hb_99 : Cond.methodLink "HoldBook" 99 ⟨"HoldBook$Payment", "<init>", "(ILHoldBook$Account;)V"⟩ ∈ hb_tbl := hb_in (List.mem_of_getElem? (i := 385) (by decide +kernel)) (by decide +kernel)
theorem im_Pay_init : Cond.instanceMethod ⟨"HoldBook$Payment", "<init>", "(ILHoldBook$Account;)V"⟩ ∈ hb_tbl := hb_in (List.mem_of_getElem? (i := 386) (by decide +kernel)) (by decide +kernel)
theorem cd_Pay_init : Cond.code ⟨"HoldBook$Payment", "<init>", "(ILHoldBook$Account;)V"⟩ prog_3_method_1_code 3 none ∈ hb_tbl := hb_in (List.mem_of_getElem? (i := 387) (by decide +kernel)) (by decide +kernel)
theorem ml_Pay_3 : Cond.methodLink "HoldBook$Payment" 3 ⟨"java/lang/Object", "<init>", "()V"⟩ ∈ hb_tbl := hb_in (List.mem_of_getElem? (i := 388) (by decide +kernel)) (by decide +kernel)
theorem fl_Pay_37 : Cond.fieldLink "HoldBook$Payment" 37 "HoldBook$Payment" "key" "I" ∈ hb_tbl := hb_in (List.mem_of_getElem? (i := 389) (by decide +kernel)) (by decide +kernel)
theorem fl_Hb_189 : Cond.fieldLink "HoldBook" 189 "HoldBook$Payment" "key" "I" ∈ hb_tbl := hb_in (List.mem_of_getElem? (i := 390) (by decide +kernel)) (by decide +kernel)
theorem fl_Pay_40 : Cond.fieldLink "HoldBook$Payment" 40 "HoldBook$Payment" "account" "LHoldBook$Account;" ∈ hb_tbl := hb_in (List.mem_of_getElem? (i := 391) (by decide +kernel)) (by decide +kernel)
theorem fl_Hb_223 : Cond.fieldLink "HoldBook" 223 "HoldBook$Payment" "account" "LHoldBook$Account;" ∈ hb_tbl := hb_in (List.mem_of_getElem? (i := 392) (by decide +kernel)) (by decide +kernel)
theorem fl_Pay_11 : Cond.fieldLink "HoldBook$Payment" 11 "HoldBook$Payment" "state" "I" ∈ hb_tbl := hb_in (List.mem_of_getElem? (i := 393) (by decide +kernel)) (by decide +kernel)
theorem fl_Hb_122 : Cond.fieldLink "HoldBook" 122 "HoldBook$Payment" "state" "I" ∈ hb_tbl := hb_in (List.mem_of_getElem? (i := 394) (by decide +kernel)) (by decide +kernel)
theorem fl_Pay_15 : Cond.fieldLink "HoldBook$Payment" 15 "HoldBook$Payment" "held" "J" ∈ hb_tbl := hb_in (List.mem_of_getElem? (i := 395) (by decide +kernel)) (by decide +kernel)
theorem fl_Hb_116 : Cond.fieldLink "HoldBook" 116 "HoldBook$Payment" "held" "J" ∈ hb_tbl := hb_in (List.mem_of_getElem? (i := 396) (by decide +kernel)) (by decide +kernel)
theorem fl_Pay_19 : Cond.fieldLink "HoldBook$Payment" 19 "HoldBook$Payment" "cleared" "J" ∈ hb_tbl := hb_in (List.mem_of_getElem? (i := 397) (by decide +kernel)) (by decide +kernel)
theorem fl_Hb_137 : Cond.fieldLink "HoldBook" 137 "HoldBook$Payment" "cleared" "J" ∈ hb_tbl := hb_in (List.mem_of_getElem? (i := 398) (by decide +kernel)) (by decide +kernel)
theorem fl_Pay_22 : Cond.fieldLink "HoldBook$Payment" 22 "HoldBook$Payment" "until" "I" ∈ hb_tbl := hb_in (List.mem_of_getElem? (i := 399) (by decide +kernel)) (by decide +kernel)
theorem fl_Pay_25 : Cond.fieldLink "HoldBook$Payment" 25 "HoldBook$Payment" "since" "I" ∈ hb_tbl := hb_in (List.mem_of_getElem? (i := 400) (by decide +kernel)) (by decide +kernel)
theorem fl_Hb_220 : Cond.fieldLink "HoldBook" 220 "HoldBook$Payment" "since" "I" ∈ hb_tbl := hb_in (List.mem_of_getElem? (i := 401) (by decide +kernel)) (by decide +kernel)
theorem fl_Pay_28 : Cond.fieldLink "HoldBook$Payment" 28 "HoldBook$Payment" "dispute" "I" ∈ hb_tbl := hb_in (List.mem_of_getElem? (i := 402) (by decide +kernel)) (by decide +kernel)
theorem fl_Hb_153 : Cond.fieldLink "HoldBook" 153 "HoldBook$Payment" "dispute" "I" ∈ hb_tbl := hb_in (List.mem_of_getElem? (i := 403) (by decide +kernel)) (by decide +kernel)
theorem fl_Pay_31 : Cond.fieldLink "HoldBook$Payment" 31 "HoldBook$Payment" "disputed" "J" ∈ hb_tbl := hb_in (List.mem_of_getElem? (i := 404) (by decide +kernel)) (by decide +kernel)
theorem fl_Pay_34 : Cond.fieldLink "HoldBook$Payment" 34 "HoldBook$Payment" "disputeUntil" "I" ∈ hb_tbl := hb_in (List.mem_of_getElem? (i := 405) (by decide +kernel)) (by decide +kernel)
theorem ml_Hb_102 : Cond.methodLink "HoldBook" 102 ⟨"java/lang/Math", "min", "(JJ)J"⟩ ∈ hb_tbl := hb_in (List.mem_of_getElem? (i := 427) (by decide +kernel)) (by decide +kernel)
theorem st_Mth_min2 : Cond.static ⟨"java/lang/Math", "min", "(JJ)J"⟩ ∈ hb_tbl := hb_in (List.mem_of_getElem? (i := 428) (by decide +kernel)) (by decide +kernel)
theorem cd_Mth_min2 : Cond.code ⟨"java/lang/Math", "min", "(JJ)J"⟩ prog_12_method_70_code 4 (some .long) ∈ hb_tbl := hb_in (List.mem_of_getElem? (i := 429) (by decide +kernel)) (by decide +kernel)
theorem ml_Hb_108 : Cond.methodLink "HoldBook" 108 ⟨"HoldBook$Payment", "holdUntil", "(JI)V"⟩ ∈ hb_tbl := hb_in (List.mem_of_getElem? (i := 430) (by decide +kernel)) (by decide +kernel)
theorem im_Pay_holdUntil : Cond.instanceMethod ⟨"HoldBook$Payment", "holdUntil", "(JI)V"⟩ ∈ hb_tbl := hb_in (List.mem_of_getElem? (i := 431) (by decide +kernel)) (by decide +kernel)
theorem se_Pay_holdUntil : Cond.selects "HoldBook$Payment" ⟨"HoldBook$Payment", "holdUntil", "(JI)V"⟩ ⟨"HoldBook$Payment", "holdUntil", "(JI)V"⟩ ∈ hb_tbl := hb_in (List.mem_of_getElem? (i := 432) (by decide +kernel)) (by decide +kernel)
theorem cd_Pay_holdUntil : Cond.code ⟨"HoldBook$Payment", "holdUntil", "(JI)V"⟩ prog_3_method_2_code 4 none ∈ hb_tbl := hb_in (List.mem_of_getElem? (i := 433) (by decide +kernel)) (by decide +kernel)
theorem ml_Pay_44 : Cond.methodLink "HoldBook$Payment" 44 ⟨"HoldBook$Payment", "keepHeld", "(J)V"⟩ ∈ hb_tbl := hb_in (List.mem_of_getElem? (i := 434) (by decide +kernel)) (by decide +kernel)
theorem im_Pay_keepHeld : Cond.instanceMethod ⟨"HoldBook$Payment", "keepHeld", "(J)V"⟩ ∈ hb_tbl := hb_in (List.mem_of_getElem? (i := 435) (by decide +kernel)) (by decide +kernel)
theorem se_Pay_keepHeld : Cond.selects "HoldBook$Payment" ⟨"HoldBook$Payment", "keepHeld", "(J)V"⟩ ⟨"HoldBook$Payment", "keepHeld", "(J)V"⟩ ∈ hb_tbl := hb_in (List.mem_of_getElem? (i := 436) (by decide +kernel)) (by decide +kernel)
theorem cd_Pay_keepHeld : Cond.code ⟨"HoldBook$Payment", "keepHeld", "(J)V"⟩ prog_3_method_3_code 3 none ∈ hb_tbl := hb_in (List.mem_of_getElem? (i := 437) (by decide +kernel)) (by decide +kernel)
theorem ml_Hb_112 : Cond.methodLink "HoldBook" 112 ⟨"HoldBook", "enter", "(LHoldBook$Payment;)V"⟩ ∈ hb_tbl := hb_in (List.mem_of_getElem? (i := 438) (by decide +kernel)) (by decide +kernel)
theorem im_Hb_enter : Cond.instanceMethod ⟨"HoldBook", "enter", "(LHoldBook$Payment;)V"⟩ ∈ hb_tbl := hb_in (List.mem_of_getElem? (i := 440) (by decide +kernel)) (by decide +kernel)
theorem cd_Hb_enter : Cond.code ⟨"HoldBook", "enter", "(LHoldBook$Payment;)V"⟩ prog_1_method_23_code 2 none ∈ hb_tbl := hb_in (List.mem_of_getElem? (i := 441) (by decide +kernel)) (by decide +kernel)
theorem ml_Hb_217 : Cond.methodLink "HoldBook" 217 ⟨"java/util/ArrayList", "add", "(ILjava/lang/Object;)V"⟩ ∈ hb_tbl := hb_in (List.mem_of_getElem? (i := 442) (by decide +kernel)) (by decide +kernel)
theorem im_Al_add3 : Cond.instanceMethod ⟨"java/util/ArrayList", "add", "(ILjava/lang/Object;)V"⟩ ∈ hb_tbl := hb_in (List.mem_of_getElem? (i := 443) (by decide +kernel)) (by decide +kernel)
theorem se_Al_add3 : Cond.selects "java/util/ArrayList" ⟨"java/util/ArrayList", "add", "(ILjava/lang/Object;)V"⟩ ⟨"java/util/ArrayList", "add", "(ILjava/lang/Object;)V"⟩ ∈ hb_tbl := hb_in (List.mem_of_getElem? (i := 444) (by decide +kernel)) (by decide +kernel)
theorem cd_Al_add3 : Cond.code ⟨"java/util/ArrayList", "add", "(ILjava/lang/Object;)V"⟩ prog_19_method_26_code 5 none ∈ hb_tbl := hb_in (List.mem_of_getElem? (i := 445) (by decide +kernel)) (by decide +kernel)
theorem ml_Al_135 : Cond.methodLink "java/util/ArrayList" 135 ⟨"java/util/ArrayList", "rangeCheckForAdd", "(I)V"⟩ ∈ hb_tbl := hb_in (List.mem_of_getElem? (i := 446) (by decide +kernel)) (by decide +kernel)
theorem im_Al_rangeCheckForAdd : Cond.instanceMethod ⟨"java/util/ArrayList", "rangeCheckForAdd", "(I)V"⟩ ∈ hb_tbl := hb_in (List.mem_of_getElem? (i := 448) (by decide +kernel)) (by decide +kernel)
theorem cd_Al_rangeCheckForAdd : Cond.code ⟨"java/util/ArrayList", "rangeCheckForAdd", "(I)V"⟩ prog_19_method_45_code 2 none ∈ hb_tbl := hb_in (List.mem_of_getElem? (i := 449) (by decide +kernel)) (by decide +kernel)
theorem ml_Law_79 : Cond.methodLink "HoldBookLaw" 79 ⟨"HoldBookLaw", "clear", "(LHoldBook;IJZ[J)I"⟩ ∈ hb_tbl := hb_in (List.mem_of_getElem? (i := 450) (by decide +kernel)) (by decide +kernel)
theorem st_Law_clear : Cond.static ⟨"HoldBookLaw", "clear", "(LHoldBook;IJZ[J)I"⟩ ∈ hb_tbl := hb_in (List.mem_of_getElem? (i := 451) (by decide +kernel)) (by decide +kernel)
theorem cd_Law_clear : Cond.codeWith ⟨"HoldBookLaw", "clear", "(LHoldBook;IJZ[J)I"⟩ method_5_code 7 (some .int) [(0, 12, 15, 13)] ∈ hb_tbl := hb_in (List.mem_of_getElem? (i := 452) (by decide +kernel)) (by decide +kernel)
theorem ml_Law_21 : Cond.methodLink "HoldBookLaw" 21 ⟨"HoldBook", "clear", "(IJZ)J"⟩ ∈ hb_tbl := hb_in (List.mem_of_getElem? (i := 453) (by decide +kernel)) (by decide +kernel)
theorem im_Hb_clear : Cond.instanceMethod ⟨"HoldBook", "clear", "(IJZ)J"⟩ ∈ hb_tbl := hb_in (List.mem_of_getElem? (i := 454) (by decide +kernel)) (by decide +kernel)
theorem se_Hb_clear : Cond.selects "HoldBook" ⟨"HoldBook", "clear", "(IJZ)J"⟩ ⟨"HoldBook", "clear", "(IJZ)J"⟩ ∈ hb_tbl := hb_in (List.mem_of_getElem? (i := 455) (by decide +kernel)) (by decide +kernel)
theorem cd_Hb_clear : Cond.code ⟨"HoldBook", "clear", "(IJZ)J"⟩ prog_1_method_4_code 6 (some .long) ∈ hb_tbl := hb_in (List.mem_of_getElem? (i := 456) (by decide +kernel)) (by decide +kernel)
theorem kc_Hb_120 : Cond.constantLong "HoldBook" 120 (-6 : Int64) ∈ hb_tbl := hb_in (List.mem_of_getElem? (i := 457) (by decide +kernel)) (by decide +kernel)
theorem kc_Hb_125 : Cond.constantLong "HoldBook" 125 (-9 : Int64) ∈ hb_tbl := hb_in (List.mem_of_getElem? (i := 458) (by decide +kernel)) (by decide +kernel)
theorem kc_Hb_127 : Cond.constantLong "HoldBook" 127 (-11 : Int64) ∈ hb_tbl := hb_in (List.mem_of_getElem? (i := 459) (by decide +kernel)) (by decide +kernel)
theorem ml_Hb_129 : Cond.methodLink "HoldBook" 129 ⟨"HoldBook$Payment", "take", "(J)V"⟩ ∈ hb_tbl := hb_in (List.mem_of_getElem? (i := 460) (by decide +kernel)) (by decide +kernel)
theorem im_Pay_take : Cond.instanceMethod ⟨"HoldBook$Payment", "take", "(J)V"⟩ ∈ hb_tbl := hb_in (List.mem_of_getElem? (i := 461) (by decide +kernel)) (by decide +kernel)
theorem se_Pay_take : Cond.selects "HoldBook$Payment" ⟨"HoldBook$Payment", "take", "(J)V"⟩ ⟨"HoldBook$Payment", "take", "(J)V"⟩ ∈ hb_tbl := hb_in (List.mem_of_getElem? (i := 462) (by decide +kernel)) (by decide +kernel)
theorem cd_Pay_take : Cond.code ⟨"HoldBook$Payment", "take", "(J)V"⟩ prog_3_method_4_code 3 none ∈ hb_tbl := hb_in (List.mem_of_getElem? (i := 463) (by decide +kernel)) (by decide +kernel)
theorem ml_Hb_132 : Cond.methodLink "HoldBook" 132 ⟨"HoldBook$Payment", "endHold", "(I)V"⟩ ∈ hb_tbl := hb_in (List.mem_of_getElem? (i := 464) (by decide +kernel)) (by decide +kernel)
theorem im_Pay_endHold : Cond.instanceMethod ⟨"HoldBook$Payment", "endHold", "(I)V"⟩ ∈ hb_tbl := hb_in (List.mem_of_getElem? (i := 465) (by decide +kernel)) (by decide +kernel)
theorem se_Pay_endHold : Cond.selects "HoldBook$Payment" ⟨"HoldBook$Payment", "endHold", "(I)V"⟩ ⟨"HoldBook$Payment", "endHold", "(I)V"⟩ ∈ hb_tbl := hb_in (List.mem_of_getElem? (i := 466) (by decide +kernel)) (by decide +kernel)
theorem cd_Pay_endHold : Cond.code ⟨"HoldBook$Payment", "endHold", "(I)V"⟩ prog_3_method_5_code 2 none ∈ hb_tbl := hb_in (List.mem_of_getElem? (i := 467) (by decide +kernel)) (by decide +kernel)
theorem ml_Law_83 : Cond.methodLink "HoldBookLaw" 83 ⟨"HoldBookLaw", "undo", "(LHoldBook;IJZ[J)I"⟩ ∈ hb_tbl := hb_in (List.mem_of_getElem? (i := 468) (by decide +kernel)) (by decide +kernel)
theorem st_Law_undo : Cond.static ⟨"HoldBookLaw", "undo", "(LHoldBook;IJZ[J)I"⟩ ∈ hb_tbl := hb_in (List.mem_of_getElem? (i := 469) (by decide +kernel)) (by decide +kernel)
theorem cd_Law_undo : Cond.codeWith ⟨"HoldBookLaw", "undo", "(LHoldBook;IJZ[J)I"⟩ method_6_code 7 (some .int) [(0, 12, 15, 13)] ∈ hb_tbl := hb_in (List.mem_of_getElem? (i := 470) (by decide +kernel)) (by decide +kernel)
theorem ml_Law_25 : Cond.methodLink "HoldBookLaw" 25 ⟨"HoldBook", "undo", "(IJZ)J"⟩ ∈ hb_tbl := hb_in (List.mem_of_getElem? (i := 471) (by decide +kernel)) (by decide +kernel)
theorem im_Hb_undo : Cond.instanceMethod ⟨"HoldBook", "undo", "(IJZ)J"⟩ ∈ hb_tbl := hb_in (List.mem_of_getElem? (i := 472) (by decide +kernel)) (by decide +kernel)
theorem se_Hb_undo : Cond.selects "HoldBook" ⟨"HoldBook", "undo", "(IJZ)J"⟩ ⟨"HoldBook", "undo", "(IJZ)J"⟩ ∈ hb_tbl := hb_in (List.mem_of_getElem? (i := 473) (by decide +kernel)) (by decide +kernel)
theorem cd_Hb_undo : Cond.code ⟨"HoldBook", "undo", "(IJZ)J"⟩ prog_1_method_5_code 6 (some .long) ∈ hb_tbl := hb_in (List.mem_of_getElem? (i := 474) (by decide +kernel)) (by decide +kernel)
theorem ml_Hb_140 : Cond.methodLink "HoldBook" 140 ⟨"HoldBook$Payment", "keepHeld", "(J)V"⟩ ∈ hb_tbl := hb_in (List.mem_of_getElem? (i := 476) (by decide +kernel)) (by decide +kernel)
theorem ml_Law_86 : Cond.methodLink "HoldBookLaw" 86 ⟨"HoldBookLaw", "ticks", "(LHoldBook;I[J)I"⟩ ∈ hb_tbl := hb_in (List.mem_of_getElem? (i := 477) (by decide +kernel)) (by decide +kernel)
theorem st_Law_ticks : Cond.static ⟨"HoldBookLaw", "ticks", "(LHoldBook;I[J)I"⟩ ∈ hb_tbl := hb_in (List.mem_of_getElem? (i := 478) (by decide +kernel)) (by decide +kernel)
theorem cd_Law_ticks : Cond.codeWith ⟨"HoldBookLaw", "ticks", "(LHoldBook;I[J)I"⟩ method_7_code 4 (some .int) [(0, 9, 12, 13), (0, 9, 15, 15)] ∈ hb_tbl := hb_in (List.mem_of_getElem? (i := 479) (by decide +kernel)) (by decide +kernel)
theorem ml_Law_28 : Cond.methodLink "HoldBookLaw" 28 ⟨"HoldBook", "ticks", "(I)I"⟩ ∈ hb_tbl := hb_in (List.mem_of_getElem? (i := 480) (by decide +kernel)) (by decide +kernel)
theorem im_Hb_ticks : Cond.instanceMethod ⟨"HoldBook", "ticks", "(I)I"⟩ ∈ hb_tbl := hb_in (List.mem_of_getElem? (i := 481) (by decide +kernel)) (by decide +kernel)
theorem se_Hb_ticks : Cond.selects "HoldBook" ⟨"HoldBook", "ticks", "(I)I"⟩ ⟨"HoldBook", "ticks", "(I)I"⟩ ∈ hb_tbl := hb_in (List.mem_of_getElem? (i := 482) (by decide +kernel)) (by decide +kernel)
theorem cd_Hb_ticks : Cond.code ⟨"HoldBook", "ticks", "(I)I"⟩ prog_1_method_6_code 3 (some .int) ∈ hb_tbl := hb_in (List.mem_of_getElem? (i := 483) (by decide +kernel)) (by decide +kernel)
theorem ml_Hb_148 : Cond.methodLink "HoldBook" 148 ⟨"HoldBook$Payment", "passTo", "(I)V"⟩ ∈ hb_tbl := hb_in (List.mem_of_getElem? (i := 486) (by decide +kernel)) (by decide +kernel)
theorem im_Pay_passTo : Cond.instanceMethod ⟨"HoldBook$Payment", "passTo", "(I)V"⟩ ∈ hb_tbl := hb_in (List.mem_of_getElem? (i := 487) (by decide +kernel)) (by decide +kernel)
theorem se_Pay_passTo : Cond.selects "HoldBook$Payment" ⟨"HoldBook$Payment", "passTo", "(I)V"⟩ ⟨"HoldBook$Payment", "passTo", "(I)V"⟩ ∈ hb_tbl := hb_in (List.mem_of_getElem? (i := 488) (by decide +kernel)) (by decide +kernel)
theorem cd_Pay_passTo : Cond.code ⟨"HoldBook$Payment", "passTo", "(I)V"⟩ prog_3_method_11_code 2 none ∈ hb_tbl := hb_in (List.mem_of_getElem? (i := 489) (by decide +kernel)) (by decide +kernel)
theorem ml_Pay_61 : Cond.methodLink "HoldBook$Payment" 61 ⟨"HoldBook$Payment", "endHold", "(I)V"⟩ ∈ hb_tbl := hb_in (List.mem_of_getElem? (i := 490) (by decide +kernel)) (by decide +kernel)
theorem ml_Pay_65 : Cond.methodLink "HoldBook$Payment" 65 ⟨"HoldBook$Payment", "endDispute", "(Z)V"⟩ ∈ hb_tbl := hb_in (List.mem_of_getElem? (i := 491) (by decide +kernel)) (by decide +kernel)
theorem im_Pay_endDispute : Cond.instanceMethod ⟨"HoldBook$Payment", "endDispute", "(Z)V"⟩ ∈ hb_tbl := hb_in (List.mem_of_getElem? (i := 492) (by decide +kernel)) (by decide +kernel)
theorem se_Pay_endDispute : Cond.selects "HoldBook$Payment" ⟨"HoldBook$Payment", "endDispute", "(Z)V"⟩ ⟨"HoldBook$Payment", "endDispute", "(Z)V"⟩ ∈ hb_tbl := hb_in (List.mem_of_getElem? (i := 493) (by decide +kernel)) (by decide +kernel)
theorem cd_Pay_endDispute : Cond.code ⟨"HoldBook$Payment", "endDispute", "(Z)V"⟩ prog_3_method_8_code 2 none ∈ hb_tbl := hb_in (List.mem_of_getElem? (i := 494) (by decide +kernel)) (by decide +kernel)
theorem ml_Law_90 : Cond.methodLink "HoldBookLaw" 90 ⟨"HoldBookLaw", "charge", "(LHoldBook;IJ[J)I"⟩ ∈ hb_tbl := hb_in (List.mem_of_getElem? (i := 495) (by decide +kernel)) (by decide +kernel)
theorem st_Law_charge : Cond.static ⟨"HoldBookLaw", "charge", "(LHoldBook;IJ[J)I"⟩ ∈ hb_tbl := hb_in (List.mem_of_getElem? (i := 496) (by decide +kernel)) (by decide +kernel)
theorem cd_Law_charge : Cond.codeWith ⟨"HoldBookLaw", "charge", "(LHoldBook;IJ[J)I"⟩ method_8_code 6 (some .int) [(0, 11, 14, 13)] ∈ hb_tbl := hb_in (List.mem_of_getElem? (i := 497) (by decide +kernel)) (by decide +kernel)
theorem ml_Law_32 : Cond.methodLink "HoldBookLaw" 32 ⟨"HoldBook", "charge", "(IJ)I"⟩ ∈ hb_tbl := hb_in (List.mem_of_getElem? (i := 498) (by decide +kernel)) (by decide +kernel)
theorem im_Hb_charge : Cond.instanceMethod ⟨"HoldBook", "charge", "(IJ)I"⟩ ∈ hb_tbl := hb_in (List.mem_of_getElem? (i := 499) (by decide +kernel)) (by decide +kernel)
theorem se_Hb_charge : Cond.selects "HoldBook" ⟨"HoldBook", "charge", "(IJ)I"⟩ ⟨"HoldBook", "charge", "(IJ)I"⟩ ∈ hb_tbl := hb_in (List.mem_of_getElem? (i := 500) (by decide +kernel)) (by decide +kernel)
theorem cd_Hb_charge : Cond.code ⟨"HoldBook", "charge", "(IJ)I"⟩ prog_1_method_7_code 5 (some .int) ∈ hb_tbl := hb_in (List.mem_of_getElem? (i := 501) (by decide +kernel)) (by decide +kernel)
theorem ml_Hb_160 : Cond.methodLink "HoldBook" 160 ⟨"HoldBook$Payment", "openDispute", "(JI)V"⟩ ∈ hb_tbl := hb_in (List.mem_of_getElem? (i := 503) (by decide +kernel)) (by decide +kernel)
theorem im_Pay_openDispute : Cond.instanceMethod ⟨"HoldBook$Payment", "openDispute", "(JI)V"⟩ ∈ hb_tbl := hb_in (List.mem_of_getElem? (i := 504) (by decide +kernel)) (by decide +kernel)
theorem se_Pay_openDispute : Cond.selects "HoldBook$Payment" ⟨"HoldBook$Payment", "openDispute", "(JI)V"⟩ ⟨"HoldBook$Payment", "openDispute", "(JI)V"⟩ ∈ hb_tbl := hb_in (List.mem_of_getElem? (i := 505) (by decide +kernel)) (by decide +kernel)
theorem cd_Pay_openDispute : Cond.code ⟨"HoldBook$Payment", "openDispute", "(JI)V"⟩ prog_3_method_6_code 4 none ∈ hb_tbl := hb_in (List.mem_of_getElem? (i := 506) (by decide +kernel)) (by decide +kernel)
theorem ml_Law_94 : Cond.methodLink "HoldBookLaw" 94 ⟨"HoldBookLaw", "represent", "(LHoldBook;I[J)I"⟩ ∈ hb_tbl := hb_in (List.mem_of_getElem? (i := 507) (by decide +kernel)) (by decide +kernel)
theorem st_Law_represent : Cond.static ⟨"HoldBookLaw", "represent", "(LHoldBook;I[J)I"⟩ ∈ hb_tbl := hb_in (List.mem_of_getElem? (i := 508) (by decide +kernel)) (by decide +kernel)
theorem cd_Law_represent : Cond.codeWith ⟨"HoldBookLaw", "represent", "(LHoldBook;I[J)I"⟩ method_9_code 4 (some .int) [(0, 9, 12, 13)] ∈ hb_tbl := hb_in (List.mem_of_getElem? (i := 509) (by decide +kernel)) (by decide +kernel)
theorem ml_Law_36 : Cond.methodLink "HoldBookLaw" 36 ⟨"HoldBook", "represent", "(I)I"⟩ ∈ hb_tbl := hb_in (List.mem_of_getElem? (i := 510) (by decide +kernel)) (by decide +kernel)
theorem im_Hb_represent : Cond.instanceMethod ⟨"HoldBook", "represent", "(I)I"⟩ ∈ hb_tbl := hb_in (List.mem_of_getElem? (i := 511) (by decide +kernel)) (by decide +kernel)
theorem se_Hb_represent : Cond.selects "HoldBook" ⟨"HoldBook", "represent", "(I)I"⟩ ⟨"HoldBook", "represent", "(I)I"⟩ ∈ hb_tbl := hb_in (List.mem_of_getElem? (i := 512) (by decide +kernel)) (by decide +kernel)
theorem cd_Hb_represent : Cond.code ⟨"HoldBook", "represent", "(I)I"⟩ prog_1_method_8_code 3 (some .int) ∈ hb_tbl := hb_in (List.mem_of_getElem? (i := 513) (by decide +kernel)) (by decide +kernel)
theorem ml_Hb_163 : Cond.methodLink "HoldBook" 163 ⟨"HoldBook$Payment", "answerDispute", "(I)V"⟩ ∈ hb_tbl := hb_in (List.mem_of_getElem? (i := 514) (by decide +kernel)) (by decide +kernel)
theorem im_Pay_answerDispute : Cond.instanceMethod ⟨"HoldBook$Payment", "answerDispute", "(I)V"⟩ ∈ hb_tbl := hb_in (List.mem_of_getElem? (i := 515) (by decide +kernel)) (by decide +kernel)
theorem se_Pay_answerDispute : Cond.selects "HoldBook$Payment" ⟨"HoldBook$Payment", "answerDispute", "(I)V"⟩ ⟨"HoldBook$Payment", "answerDispute", "(I)V"⟩ ∈ hb_tbl := hb_in (List.mem_of_getElem? (i := 516) (by decide +kernel)) (by decide +kernel)
theorem cd_Pay_answerDispute : Cond.code ⟨"HoldBook$Payment", "answerDispute", "(I)V"⟩ prog_3_method_7_code 2 none ∈ hb_tbl := hb_in (List.mem_of_getElem? (i := 517) (by decide +kernel)) (by decide +kernel)
theorem ml_Law_97 : Cond.methodLink "HoldBookLaw" 97 ⟨"HoldBookLaw", "decide", "(LHoldBook;IZ[J)I"⟩ ∈ hb_tbl := hb_in (List.mem_of_getElem? (i := 518) (by decide +kernel)) (by decide +kernel)
theorem st_Law_decide : Cond.static ⟨"HoldBookLaw", "decide", "(LHoldBook;IZ[J)I"⟩ ∈ hb_tbl := hb_in (List.mem_of_getElem? (i := 519) (by decide +kernel)) (by decide +kernel)
theorem cd_Law_decide : Cond.codeWith ⟨"HoldBookLaw", "decide", "(LHoldBook;IZ[J)I"⟩ method_10_code 5 (some .int) [(0, 10, 13, 13)] ∈ hb_tbl := hb_in (List.mem_of_getElem? (i := 520) (by decide +kernel)) (by decide +kernel)
theorem ml_Law_39 : Cond.methodLink "HoldBookLaw" 39 ⟨"HoldBook", "decide", "(IZ)I"⟩ ∈ hb_tbl := hb_in (List.mem_of_getElem? (i := 521) (by decide +kernel)) (by decide +kernel)
theorem im_Hb_decide : Cond.instanceMethod ⟨"HoldBook", "decide", "(IZ)I"⟩ ∈ hb_tbl := hb_in (List.mem_of_getElem? (i := 522) (by decide +kernel)) (by decide +kernel)
theorem se_Hb_decide : Cond.selects "HoldBook" ⟨"HoldBook", "decide", "(IZ)I"⟩ ⟨"HoldBook", "decide", "(IZ)I"⟩ ∈ hb_tbl := hb_in (List.mem_of_getElem? (i := 523) (by decide +kernel)) (by decide +kernel)
theorem cd_Hb_decide : Cond.code ⟨"HoldBook", "decide", "(IZ)I"⟩ prog_1_method_9_code 4 (some .int) ∈ hb_tbl := hb_in (List.mem_of_getElem? (i := 524) (by decide +kernel)) (by decide +kernel)
theorem ml_Hb_166 : Cond.methodLink "HoldBook" 166 ⟨"HoldBook$Payment", "endDispute", "(Z)V"⟩ ∈ hb_tbl := hb_in (List.mem_of_getElem? (i := 525) (by decide +kernel)) (by decide +kernel)
theorem ml_Law_105 : Cond.methodLink "HoldBookLaw" 105 ⟨"HoldBookLaw", "funds", "(LHoldBook;II[J)I"⟩ ∈ hb_tbl := hb_in (List.mem_of_getElem? (i := 526) (by decide +kernel)) (by decide +kernel)
theorem st_Law_funds : Cond.static ⟨"HoldBookLaw", "funds", "(LHoldBook;II[J)I"⟩ ∈ hb_tbl := hb_in (List.mem_of_getElem? (i := 527) (by decide +kernel)) (by decide +kernel)
theorem cd_Law_funds : Cond.codeWith ⟨"HoldBookLaw", "funds", "(LHoldBook;II[J)I"⟩ method_11_code 5 (some .int) [(0, 9, 12, 13)] ∈ hb_tbl := hb_in (List.mem_of_getElem? (i := 528) (by decide +kernel)) (by decide +kernel)
theorem ml_Law_43 : Cond.methodLink "HoldBookLaw" 43 ⟨"HoldBook", "funds", "(II)J"⟩ ∈ hb_tbl := hb_in (List.mem_of_getElem? (i := 529) (by decide +kernel)) (by decide +kernel)
theorem im_Hb_funds : Cond.instanceMethod ⟨"HoldBook", "funds", "(II)J"⟩ ∈ hb_tbl := hb_in (List.mem_of_getElem? (i := 530) (by decide +kernel)) (by decide +kernel)
theorem se_Hb_funds : Cond.selects "HoldBook" ⟨"HoldBook", "funds", "(II)J"⟩ ⟨"HoldBook", "funds", "(II)J"⟩ ∈ hb_tbl := hb_in (List.mem_of_getElem? (i := 531) (by decide +kernel)) (by decide +kernel)
theorem cd_Hb_funds : Cond.code ⟨"HoldBook", "funds", "(II)J"⟩ prog_1_method_11_code 3 (some .long) ∈ hb_tbl := hb_in (List.mem_of_getElem? (i := 532) (by decide +kernel)) (by decide +kernel)
theorem ml_Hb_176 : Cond.methodLink "HoldBook" 176 ⟨"HoldBook", "checkWhat", "(II)V"⟩ ∈ hb_tbl := hb_in (List.mem_of_getElem? (i := 533) (by decide +kernel)) (by decide +kernel)
theorem st_Hb_checkWhat : Cond.static ⟨"HoldBook", "checkWhat", "(II)V"⟩ ∈ hb_tbl := hb_in (List.mem_of_getElem? (i := 534) (by decide +kernel)) (by decide +kernel)
theorem cd_Hb_checkWhat : Cond.code ⟨"HoldBook", "checkWhat", "(II)V"⟩ prog_1_method_19_code 2 none ∈ hb_tbl := hb_in (List.mem_of_getElem? (i := 535) (by decide +kernel)) (by decide +kernel)
theorem ml_Hb_180 : Cond.methodLink "HoldBook" 180 ⟨"HoldBook$Account", "tell", "(I)J"⟩ ∈ hb_tbl := hb_in (List.mem_of_getElem? (i := 537) (by decide +kernel)) (by decide +kernel)
theorem im_Acc_tell : Cond.instanceMethod ⟨"HoldBook$Account", "tell", "(I)J"⟩ ∈ hb_tbl := hb_in (List.mem_of_getElem? (i := 538) (by decide +kernel)) (by decide +kernel)
theorem se_Acc_tell : Cond.selects "HoldBook$Account" ⟨"HoldBook$Account", "tell", "(I)J"⟩ ⟨"HoldBook$Account", "tell", "(I)J"⟩ ∈ hb_tbl := hb_in (List.mem_of_getElem? (i := 539) (by decide +kernel)) (by decide +kernel)
theorem cd_Acc_tell : Cond.code ⟨"HoldBook$Account", "tell", "(I)J"⟩ prog_2_method_4_code 2 (some .long) ∈ hb_tbl := hb_in (List.mem_of_getElem? (i := 540) (by decide +kernel)) (by decide +kernel)
theorem ml_Law_109 : Cond.methodLink "HoldBookLaw" 109 ⟨"HoldBookLaw", "payment", "(LHoldBook;II[J)I"⟩ ∈ hb_tbl := hb_in (List.mem_of_getElem? (i := 541) (by decide +kernel)) (by decide +kernel)
theorem st_Law_payment : Cond.static ⟨"HoldBookLaw", "payment", "(LHoldBook;II[J)I"⟩ ∈ hb_tbl := hb_in (List.mem_of_getElem? (i := 542) (by decide +kernel)) (by decide +kernel)
theorem cd_Law_payment : Cond.codeWith ⟨"HoldBookLaw", "payment", "(LHoldBook;II[J)I"⟩ method_12_code 5 (some .int) [(0, 9, 12, 13)] ∈ hb_tbl := hb_in (List.mem_of_getElem? (i := 543) (by decide +kernel)) (by decide +kernel)
theorem ml_Law_47 : Cond.methodLink "HoldBookLaw" 47 ⟨"HoldBook", "payment", "(II)J"⟩ ∈ hb_tbl := hb_in (List.mem_of_getElem? (i := 544) (by decide +kernel)) (by decide +kernel)
theorem im_Hb_payment : Cond.instanceMethod ⟨"HoldBook", "payment", "(II)J"⟩ ∈ hb_tbl := hb_in (List.mem_of_getElem? (i := 545) (by decide +kernel)) (by decide +kernel)
theorem se_Hb_payment : Cond.selects "HoldBook" ⟨"HoldBook", "payment", "(II)J"⟩ ⟨"HoldBook", "payment", "(II)J"⟩ ∈ hb_tbl := hb_in (List.mem_of_getElem? (i := 546) (by decide +kernel)) (by decide +kernel)
theorem cd_Hb_payment : Cond.code ⟨"HoldBook", "payment", "(II)J"⟩ prog_1_method_12_code 4 (some .long) ∈ hb_tbl := hb_in (List.mem_of_getElem? (i := 547) (by decide +kernel)) (by decide +kernel)
theorem kc_Hb_184 : Cond.constantLong "HoldBook" 184 (-1 : Int64) ∈ hb_tbl := hb_in (List.mem_of_getElem? (i := 548) (by decide +kernel)) (by decide +kernel)
theorem ml_Hb_186 : Cond.methodLink "HoldBook" 186 ⟨"HoldBook$Payment", "tell", "(I)J"⟩ ∈ hb_tbl := hb_in (List.mem_of_getElem? (i := 549) (by decide +kernel)) (by decide +kernel)
theorem im_Pay_tell : Cond.instanceMethod ⟨"HoldBook$Payment", "tell", "(I)J"⟩ ∈ hb_tbl := hb_in (List.mem_of_getElem? (i := 550) (by decide +kernel)) (by decide +kernel)
theorem se_Pay_tell : Cond.selects "HoldBook$Payment" ⟨"HoldBook$Payment", "tell", "(I)J"⟩ ⟨"HoldBook$Payment", "tell", "(I)J"⟩ ∈ hb_tbl := hb_in (List.mem_of_getElem? (i := 551) (by decide +kernel)) (by decide +kernel)
theorem cd_Pay_tell : Cond.code ⟨"HoldBook$Payment", "tell", "(I)J"⟩ prog_3_method_12_code 2 (some .long) ∈ hb_tbl := hb_in (List.mem_of_getElem? (i := 552) (by decide +kernel)) (by decide +kernel)
theorem ml_Law_112 : Cond.methodLink "HoldBookLaw" 112 ⟨"HoldBookLaw", "key", "(LHoldBook;I[J)I"⟩ ∈ hb_tbl := hb_in (List.mem_of_getElem? (i := 553) (by decide +kernel)) (by decide +kernel)
theorem st_Law_key : Cond.static ⟨"HoldBookLaw", "key", "(LHoldBook;I[J)I"⟩ ∈ hb_tbl := hb_in (List.mem_of_getElem? (i := 554) (by decide +kernel)) (by decide +kernel)
theorem cd_Law_key : Cond.codeWith ⟨"HoldBookLaw", "key", "(LHoldBook;I[J)I"⟩ method_13_code 4 (some .int) [(0, 9, 12, 13)] ∈ hb_tbl := hb_in (List.mem_of_getElem? (i := 555) (by decide +kernel)) (by decide +kernel)
theorem ml_Law_50 : Cond.methodLink "HoldBookLaw" 50 ⟨"HoldBook", "key", "(I)I"⟩ ∈ hb_tbl := hb_in (List.mem_of_getElem? (i := 556) (by decide +kernel)) (by decide +kernel)
theorem im_Hb_key : Cond.instanceMethod ⟨"HoldBook", "key", "(I)I"⟩ ∈ hb_tbl := hb_in (List.mem_of_getElem? (i := 557) (by decide +kernel)) (by decide +kernel)
theorem se_Hb_key : Cond.selects "HoldBook" ⟨"HoldBook", "key", "(I)I"⟩ ⟨"HoldBook", "key", "(I)I"⟩ ∈ hb_tbl := hb_in (List.mem_of_getElem? (i := 558) (by decide +kernel)) (by decide +kernel)
theorem cd_Hb_key : Cond.code ⟨"HoldBook", "key", "(I)I"⟩ prog_1_method_13_code 2 (some .int) ∈ hb_tbl := hb_in (List.mem_of_getElem? (i := 559) (by decide +kernel)) (by decide +kernel)
theorem kl_Law_62 : Cond.classLink "HoldBookLaw" 62 "HoldBookModel" ∈ hb_tbl := hb_in (List.mem_of_getElem? (i := 561) (by decide +kernel)) (by decide +kernel)
theorem it_Md : Cond.instantiable "HoldBookModel" 18 ∈ hb_tbl := hb_in (List.mem_of_getElem? (i := 562) (by decide +kernel)) (by decide +kernel)
theorem ml_Law_64 : Cond.methodLink "HoldBookLaw" 64 ⟨"HoldBookModel", "<init>", "(II)V"⟩ ∈ hb_tbl := hb_in (List.mem_of_getElem? (i := 563) (by decide +kernel)) (by decide +kernel)
theorem im_Md_init : Cond.instanceMethod ⟨"HoldBookModel", "<init>", "(II)V"⟩ ∈ hb_tbl := hb_in (List.mem_of_getElem? (i := 564) (by decide +kernel)) (by decide +kernel)
theorem cd_Md_init : Cond.code ⟨"HoldBookModel", "<init>", "(II)V"⟩ prog_5_method_1_code 3 none ∈ hb_tbl := hb_in (List.mem_of_getElem? (i := 565) (by decide +kernel)) (by decide +kernel)
theorem ml_Md_1 : Cond.methodLink "HoldBookModel" 1 ⟨"java/lang/Object", "<init>", "()V"⟩ ∈ hb_tbl := hb_in (List.mem_of_getElem? (i := 566) (by decide +kernel)) (by decide +kernel)
theorem fl_Md_54 : Cond.fieldLink "HoldBookModel" 54 "HoldBookModel" "code" "I" ∈ hb_tbl := hb_in (List.mem_of_getElem? (i := 567) (by decide +kernel)) (by decide +kernel)
theorem fl_Md_47 : Cond.fieldLink "HoldBookModel" 47 "HoldBookModel" "hold" "I" ∈ hb_tbl := hb_in (List.mem_of_getElem? (i := 568) (by decide +kernel)) (by decide +kernel)
theorem fl_Md_51 : Cond.fieldLink "HoldBookModel" 51 "HoldBookModel" "patience" "I" ∈ hb_tbl := hb_in (List.mem_of_getElem? (i := 569) (by decide +kernel)) (by decide +kernel)
theorem fl_Md_104 : Cond.fieldLink "HoldBookModel" 104 "HoldBookModel" "time" "I" ∈ hb_tbl := hb_in (List.mem_of_getElem? (i := 570) (by decide +kernel)) (by decide +kernel)
theorem fl_Md_72 : Cond.fieldLink "HoldBookModel" 72 "HoldBookModel" "accounts" "I" ∈ hb_tbl := hb_in (List.mem_of_getElem? (i := 571) (by decide +kernel)) (by decide +kernel)
theorem fl_Md_7 : Cond.fieldLink "HoldBookModel" 7 "HoldBookModel" "balance" "[J" ∈ hb_tbl := hb_in (List.mem_of_getElem? (i := 572) (by decide +kernel)) (by decide +kernel)
theorem fl_Md_13 : Cond.fieldLink "HoldBookModel" 13 "HoldBookModel" "minimum" "[J" ∈ hb_tbl := hb_in (List.mem_of_getElem? (i := 573) (by decide +kernel)) (by decide +kernel)
theorem fl_Md_60 : Cond.fieldLink "HoldBookModel" 60 "HoldBookModel" "payments" "I" ∈ hb_tbl := hb_in (List.mem_of_getElem? (i := 574) (by decide +kernel)) (by decide +kernel)
theorem fl_Md_16 : Cond.fieldLink "HoldBookModel" 16 "HoldBookModel" "key" "[I" ∈ hb_tbl := hb_in (List.mem_of_getElem? (i := 575) (by decide +kernel)) (by decide +kernel)
theorem fl_Md_20 : Cond.fieldLink "HoldBookModel" 20 "HoldBookModel" "account" "[I" ∈ hb_tbl := hb_in (List.mem_of_getElem? (i := 576) (by decide +kernel)) (by decide +kernel)
theorem fl_Md_23 : Cond.fieldLink "HoldBookModel" 23 "HoldBookModel" "stage" "[I" ∈ hb_tbl := hb_in (List.mem_of_getElem? (i := 577) (by decide +kernel)) (by decide +kernel)
theorem fl_Md_26 : Cond.fieldLink "HoldBookModel" 26 "HoldBookModel" "held" "[J" ∈ hb_tbl := hb_in (List.mem_of_getElem? (i := 578) (by decide +kernel)) (by decide +kernel)
theorem fl_Md_29 : Cond.fieldLink "HoldBookModel" 29 "HoldBookModel" "cleared" "[J" ∈ hb_tbl := hb_in (List.mem_of_getElem? (i := 579) (by decide +kernel)) (by decide +kernel)
theorem fl_Md_32 : Cond.fieldLink "HoldBookModel" 32 "HoldBookModel" "until" "[I" ∈ hb_tbl := hb_in (List.mem_of_getElem? (i := 580) (by decide +kernel)) (by decide +kernel)
theorem fl_Md_35 : Cond.fieldLink "HoldBookModel" 35 "HoldBookModel" "done" "[I" ∈ hb_tbl := hb_in (List.mem_of_getElem? (i := 581) (by decide +kernel)) (by decide +kernel)
theorem fl_Md_38 : Cond.fieldLink "HoldBookModel" 38 "HoldBookModel" "dispute" "[I" ∈ hb_tbl := hb_in (List.mem_of_getElem? (i := 582) (by decide +kernel)) (by decide +kernel)
theorem fl_Md_41 : Cond.fieldLink "HoldBookModel" 41 "HoldBookModel" "disputed" "[J" ∈ hb_tbl := hb_in (List.mem_of_getElem? (i := 583) (by decide +kernel)) (by decide +kernel)
theorem fl_Md_44 : Cond.fieldLink "HoldBookModel" 44 "HoldBookModel" "deadline" "[I" ∈ hb_tbl := hb_in (List.mem_of_getElem? (i := 584) (by decide +kernel)) (by decide +kernel)
theorem ac_long : Cond.arrayClass .long ∈ hb_tbl := hb_in (List.mem_of_getElem? (i := 622) (by decide +kernel)) (by decide +kernel)
theorem ac_int : Cond.arrayClass .int ∈ hb_tbl := hb_in (List.mem_of_getElem? (i := 623) (by decide +kernel)) (by decide +kernel)
theorem ml_Law_71 : Cond.methodLink "HoldBookLaw" 71 ⟨"HoldBookModel", "thrown", "()I"⟩ ∈ hb_tbl := hb_in (List.mem_of_getElem? (i := 624) (by decide +kernel)) (by decide +kernel)
theorem im_Md_thrown : Cond.instanceMethod ⟨"HoldBookModel", "thrown", "()I"⟩ ∈ hb_tbl := hb_in (List.mem_of_getElem? (i := 625) (by decide +kernel)) (by decide +kernel)
theorem se_Md_thrown : Cond.selects "HoldBookModel" ⟨"HoldBookModel", "thrown", "()I"⟩ ⟨"HoldBookModel", "thrown", "()I"⟩ ∈ hb_tbl := hb_in (List.mem_of_getElem? (i := 626) (by decide +kernel)) (by decide +kernel)
theorem cd_Md_thrown : Cond.code ⟨"HoldBookModel", "thrown", "()I"⟩ prog_5_method_2_code 1 (some .int) ∈ hb_tbl := hb_in (List.mem_of_getElem? (i := 627) (by decide +kernel)) (by decide +kernel)
theorem ml_Law_70 : Cond.methodLink "HoldBookLaw" 70 ⟨"HoldBookModel", "account", "(JJ)I"⟩ ∈ hb_tbl := hb_in (List.mem_of_getElem? (i := 628) (by decide +kernel)) (by decide +kernel)
theorem im_Md_account : Cond.instanceMethod ⟨"HoldBookModel", "account", "(JJ)I"⟩ ∈ hb_tbl := hb_in (List.mem_of_getElem? (i := 629) (by decide +kernel)) (by decide +kernel)
theorem se_Md_account : Cond.selects "HoldBookModel" ⟨"HoldBookModel", "account", "(JJ)I"⟩ ⟨"HoldBookModel", "account", "(JJ)I"⟩ ∈ hb_tbl := hb_in (List.mem_of_getElem? (i := 630) (by decide +kernel)) (by decide +kernel)
theorem cd_Md_account : Cond.code ⟨"HoldBookModel", "account", "(JJ)I"⟩ prog_5_method_10_code 6 (some .int) ∈ hb_tbl := hb_in (List.mem_of_getElem? (i := 631) (by decide +kernel)) (by decide +kernel)
theorem kc_Md_70 : Cond.constantLong "HoldBookModel" 70 (-1000000000000 : Int64) ∈ hb_tbl := hb_in (List.mem_of_getElem? (i := 632) (by decide +kernel)) (by decide +kernel)
theorem kc_Md_58 : Cond.constantLong "HoldBookModel" 58 (1000000000000 : Int64) ∈ hb_tbl := hb_in (List.mem_of_getElem? (i := 633) (by decide +kernel)) (by decide +kernel)
theorem ml_Law_78 : Cond.methodLink "HoldBookLaw" 78 ⟨"HoldBookModel", "ask", "(IIJZ)J"⟩ ∈ hb_tbl := hb_in (List.mem_of_getElem? (i := 634) (by decide +kernel)) (by decide +kernel)
theorem im_Md_ask : Cond.instanceMethod ⟨"HoldBookModel", "ask", "(IIJZ)J"⟩ ∈ hb_tbl := hb_in (List.mem_of_getElem? (i := 635) (by decide +kernel)) (by decide +kernel)
theorem se_Md_ask : Cond.selects "HoldBookModel" ⟨"HoldBookModel", "ask", "(IIJZ)J"⟩ ⟨"HoldBookModel", "ask", "(IIJZ)J"⟩ ∈ hb_tbl := hb_in (List.mem_of_getElem? (i := 636) (by decide +kernel)) (by decide +kernel)
theorem cd_Md_ask : Cond.code ⟨"HoldBookModel", "ask", "(IIJZ)J"⟩ prog_5_method_12_code 10 (some .long) ∈ hb_tbl := hb_in (List.mem_of_getElem? (i := 637) (by decide +kernel)) (by decide +kernel)
theorem ml_Md_75 : Cond.methodLink "HoldBookModel" 75 ⟨"HoldBookModel", "isKey", "(I)Z"⟩ ∈ hb_tbl := hb_in (List.mem_of_getElem? (i := 638) (by decide +kernel)) (by decide +kernel)
theorem st_Md_isKey : Cond.static ⟨"HoldBookModel", "isKey", "(I)Z"⟩ ∈ hb_tbl := hb_in (List.mem_of_getElem? (i := 639) (by decide +kernel)) (by decide +kernel)
theorem cd_Md_isKey : Cond.code ⟨"HoldBookModel", "isKey", "(I)Z"⟩ prog_5_method_4_code 1 (some .boolean) ∈ hb_tbl := hb_in (List.mem_of_getElem? (i := 640) (by decide +kernel)) (by decide +kernel)
theorem kc_Md_57 : Cond.constant "HoldBookModel" 57 (1000000 : Int32) ∈ hb_tbl := hb_in (List.mem_of_getElem? (i := 641) (by decide +kernel)) (by decide +kernel)
theorem ml_Md_79 : Cond.methodLink "HoldBookModel" 79 ⟨"HoldBookModel", "isAmount", "(J)Z"⟩ ∈ hb_tbl := hb_in (List.mem_of_getElem? (i := 642) (by decide +kernel)) (by decide +kernel)
theorem st_Md_isAmount : Cond.static ⟨"HoldBookModel", "isAmount", "(J)Z"⟩ ∈ hb_tbl := hb_in (List.mem_of_getElem? (i := 643) (by decide +kernel)) (by decide +kernel)
theorem cd_Md_isAmount : Cond.code ⟨"HoldBookModel", "isAmount", "(J)Z"⟩ prog_5_method_5_code 2 (some .boolean) ∈ hb_tbl := hb_in (List.mem_of_getElem? (i := 644) (by decide +kernel)) (by decide +kernel)
theorem ml_Md_83 : Cond.methodLink "HoldBookModel" 83 ⟨"HoldBookModel", "goes", "(Z)Z"⟩ ∈ hb_tbl := hb_in (List.mem_of_getElem? (i := 645) (by decide +kernel)) (by decide +kernel)
theorem im_Md_goes : Cond.instanceMethod ⟨"HoldBookModel", "goes", "(Z)Z"⟩ ∈ hb_tbl := hb_in (List.mem_of_getElem? (i := 647) (by decide +kernel)) (by decide +kernel)
theorem cd_Md_goes : Cond.code ⟨"HoldBookModel", "goes", "(Z)Z"⟩ prog_5_method_3_code 2 (some .boolean) ∈ hb_tbl := hb_in (List.mem_of_getElem? (i := 648) (by decide +kernel)) (by decide +kernel)
theorem ml_Md_87 : Cond.methodLink "HoldBookModel" 87 ⟨"HoldBookModel", "place", "(I)I"⟩ ∈ hb_tbl := hb_in (List.mem_of_getElem? (i := 649) (by decide +kernel)) (by decide +kernel)
theorem im_Md_place : Cond.instanceMethod ⟨"HoldBookModel", "place", "(I)I"⟩ ∈ hb_tbl := hb_in (List.mem_of_getElem? (i := 651) (by decide +kernel)) (by decide +kernel)
theorem cd_Md_place : Cond.code ⟨"HoldBookModel", "place", "(I)I"⟩ prog_5_method_6_code 4 (some .int) ∈ hb_tbl := hb_in (List.mem_of_getElem? (i := 652) (by decide +kernel)) (by decide +kernel)
theorem kc_Md_91 : Cond.constantLong "HoldBookModel" 91 (-8 : Int64) ∈ hb_tbl := hb_in (List.mem_of_getElem? (i := 653) (by decide +kernel)) (by decide +kernel)
theorem kc_Md_93 : Cond.constantLong "HoldBookModel" 93 (-2 : Int64) ∈ hb_tbl := hb_in (List.mem_of_getElem? (i := 654) (by decide +kernel)) (by decide +kernel)
theorem ml_Md_95 : Cond.methodLink "HoldBookModel" 95 ⟨"HoldBookModel", "freeOf", "(I)J"⟩ ∈ hb_tbl := hb_in (List.mem_of_getElem? (i := 655) (by decide +kernel)) (by decide +kernel)
theorem im_Md_freeOf : Cond.instanceMethod ⟨"HoldBookModel", "freeOf", "(I)J"⟩ ∈ hb_tbl := hb_in (List.mem_of_getElem? (i := 657) (by decide +kernel)) (by decide +kernel)
theorem cd_Md_freeOf : Cond.code ⟨"HoldBookModel", "freeOf", "(I)J"⟩ prog_5_method_9_code 2 (some .long) ∈ hb_tbl := hb_in (List.mem_of_getElem? (i := 658) (by decide +kernel)) (by decide +kernel)
theorem ml_Md_63 : Cond.methodLink "HoldBookModel" 63 ⟨"HoldBookModel", "heldOf", "(I)J"⟩ ∈ hb_tbl := hb_in (List.mem_of_getElem? (i := 659) (by decide +kernel)) (by decide +kernel)
theorem im_Md_heldOf : Cond.instanceMethod ⟨"HoldBookModel", "heldOf", "(I)J"⟩ ∈ hb_tbl := hb_in (List.mem_of_getElem? (i := 661) (by decide +kernel)) (by decide +kernel)
theorem cd_Md_heldOf : Cond.code ⟨"HoldBookModel", "heldOf", "(I)J"⟩ prog_5_method_7_code 5 (some .long) ∈ hb_tbl := hb_in (List.mem_of_getElem? (i := 662) (by decide +kernel)) (by decide +kernel)
theorem ml_Md_67 : Cond.methodLink "HoldBookModel" 67 ⟨"HoldBookModel", "lockedOf", "(I)J"⟩ ∈ hb_tbl := hb_in (List.mem_of_getElem? (i := 663) (by decide +kernel)) (by decide +kernel)
theorem im_Md_lockedOf : Cond.instanceMethod ⟨"HoldBookModel", "lockedOf", "(I)J"⟩ ∈ hb_tbl := hb_in (List.mem_of_getElem? (i := 665) (by decide +kernel)) (by decide +kernel)
theorem cd_Md_lockedOf : Cond.code ⟨"HoldBookModel", "lockedOf", "(I)J"⟩ prog_5_method_8_code 5 (some .long) ∈ hb_tbl := hb_in (List.mem_of_getElem? (i := 666) (by decide +kernel)) (by decide +kernel)
theorem kc_Md_98 : Cond.constantLong "HoldBookModel" 98 (-12 : Int64) ∈ hb_tbl := hb_in (List.mem_of_getElem? (i := 667) (by decide +kernel)) (by decide +kernel)
theorem ml_Md_100 : Cond.methodLink "HoldBookModel" 100 ⟨"HoldBookModel", "come", "(II)I"⟩ ∈ hb_tbl := hb_in (List.mem_of_getElem? (i := 668) (by decide +kernel)) (by decide +kernel)
theorem im_Md_come : Cond.instanceMethod ⟨"HoldBookModel", "come", "(II)I"⟩ ∈ hb_tbl := hb_in (List.mem_of_getElem? (i := 670) (by decide +kernel)) (by decide +kernel)
theorem cd_Md_come : Cond.code ⟨"HoldBookModel", "come", "(II)I"⟩ prog_5_method_11_code 4 (some .int) ∈ hb_tbl := hb_in (List.mem_of_getElem? (i := 671) (by decide +kernel)) (by decide +kernel)
theorem ml_Law_82 : Cond.methodLink "HoldBookLaw" 82 ⟨"HoldBookModel", "clear", "(IJZ)J"⟩ ∈ hb_tbl := hb_in (List.mem_of_getElem? (i := 672) (by decide +kernel)) (by decide +kernel)
theorem im_Md_clear : Cond.instanceMethod ⟨"HoldBookModel", "clear", "(IJZ)J"⟩ ∈ hb_tbl := hb_in (List.mem_of_getElem? (i := 673) (by decide +kernel)) (by decide +kernel)
theorem se_Md_clear : Cond.selects "HoldBookModel" ⟨"HoldBookModel", "clear", "(IJZ)J"⟩ ⟨"HoldBookModel", "clear", "(IJZ)J"⟩ ∈ hb_tbl := hb_in (List.mem_of_getElem? (i := 674) (by decide +kernel)) (by decide +kernel)
theorem cd_Md_clear : Cond.code ⟨"HoldBookModel", "clear", "(IJZ)J"⟩ prog_5_method_14_code 6 (some .long) ∈ hb_tbl := hb_in (List.mem_of_getElem? (i := 675) (by decide +kernel)) (by decide +kernel)
theorem kc_Md_107 : Cond.constantLong "HoldBookModel" 107 (-6 : Int64) ∈ hb_tbl := hb_in (List.mem_of_getElem? (i := 676) (by decide +kernel)) (by decide +kernel)
theorem kc_Md_109 : Cond.constantLong "HoldBookModel" 109 (-9 : Int64) ∈ hb_tbl := hb_in (List.mem_of_getElem? (i := 677) (by decide +kernel)) (by decide +kernel)
theorem kc_Md_111 : Cond.constantLong "HoldBookModel" 111 (-11 : Int64) ∈ hb_tbl := hb_in (List.mem_of_getElem? (i := 678) (by decide +kernel)) (by decide +kernel)
theorem ml_Md_113 : Cond.methodLink "HoldBookModel" 113 ⟨"HoldBookModel", "ends", "(I)V"⟩ ∈ hb_tbl := hb_in (List.mem_of_getElem? (i := 679) (by decide +kernel)) (by decide +kernel)
theorem im_Md_ends : Cond.instanceMethod ⟨"HoldBookModel", "ends", "(I)V"⟩ ∈ hb_tbl := hb_in (List.mem_of_getElem? (i := 681) (by decide +kernel)) (by decide +kernel)
theorem cd_Md_ends : Cond.code ⟨"HoldBookModel", "ends", "(I)V"⟩ prog_5_method_13_code 3 none ∈ hb_tbl := hb_in (List.mem_of_getElem? (i := 682) (by decide +kernel)) (by decide +kernel)
theorem ml_Law_85 : Cond.methodLink "HoldBookLaw" 85 ⟨"HoldBookModel", "undo", "(IJZ)J"⟩ ∈ hb_tbl := hb_in (List.mem_of_getElem? (i := 683) (by decide +kernel)) (by decide +kernel)
theorem im_Md_undo : Cond.instanceMethod ⟨"HoldBookModel", "undo", "(IJZ)J"⟩ ∈ hb_tbl := hb_in (List.mem_of_getElem? (i := 684) (by decide +kernel)) (by decide +kernel)
theorem se_Md_undo : Cond.selects "HoldBookModel" ⟨"HoldBookModel", "undo", "(IJZ)J"⟩ ⟨"HoldBookModel", "undo", "(IJZ)J"⟩ ∈ hb_tbl := hb_in (List.mem_of_getElem? (i := 685) (by decide +kernel)) (by decide +kernel)
theorem cd_Md_undo : Cond.code ⟨"HoldBookModel", "undo", "(IJZ)J"⟩ prog_5_method_15_code 6 (some .long) ∈ hb_tbl := hb_in (List.mem_of_getElem? (i := 686) (by decide +kernel)) (by decide +kernel)
theorem ml_Law_89 : Cond.methodLink "HoldBookLaw" 89 ⟨"HoldBookModel", "ticks", "(I)I"⟩ ∈ hb_tbl := hb_in (List.mem_of_getElem? (i := 687) (by decide +kernel)) (by decide +kernel)
theorem im_Md_ticks : Cond.instanceMethod ⟨"HoldBookModel", "ticks", "(I)I"⟩ ∈ hb_tbl := hb_in (List.mem_of_getElem? (i := 688) (by decide +kernel)) (by decide +kernel)
theorem se_Md_ticks : Cond.selects "HoldBookModel" ⟨"HoldBookModel", "ticks", "(I)I"⟩ ⟨"HoldBookModel", "ticks", "(I)I"⟩ ∈ hb_tbl := hb_in (List.mem_of_getElem? (i := 689) (by decide +kernel)) (by decide +kernel)
theorem cd_Md_ticks : Cond.code ⟨"HoldBookModel", "ticks", "(I)I"⟩ prog_5_method_17_code 5 (some .int) ∈ hb_tbl := hb_in (List.mem_of_getElem? (i := 690) (by decide +kernel)) (by decide +kernel)
theorem ml_Md_117 : Cond.methodLink "HoldBookModel" 117 ⟨"HoldBookModel", "closes", "(IZ)V"⟩ ∈ hb_tbl := hb_in (List.mem_of_getElem? (i := 691) (by decide +kernel)) (by decide +kernel)
theorem im_Md_closes : Cond.instanceMethod ⟨"HoldBookModel", "closes", "(IZ)V"⟩ ∈ hb_tbl := hb_in (List.mem_of_getElem? (i := 693) (by decide +kernel)) (by decide +kernel)
theorem cd_Md_closes : Cond.code ⟨"HoldBookModel", "closes", "(IZ)V"⟩ prog_5_method_16_code 3 none ∈ hb_tbl := hb_in (List.mem_of_getElem? (i := 694) (by decide +kernel)) (by decide +kernel)
theorem ml_Law_93 : Cond.methodLink "HoldBookLaw" 93 ⟨"HoldBookModel", "charge", "(IJ)I"⟩ ∈ hb_tbl := hb_in (List.mem_of_getElem? (i := 695) (by decide +kernel)) (by decide +kernel)
theorem im_Md_charge : Cond.instanceMethod ⟨"HoldBookModel", "charge", "(IJ)I"⟩ ∈ hb_tbl := hb_in (List.mem_of_getElem? (i := 696) (by decide +kernel)) (by decide +kernel)
theorem se_Md_charge : Cond.selects "HoldBookModel" ⟨"HoldBookModel", "charge", "(IJ)I"⟩ ⟨"HoldBookModel", "charge", "(IJ)I"⟩ ∈ hb_tbl := hb_in (List.mem_of_getElem? (i := 697) (by decide +kernel)) (by decide +kernel)
theorem cd_Md_charge : Cond.code ⟨"HoldBookModel", "charge", "(IJ)I"⟩ prog_5_method_18_code 5 (some .int) ∈ hb_tbl := hb_in (List.mem_of_getElem? (i := 698) (by decide +kernel)) (by decide +kernel)
theorem ml_Law_96 : Cond.methodLink "HoldBookLaw" 96 ⟨"HoldBookModel", "represent", "(I)I"⟩ ∈ hb_tbl := hb_in (List.mem_of_getElem? (i := 699) (by decide +kernel)) (by decide +kernel)
theorem im_Md_represent : Cond.instanceMethod ⟨"HoldBookModel", "represent", "(I)I"⟩ ∈ hb_tbl := hb_in (List.mem_of_getElem? (i := 700) (by decide +kernel)) (by decide +kernel)
theorem se_Md_represent : Cond.selects "HoldBookModel" ⟨"HoldBookModel", "represent", "(I)I"⟩ ⟨"HoldBookModel", "represent", "(I)I"⟩ ∈ hb_tbl := hb_in (List.mem_of_getElem? (i := 701) (by decide +kernel)) (by decide +kernel)
theorem cd_Md_represent : Cond.code ⟨"HoldBookModel", "represent", "(I)I"⟩ prog_5_method_19_code 3 (some .int) ∈ hb_tbl := hb_in (List.mem_of_getElem? (i := 702) (by decide +kernel)) (by decide +kernel)
theorem ml_Law_100 : Cond.methodLink "HoldBookLaw" 100 ⟨"HoldBookModel", "decide", "(IZ)I"⟩ ∈ hb_tbl := hb_in (List.mem_of_getElem? (i := 703) (by decide +kernel)) (by decide +kernel)
theorem im_Md_decide : Cond.instanceMethod ⟨"HoldBookModel", "decide", "(IZ)I"⟩ ∈ hb_tbl := hb_in (List.mem_of_getElem? (i := 704) (by decide +kernel)) (by decide +kernel)
theorem se_Md_decide : Cond.selects "HoldBookModel" ⟨"HoldBookModel", "decide", "(IZ)I"⟩ ⟨"HoldBookModel", "decide", "(IZ)I"⟩ ∈ hb_tbl := hb_in (List.mem_of_getElem? (i := 705) (by decide +kernel)) (by decide +kernel)
theorem cd_Md_decide : Cond.code ⟨"HoldBookModel", "decide", "(IZ)I"⟩ prog_5_method_20_code 4 (some .int) ∈ hb_tbl := hb_in (List.mem_of_getElem? (i := 706) (by decide +kernel)) (by decide +kernel)
theorem ml_Law_104 : Cond.methodLink "HoldBookLaw" 104 ⟨"HoldBookModel", "forget", "()I"⟩ ∈ hb_tbl := hb_in (List.mem_of_getElem? (i := 707) (by decide +kernel)) (by decide +kernel)
theorem im_Md_forget : Cond.instanceMethod ⟨"HoldBookModel", "forget", "()I"⟩ ∈ hb_tbl := hb_in (List.mem_of_getElem? (i := 708) (by decide +kernel)) (by decide +kernel)
theorem se_Md_forget : Cond.selects "HoldBookModel" ⟨"HoldBookModel", "forget", "()I"⟩ ⟨"HoldBookModel", "forget", "()I"⟩ ∈ hb_tbl := hb_in (List.mem_of_getElem? (i := 709) (by decide +kernel)) (by decide +kernel)
theorem cd_Md_forget : Cond.code ⟨"HoldBookModel", "forget", "()I"⟩ prog_5_method_22_code 3 (some .int) ∈ hb_tbl := hb_in (List.mem_of_getElem? (i := 710) (by decide +kernel)) (by decide +kernel)
theorem ml_Md_121 : Cond.methodLink "HoldBookModel" 121 ⟨"HoldBookModel", "stays", "(I)Z"⟩ ∈ hb_tbl := hb_in (List.mem_of_getElem? (i := 711) (by decide +kernel)) (by decide +kernel)
theorem im_Md_stays : Cond.instanceMethod ⟨"HoldBookModel", "stays", "(I)Z"⟩ ∈ hb_tbl := hb_in (List.mem_of_getElem? (i := 713) (by decide +kernel)) (by decide +kernel)
theorem cd_Md_stays : Cond.code ⟨"HoldBookModel", "stays", "(I)Z"⟩ prog_5_method_21_code 2 (some .boolean) ∈ hb_tbl := hb_in (List.mem_of_getElem? (i := 714) (by decide +kernel)) (by decide +kernel)
theorem ml_Law_108 : Cond.methodLink "HoldBookLaw" 108 ⟨"HoldBookModel", "funds", "(II)J"⟩ ∈ hb_tbl := hb_in (List.mem_of_getElem? (i := 715) (by decide +kernel)) (by decide +kernel)
theorem im_Md_funds : Cond.instanceMethod ⟨"HoldBookModel", "funds", "(II)J"⟩ ∈ hb_tbl := hb_in (List.mem_of_getElem? (i := 716) (by decide +kernel)) (by decide +kernel)
theorem se_Md_funds : Cond.selects "HoldBookModel" ⟨"HoldBookModel", "funds", "(II)J"⟩ ⟨"HoldBookModel", "funds", "(II)J"⟩ ∈ hb_tbl := hb_in (List.mem_of_getElem? (i := 717) (by decide +kernel)) (by decide +kernel)
theorem cd_Md_funds : Cond.code ⟨"HoldBookModel", "funds", "(II)J"⟩ prog_5_method_23_code 3 (some .long) ∈ hb_tbl := hb_in (List.mem_of_getElem? (i := 718) (by decide +kernel)) (by decide +kernel)
theorem ml_Law_111 : Cond.methodLink "HoldBookLaw" 111 ⟨"HoldBookModel", "payment", "(II)J"⟩ ∈ hb_tbl := hb_in (List.mem_of_getElem? (i := 719) (by decide +kernel)) (by decide +kernel)
theorem im_Md_payment : Cond.instanceMethod ⟨"HoldBookModel", "payment", "(II)J"⟩ ∈ hb_tbl := hb_in (List.mem_of_getElem? (i := 720) (by decide +kernel)) (by decide +kernel)
theorem se_Md_payment : Cond.selects "HoldBookModel" ⟨"HoldBookModel", "payment", "(II)J"⟩ ⟨"HoldBookModel", "payment", "(II)J"⟩ ∈ hb_tbl := hb_in (List.mem_of_getElem? (i := 721) (by decide +kernel)) (by decide +kernel)
theorem cd_Md_payment : Cond.code ⟨"HoldBookModel", "payment", "(II)J"⟩ prog_5_method_24_code 4 (some .long) ∈ hb_tbl := hb_in (List.mem_of_getElem? (i := 722) (by decide +kernel)) (by decide +kernel)
theorem kc_Md_124 : Cond.constantLong "HoldBookModel" 124 (-1 : Int64) ∈ hb_tbl := hb_in (List.mem_of_getElem? (i := 723) (by decide +kernel)) (by decide +kernel)
theorem ml_Law_114 : Cond.methodLink "HoldBookLaw" 114 ⟨"HoldBookModel", "key", "(I)I"⟩ ∈ hb_tbl := hb_in (List.mem_of_getElem? (i := 724) (by decide +kernel)) (by decide +kernel)
theorem im_Md_key : Cond.instanceMethod ⟨"HoldBookModel", "key", "(I)I"⟩ ∈ hb_tbl := hb_in (List.mem_of_getElem? (i := 725) (by decide +kernel)) (by decide +kernel)
theorem se_Md_key : Cond.selects "HoldBookModel" ⟨"HoldBookModel", "key", "(I)I"⟩ ⟨"HoldBookModel", "key", "(I)I"⟩ ∈ hb_tbl := hb_in (List.mem_of_getElem? (i := 726) (by decide +kernel)) (by decide +kernel)
theorem cd_Md_key : Cond.code ⟨"HoldBookModel", "key", "(I)I"⟩ prog_5_method_25_code 5 (some .int) ∈ hb_tbl := hb_in (List.mem_of_getElem? (i := 727) (by decide +kernel)) (by decide +kernel)
theorem ml_Law_118 : Cond.methodLink "HoldBookLaw" 118 ⟨"HoldBookModel", "payments", "()I"⟩ ∈ hb_tbl := hb_in (List.mem_of_getElem? (i := 728) (by decide +kernel)) (by decide +kernel)
theorem im_Md_payments : Cond.instanceMethod ⟨"HoldBookModel", "payments", "()I"⟩ ∈ hb_tbl := hb_in (List.mem_of_getElem? (i := 729) (by decide +kernel)) (by decide +kernel)
theorem se_Md_payments : Cond.selects "HoldBookModel" ⟨"HoldBookModel", "payments", "()I"⟩ ⟨"HoldBookModel", "payments", "()I"⟩ ∈ hb_tbl := hb_in (List.mem_of_getElem? (i := 730) (by decide +kernel)) (by decide +kernel)
theorem cd_Md_payments : Cond.code ⟨"HoldBookModel", "payments", "()I"⟩ prog_5_method_26_code 1 (some .int) ∈ hb_tbl := hb_in (List.mem_of_getElem? (i := 731) (by decide +kernel)) (by decide +kernel)
theorem ml_Law_122 : Cond.methodLink "HoldBookLaw" 122 ⟨"HoldBookModel", "audit", "()I"⟩ ∈ hb_tbl := hb_in (List.mem_of_getElem? (i := 732) (by decide +kernel)) (by decide +kernel)
theorem im_Md_audit : Cond.instanceMethod ⟨"HoldBookModel", "audit", "()I"⟩ ∈ hb_tbl := hb_in (List.mem_of_getElem? (i := 733) (by decide +kernel)) (by decide +kernel)
theorem se_Md_audit : Cond.selects "HoldBookModel" ⟨"HoldBookModel", "audit", "()I"⟩ ⟨"HoldBookModel", "audit", "()I"⟩ ∈ hb_tbl := hb_in (List.mem_of_getElem? (i := 734) (by decide +kernel)) (by decide +kernel)
theorem cd_Md_audit : Cond.code ⟨"HoldBookModel", "audit", "()I"⟩ prog_5_method_27_code 1 (some .int) ∈ hb_tbl := hb_in (List.mem_of_getElem? (i := 735) (by decide +kernel)) (by decide +kernel)
theorem kc_Law_65 : Cond.constantLong "HoldBookLaw" 65 (4294967295 : Int64) ∈ hb_tbl := hb_in (List.mem_of_getElem? (i := 736) (by decide +kernel)) (by decide +kernel)
theorem se_getClass_719 : Cond.selects "[Ljava/lang/Object;" ⟨"java/lang/Object", "getClass", "()Ljava/lang/Class;"⟩ ⟨"java/lang/Object", "getClass", "()Ljava/lang/Class;"⟩ ∈ hb_tbl := hb_in (List.mem_of_getElem? (i := 741) (by decide +kernel)) (by decide +kernel)
theorem Y_Hb_init : hb_Y hb_tbl y_Hb_init b_Hb_init 3 none 2 := ⟨cd_Hb_init, in_Hb, ⟨by decide, by decide⟩, by decide +kernel⟩
theorem Y_Al_init : hb_Y hb_tbl y_Al_init b_Al_init 1 none 0 := ⟨cd_Al_init, in_Al, ⟨by decide, by decide⟩, by decide +kernel⟩
theorem Y_Abs_init : hb_Y hb_tbl y_Abs_init b_Abs_init 1 none 0 := ⟨cd_Abs_init, in_Abs, ⟨by decide, by decide⟩, by decide +kernel⟩
theorem Y_Col_init : hb_Y hb_tbl y_Col_init b_Col_init 1 none 0 := ⟨cd_Col_init, in_Col, ⟨by decide, by decide⟩, by decide +kernel⟩
theorem Y_Acc_init : hb_Y hb_tbl y_Acc_init b_Acc_init 6 none 3 := ⟨cd_Acc_init, in_Acc, ⟨by decide, by decide⟩, by decide +kernel⟩
theorem Y_Hb_spanOf : hb_Y hb_tbl y_Hb_spanOf b_Hb_spanOf 1 (some .int) 1 := ⟨cd_Hb_spanOf, in_Hb, ⟨by decide, by decide⟩, by decide +kernel⟩
theorem Y_Mth_min1 : hb_Y hb_tbl y_Mth_min1 b_Mth_min1 2 (some .int) 2 := ⟨cd_Mth_min1, in_Mth, ⟨by decide, by decide⟩, by decide +kernel⟩
theorem Y_Mth_max : hb_Y hb_tbl y_Mth_max b_Mth_max 2 (some .int) 2 := ⟨cd_Mth_max, in_Mth, ⟨by decide, by decide⟩, by decide +kernel⟩
theorem Y_Hb_forget : hb_Y hb_tbl y_Hb_forget b_Hb_forget 3 (some .int) 0 := ⟨cd_Hb_forget, in_Hb, ⟨by decide, by decide⟩, by decide +kernel⟩
theorem Y_Al_size : hb_Y hb_tbl y_Al_size b_Al_size 1 (some .int) 0 := ⟨cd_Al_size, in_Al, ⟨by decide, by decide⟩, by decide +kernel⟩
theorem Y_Al_get : hb_Y hb_tbl y_Al_get b_Al_get 2 (some (.object "java/lang/Object")) 1 := ⟨cd_Al_get, in_Al, ⟨by decide, by decide⟩, by decide +kernel⟩
theorem Y_Obs_checkIndex : hb_Y hb_tbl y_Obs_checkIndex b_Obs_checkIndex 2 (some .int) 2 := ⟨cd_Obs_checkIndex, in_Obs, ⟨by decide, by decide⟩, by decide +kernel⟩
theorem Y_Prc_checkIndex : hb_Y hb_tbl y_Prc_checkIndex b_Prc_checkIndex 3 (some .int) 3 := ⟨cd_Prc_checkIndex, in_Prc, ⟨by decide, by decide⟩, by decide +kernel⟩
theorem Y_Al_elementData : hb_Y hb_tbl y_Al_elementData b_Al_elementData 2 (some (.object "java/lang/Object")) 1 := ⟨cd_Al_elementData, in_Al, ⟨by decide, by decide⟩, by decide +kernel⟩
theorem Y_Hb_isOver : hb_Y hb_tbl y_Hb_isOver b_Hb_isOver 2 (some .boolean) 1 := ⟨cd_Hb_isOver, in_Hb, ⟨by decide, by decide⟩, by decide +kernel⟩
theorem Y_Hb_isLongDone : hb_Y hb_tbl y_Hb_isLongDone b_Hb_isLongDone 2 (some .boolean) 1 := ⟨cd_Hb_isLongDone, in_Hb, ⟨by decide, by decide⟩, by decide +kernel⟩
theorem Y_Al_remove : hb_Y hb_tbl y_Al_remove b_Al_remove 4 (some (.object "java/lang/Object")) 1 := ⟨cd_Al_remove, in_Al, ⟨by decide, by decide⟩, by decide +kernel⟩
theorem Y_Al_fastRemove : hb_Y hb_tbl y_Al_fastRemove b_Al_fastRemove 4 none 2 := ⟨cd_Al_fastRemove, in_Al, ⟨by decide, by decide⟩, by decide +kernel⟩
theorem Y_Hb_payments : hb_Y hb_tbl y_Hb_payments b_Hb_payments 1 (some .int) 0 := ⟨cd_Hb_payments, in_Hb, ⟨by decide, by decide⟩, by decide +kernel⟩
theorem Y_Hb_audit : hb_Y hb_tbl y_Hb_audit b_Hb_audit 4 (some .int) 0 := ⟨cd_Hb_audit, in_Hb, ⟨by decide, by decide⟩, by decide +kernel⟩
theorem Y_Hb_agrees : hb_Y hb_tbl y_Hb_agrees b_Hb_agrees 8 (some .boolean) 1 := ⟨cd_Hb_agrees, in_Hb, ⟨by decide, by decide⟩, by decide +kernel⟩
theorem Y_Pay_locked : hb_Y hb_tbl y_Pay_locked b_Pay_locked 1 (some .long) 0 := ⟨cd_Pay_locked, in_Pay, ⟨by decide, by decide⟩, by decide +kernel⟩
theorem Y_Pay_isDisputeOpen : hb_Y hb_tbl y_Pay_isDisputeOpen b_Pay_isDisputeOpen 1 (some .boolean) 0 := ⟨cd_Pay_isDisputeOpen, in_Pay, ⟨by decide, by decide⟩, by decide +kernel⟩
theorem Y_Acc_isOverdrawn : hb_Y hb_tbl y_Acc_isOverdrawn b_Acc_isOverdrawn 3 (some .boolean) 0 := ⟨cd_Acc_isOverdrawn, in_Acc, ⟨by decide, by decide⟩, by decide +kernel⟩
theorem Y_Acc_free : hb_Y hb_tbl y_Acc_free b_Acc_free 1 (some .long) 0 := ⟨cd_Acc_free, in_Acc, ⟨by decide, by decide⟩, by decide +kernel⟩
theorem Y_Law_cell : hb_Y hb_tbl y_Law_cell b_Law_cell 2 (some .int) 2 := ⟨cd_Law_cell, in_Law, ⟨by decide, by decide⟩, by decide +kernel⟩
theorem Y_Hb_account : hb_Y hb_tbl y_Hb_account b_Hb_account 6 (some .int) 2 := ⟨cd_Hb_account, in_Hb, ⟨by decide, by decide⟩, by decide +kernel⟩
theorem Y_Al_add1 : hb_Y hb_tbl y_Al_add1 b_Al_add1 2 (some .boolean) 1 := ⟨cd_Al_add1, in_Al, ⟨by decide, by decide⟩, by decide +kernel⟩
theorem Y_Al_add2 : hb_Y hb_tbl y_Al_add2 b_Al_add2 4 none 3 := ⟨cd_Al_add2, in_Al, ⟨by decide, by decide⟩, by decide +kernel⟩
theorem Y_Al_grow1 : hb_Y hb_tbl y_Al_grow1 b_Al_grow1 1 (some (.array (.object "java/lang/Object"))) 0 := ⟨cd_Al_grow1, in_Al, ⟨by decide, by decide⟩, by decide +kernel⟩
theorem Y_Al_grow2 : hb_Y hb_tbl y_Al_grow2 b_Al_grow2 4 (some (.array (.object "java/lang/Object"))) 1 := ⟨cd_Al_grow2, in_Al, ⟨by decide, by decide⟩, by decide +kernel⟩
theorem Y_Sup_newLength : hb_Y hb_tbl y_Sup_newLength b_Sup_newLength 4 (some .int) 3 := ⟨cd_Sup_newLength, in_Sup, ⟨by decide, by decide⟩, by decide +kernel⟩
theorem Y_Sup_hugeLength : hb_Y hb_tbl y_Sup_hugeLength b_Sup_hugeLength 3 (some .int) 2 := ⟨cd_Sup_hugeLength, in_Sup, ⟨by decide, by decide⟩, by decide +kernel⟩
theorem Y_Ars_copyOf1 : hb_Y hb_tbl y_Ars_copyOf1 b_Ars_copyOf1 2 (some (.array (.object "java/lang/Object"))) 2 := ⟨cd_Ars_copyOf1, in_Ars, ⟨by decide, by decide⟩, by decide +kernel⟩
theorem Y_Ars_copyOf2 : hb_Y hb_tbl y_Ars_copyOf2 b_Ars_copyOf2 4 (some (.array (.object "java/lang/Object"))) 3 := ⟨cd_Ars_copyOf2, in_Ars, ⟨by decide, by decide⟩, by decide +kernel⟩
theorem Y_Hb_ask : hb_Y hb_tbl y_Hb_ask b_Hb_ask 10 (some .long) 4 := ⟨cd_Hb_ask, in_Hb, ⟨by decide, by decide⟩, by decide +kernel⟩
theorem Y_Hb_checkKey : hb_Y hb_tbl y_Hb_checkKey b_Hb_checkKey 1 none 1 := ⟨cd_Hb_checkKey, in_Hb, ⟨by decide, by decide⟩, by decide +kernel⟩
theorem Y_Hb_checkAccount : hb_Y hb_tbl y_Hb_checkAccount b_Hb_checkAccount 2 none 1 := ⟨cd_Hb_checkAccount, in_Hb, ⟨by decide, by decide⟩, by decide +kernel⟩
theorem Y_Hb_checkAmount : hb_Y hb_tbl y_Hb_checkAmount b_Hb_checkAmount 2 none 1 := ⟨cd_Hb_checkAmount, in_Hb, ⟨by decide, by decide⟩, by decide +kernel⟩
theorem Y_Hb_find : hb_Y hb_tbl y_Hb_find b_Hb_find 4 (some (.object "HoldBook$Payment")) 1 := ⟨cd_Hb_find, in_Hb, ⟨by decide, by decide⟩, by decide +kernel⟩
theorem Y_Hb_placeOf : hb_Y hb_tbl y_Hb_placeOf b_Hb_placeOf 3 (some .int) 1 := ⟨cd_Hb_placeOf, in_Hb, ⟨by decide, by decide⟩, by decide +kernel⟩
theorem Y_Pay_init : hb_Y hb_tbl y_Pay_init b_Pay_init 3 none 2 := ⟨cd_Pay_init, in_Pay, ⟨by decide, by decide⟩, by decide +kernel⟩
theorem Y_Mth_min2 : hb_Y hb_tbl y_Mth_min2 b_Mth_min2 4 (some .long) 2 := ⟨cd_Mth_min2, in_Mth, ⟨by decide, by decide⟩, by decide +kernel⟩
theorem Y_Pay_holdUntil : hb_Y hb_tbl y_Pay_holdUntil b_Pay_holdUntil 4 none 2 := ⟨cd_Pay_holdUntil, in_Pay, ⟨by decide, by decide⟩, by decide +kernel⟩
theorem Y_Pay_keepHeld : hb_Y hb_tbl y_Pay_keepHeld b_Pay_keepHeld 3 none 1 := ⟨cd_Pay_keepHeld, in_Pay, ⟨by decide, by decide⟩, by decide +kernel⟩
theorem Y_Hb_enter : hb_Y hb_tbl y_Hb_enter b_Hb_enter 2 none 1 := ⟨cd_Hb_enter, in_Hb, ⟨by decide, by decide⟩, by decide +kernel⟩
theorem Y_Al_add3 : hb_Y hb_tbl y_Al_add3 b_Al_add3 5 none 2 := ⟨cd_Al_add3, in_Al, ⟨by decide, by decide⟩, by decide +kernel⟩
theorem Y_Al_rangeCheckForAdd : hb_Y hb_tbl y_Al_rangeCheckForAdd b_Al_rangeCheckForAdd 2 none 1 := ⟨cd_Al_rangeCheckForAdd, in_Al, ⟨by decide, by decide⟩, by decide +kernel⟩
theorem Y_Hb_clear : hb_Y hb_tbl y_Hb_clear b_Hb_clear 6 (some .long) 3 := ⟨cd_Hb_clear, in_Hb, ⟨by decide, by decide⟩, by decide +kernel⟩
theorem Y_Pay_take : hb_Y hb_tbl y_Pay_take b_Pay_take 3 none 1 := ⟨cd_Pay_take, in_Pay, ⟨by decide, by decide⟩, by decide +kernel⟩
theorem Y_Pay_endHold : hb_Y hb_tbl y_Pay_endHold b_Pay_endHold 2 none 1 := ⟨cd_Pay_endHold, in_Pay, ⟨by decide, by decide⟩, by decide +kernel⟩
theorem Y_Hb_undo : hb_Y hb_tbl y_Hb_undo b_Hb_undo 6 (some .long) 3 := ⟨cd_Hb_undo, in_Hb, ⟨by decide, by decide⟩, by decide +kernel⟩
theorem Y_Hb_ticks : hb_Y hb_tbl y_Hb_ticks b_Hb_ticks 3 (some .int) 1 := ⟨cd_Hb_ticks, in_Hb, ⟨by decide, by decide⟩, by decide +kernel⟩
theorem Y_Pay_passTo : hb_Y hb_tbl y_Pay_passTo b_Pay_passTo 2 none 1 := ⟨cd_Pay_passTo, in_Pay, ⟨by decide, by decide⟩, by decide +kernel⟩
theorem Y_Pay_endDispute : hb_Y hb_tbl y_Pay_endDispute b_Pay_endDispute 2 none 1 := ⟨cd_Pay_endDispute, in_Pay, ⟨by decide, by decide⟩, by decide +kernel⟩
theorem Y_Hb_charge : hb_Y hb_tbl y_Hb_charge b_Hb_charge 5 (some .int) 2 := ⟨cd_Hb_charge, in_Hb, ⟨by decide, by decide⟩, by decide +kernel⟩
theorem Y_Pay_openDispute : hb_Y hb_tbl y_Pay_openDispute b_Pay_openDispute 4 none 2 := ⟨cd_Pay_openDispute, in_Pay, ⟨by decide, by decide⟩, by decide +kernel⟩
theorem Y_Hb_represent : hb_Y hb_tbl y_Hb_represent b_Hb_represent 3 (some .int) 1 := ⟨cd_Hb_represent, in_Hb, ⟨by decide, by decide⟩, by decide +kernel⟩
theorem Y_Pay_answerDispute : hb_Y hb_tbl y_Pay_answerDispute b_Pay_answerDispute 2 none 1 := ⟨cd_Pay_answerDispute, in_Pay, ⟨by decide, by decide⟩, by decide +kernel⟩
theorem Y_Hb_decide : hb_Y hb_tbl y_Hb_decide b_Hb_decide 4 (some .int) 2 := ⟨cd_Hb_decide, in_Hb, ⟨by decide, by decide⟩, by decide +kernel⟩
theorem Y_Hb_funds : hb_Y hb_tbl y_Hb_funds b_Hb_funds 3 (some .long) 2 := ⟨cd_Hb_funds, in_Hb, ⟨by decide, by decide⟩, by decide +kernel⟩
theorem Y_Hb_checkWhat : hb_Y hb_tbl y_Hb_checkWhat b_Hb_checkWhat 2 none 2 := ⟨cd_Hb_checkWhat, in_Hb, ⟨by decide, by decide⟩, by decide +kernel⟩
theorem Y_Acc_tell : hb_Y hb_tbl y_Acc_tell b_Acc_tell 2 (some .long) 1 := ⟨cd_Acc_tell, in_Acc, ⟨by decide, by decide⟩, by decide +kernel⟩
theorem Y_Hb_payment : hb_Y hb_tbl y_Hb_payment b_Hb_payment 4 (some .long) 2 := ⟨cd_Hb_payment, in_Hb, ⟨by decide, by decide⟩, by decide +kernel⟩
theorem Y_Pay_tell : hb_Y hb_tbl y_Pay_tell b_Pay_tell 2 (some .long) 1 := ⟨cd_Pay_tell, in_Pay, ⟨by decide, by decide⟩, by decide +kernel⟩
theorem Y_Hb_key : hb_Y hb_tbl y_Hb_key b_Hb_key 2 (some .int) 1 := ⟨cd_Hb_key, in_Hb, ⟨by decide, by decide⟩, by decide +kernel⟩
theorem Y_Md_init : hb_Y hb_tbl y_Md_init b_Md_init 3 none 2 := ⟨cd_Md_init, in_Md, ⟨by decide, by decide⟩, by decide +kernel⟩
theorem Y_Md_thrown : hb_Y hb_tbl y_Md_thrown b_Md_thrown 1 (some .int) 0 := ⟨cd_Md_thrown, in_Md, ⟨by decide, by decide⟩, by decide +kernel⟩
theorem Y_Md_account : hb_Y hb_tbl y_Md_account b_Md_account 6 (some .int) 2 := ⟨cd_Md_account, in_Md, ⟨by decide, by decide⟩, by decide +kernel⟩
theorem Y_Md_ask : hb_Y hb_tbl y_Md_ask b_Md_ask 10 (some .long) 4 := ⟨cd_Md_ask, in_Md, ⟨by decide, by decide⟩, by decide +kernel⟩
theorem Y_Md_isKey : hb_Y hb_tbl y_Md_isKey b_Md_isKey 1 (some .boolean) 1 := ⟨cd_Md_isKey, in_Md, ⟨by decide, by decide⟩, by decide +kernel⟩
theorem Y_Md_isAmount : hb_Y hb_tbl y_Md_isAmount b_Md_isAmount 2 (some .boolean) 1 := ⟨cd_Md_isAmount, in_Md, ⟨by decide, by decide⟩, by decide +kernel⟩
theorem Y_Md_goes : hb_Y hb_tbl y_Md_goes b_Md_goes 2 (some .boolean) 1 := ⟨cd_Md_goes, in_Md, ⟨by decide, by decide⟩, by decide +kernel⟩
theorem Y_Md_place : hb_Y hb_tbl y_Md_place b_Md_place 4 (some .int) 1 := ⟨cd_Md_place, in_Md, ⟨by decide, by decide⟩, by decide +kernel⟩
theorem Y_Md_freeOf : hb_Y hb_tbl y_Md_freeOf b_Md_freeOf 2 (some .long) 1 := ⟨cd_Md_freeOf, in_Md, ⟨by decide, by decide⟩, by decide +kernel⟩
theorem Y_Md_heldOf : hb_Y hb_tbl y_Md_heldOf b_Md_heldOf 5 (some .long) 1 := ⟨cd_Md_heldOf, in_Md, ⟨by decide, by decide⟩, by decide +kernel⟩
theorem Y_Md_lockedOf : hb_Y hb_tbl y_Md_lockedOf b_Md_lockedOf 5 (some .long) 1 := ⟨cd_Md_lockedOf, in_Md, ⟨by decide, by decide⟩, by decide +kernel⟩
theorem Y_Md_come : hb_Y hb_tbl y_Md_come b_Md_come 4 (some .int) 2 := ⟨cd_Md_come, in_Md, ⟨by decide, by decide⟩, by decide +kernel⟩
theorem Y_Md_clear : hb_Y hb_tbl y_Md_clear b_Md_clear 6 (some .long) 3 := ⟨cd_Md_clear, in_Md, ⟨by decide, by decide⟩, by decide +kernel⟩
theorem Y_Md_ends : hb_Y hb_tbl y_Md_ends b_Md_ends 3 none 1 := ⟨cd_Md_ends, in_Md, ⟨by decide, by decide⟩, by decide +kernel⟩
theorem Y_Md_undo : hb_Y hb_tbl y_Md_undo b_Md_undo 6 (some .long) 3 := ⟨cd_Md_undo, in_Md, ⟨by decide, by decide⟩, by decide +kernel⟩
theorem Y_Md_ticks : hb_Y hb_tbl y_Md_ticks b_Md_ticks 5 (some .int) 1 := ⟨cd_Md_ticks, in_Md, ⟨by decide, by decide⟩, by decide +kernel⟩
theorem Y_Md_closes : hb_Y hb_tbl y_Md_closes b_Md_closes 3 none 2 := ⟨cd_Md_closes, in_Md, ⟨by decide, by decide⟩, by decide +kernel⟩
theorem Y_Md_charge : hb_Y hb_tbl y_Md_charge b_Md_charge 5 (some .int) 2 := ⟨cd_Md_charge, in_Md, ⟨by decide, by decide⟩, by decide +kernel⟩
theorem Y_Md_represent : hb_Y hb_tbl y_Md_represent b_Md_represent 3 (some .int) 1 := ⟨cd_Md_represent, in_Md, ⟨by decide, by decide⟩, by decide +kernel⟩
theorem Y_Md_decide : hb_Y hb_tbl y_Md_decide b_Md_decide 4 (some .int) 2 := ⟨cd_Md_decide, in_Md, ⟨by decide, by decide⟩, by decide +kernel⟩
theorem Y_Md_forget : hb_Y hb_tbl y_Md_forget b_Md_forget 3 (some .int) 0 := ⟨cd_Md_forget, in_Md, ⟨by decide, by decide⟩, by decide +kernel⟩
theorem Y_Md_stays : hb_Y hb_tbl y_Md_stays b_Md_stays 2 (some .boolean) 1 := ⟨cd_Md_stays, in_Md, ⟨by decide, by decide⟩, by decide +kernel⟩
theorem Y_Md_funds : hb_Y hb_tbl y_Md_funds b_Md_funds 3 (some .long) 2 := ⟨cd_Md_funds, in_Md, ⟨by decide, by decide⟩, by decide +kernel⟩
theorem Y_Md_payment : hb_Y hb_tbl y_Md_payment b_Md_payment 4 (some .long) 2 := ⟨cd_Md_payment, in_Md, ⟨by decide, by decide⟩, by decide +kernel⟩
theorem Y_Md_key : hb_Y hb_tbl y_Md_key b_Md_key 5 (some .int) 1 := ⟨cd_Md_key, in_Md, ⟨by decide, by decide⟩, by decide +kernel⟩
theorem Y_Md_payments : hb_Y hb_tbl y_Md_payments b_Md_payments 1 (some .int) 0 := ⟨cd_Md_payments, in_Md, ⟨by decide, by decide⟩, by decide +kernel⟩
theorem Y_Md_audit : hb_Y hb_tbl y_Md_audit b_Md_audit 1 (some .int) 0 := ⟨cd_Md_audit, in_Md, ⟨by decide, by decide⟩, by decide +kernel⟩
end
section
/-! DECODE ROWS -/
theorem d_Al_init_0 : decode b_Al_init 0 = .ok (.aload_n 0, 1) := by decide +kernel
theorem d_Al_init_1 : decode b_Al_init 1 = .ok (.invokespecial 1, 3) := by decide +kernel
theorem d_Al_init_4 : decode b_Al_init 4 = .ok (.aload_n 0, 1) := by decide +kernel
theorem d_Al_init_5 : decode b_Al_init 5 = .ok (.getstatic 39, 3) := by decide +kernel
theorem d_Al_init_8 : decode b_Al_init 8 = .ok (.putfield 9, 3) := by decide +kernel
theorem d_Al_init_11 : decode b_Al_init 11 = .ok (.return_, 1) := by decide +kernel
theorem d_Abs_init_0 : decode b_Abs_init 0 = .ok (.aload_n 0, 1) := by decide +kernel
theorem d_Abs_init_1 : decode b_Abs_init 1 = .ok (.invokespecial 1, 3) := by decide +kernel
theorem d_Abs_init_4 : decode b_Abs_init 4 = .ok (.aload_n 0, 1) := by decide +kernel
theorem d_Abs_init_5 : decode b_Abs_init 5 = .ok (.iconst 0, 1) := by decide +kernel
theorem d_Abs_init_6 : decode b_Abs_init 6 = .ok (.putfield 7, 3) := by decide +kernel
theorem d_Abs_init_9 : decode b_Abs_init 9 = .ok (.return_, 1) := by decide +kernel
theorem d_Col_init_0 : decode b_Col_init 0 = .ok (.aload_n 0, 1) := by decide +kernel
theorem d_Col_init_1 : decode b_Col_init 1 = .ok (.invokespecial 1, 3) := by decide +kernel
theorem d_Col_init_4 : decode b_Col_init 4 = .ok (.return_, 1) := by decide +kernel
theorem d_Acc_init_0 : decode b_Acc_init 0 = .ok (.aload_n 0, 1) := by decide +kernel
theorem d_Acc_init_1 : decode b_Acc_init 1 = .ok (.invokespecial 1, 3) := by decide +kernel
theorem d_Acc_init_4 : decode b_Acc_init 4 = .ok (.aload_n 0, 1) := by decide +kernel
theorem d_Acc_init_5 : decode b_Acc_init 5 = .ok (.lconst 0, 1) := by decide +kernel
theorem d_Acc_init_6 : decode b_Acc_init 6 = .ok (.putfield 7, 3) := by decide +kernel
theorem d_Acc_init_9 : decode b_Acc_init 9 = .ok (.aload_n 0, 1) := by decide +kernel
theorem d_Acc_init_10 : decode b_Acc_init 10 = .ok (.lconst 0, 1) := by decide +kernel
theorem d_Acc_init_11 : decode b_Acc_init 11 = .ok (.putfield 13, 3) := by decide +kernel
theorem d_Acc_init_14 : decode b_Acc_init 14 = .ok (.aload_n 0, 1) := by decide +kernel
theorem d_Acc_init_15 : decode b_Acc_init 15 = .ok (.iload_n 1, 1) := by decide +kernel
theorem d_Acc_init_16 : decode b_Acc_init 16 = .ok (.putfield 16, 3) := by decide +kernel
theorem d_Acc_init_19 : decode b_Acc_init 19 = .ok (.aload_n 0, 1) := by decide +kernel
theorem d_Acc_init_20 : decode b_Acc_init 20 = .ok (.lload_n 2, 1) := by decide +kernel
theorem d_Acc_init_21 : decode b_Acc_init 21 = .ok (.putfield 20, 3) := by decide +kernel
theorem d_Acc_init_24 : decode b_Acc_init 24 = .ok (.aload_n 0, 1) := by decide +kernel
theorem d_Acc_init_25 : decode b_Acc_init 25 = .ok (.lload 4, 2) := by decide +kernel
theorem d_Acc_init_27 : decode b_Acc_init 27 = .ok (.putfield 23, 3) := by decide +kernel
theorem d_Acc_init_30 : decode b_Acc_init 30 = .ok (.aload_n 0, 1) := by decide +kernel
theorem d_Acc_init_31 : decode b_Acc_init 31 = .ok (.lload_n 2, 1) := by decide +kernel
theorem d_Acc_init_32 : decode b_Acc_init 32 = .ok (.lload 4, 2) := by decide +kernel
theorem d_Acc_init_34 : decode b_Acc_init 34 = .ok (.lsub, 1) := by decide +kernel
theorem d_Acc_init_35 : decode b_Acc_init 35 = .ok (.putfield 26, 3) := by decide +kernel
theorem d_Acc_init_38 : decode b_Acc_init 38 = .ok (.return_, 1) := by decide +kernel
theorem d_Mth_min1_0 : decode b_Mth_min1 0 = .ok (.iload_n 0, 1) := by decide +kernel
theorem d_Mth_min1_1 : decode b_Mth_min1 1 = .ok (.iload_n 1, 1) := by decide +kernel
theorem d_Mth_min1_2 : decode b_Mth_min1 2 = .ok (.if_icmp .gt 7, 3) := by decide +kernel
theorem d_Mth_min1_5 : decode b_Mth_min1 5 = .ok (.iload_n 0, 1) := by decide +kernel
theorem d_Mth_min1_6 : decode b_Mth_min1 6 = .ok (.goto 4, 3) := by decide +kernel
theorem d_Mth_min1_9 : decode b_Mth_min1 9 = .ok (.iload_n 1, 1) := by decide +kernel
theorem d_Mth_min1_10 : decode b_Mth_min1 10 = .ok (.ireturn, 1) := by decide +kernel
theorem d_Mth_max_0 : decode b_Mth_max 0 = .ok (.iload_n 0, 1) := by decide +kernel
theorem d_Mth_max_1 : decode b_Mth_max 1 = .ok (.iload_n 1, 1) := by decide +kernel
theorem d_Mth_max_2 : decode b_Mth_max 2 = .ok (.if_icmp .lt 7, 3) := by decide +kernel
theorem d_Mth_max_5 : decode b_Mth_max 5 = .ok (.iload_n 0, 1) := by decide +kernel
theorem d_Mth_max_6 : decode b_Mth_max 6 = .ok (.goto 4, 3) := by decide +kernel
theorem d_Mth_max_9 : decode b_Mth_max 9 = .ok (.iload_n 1, 1) := by decide +kernel
theorem d_Mth_max_10 : decode b_Mth_max 10 = .ok (.ireturn, 1) := by decide +kernel
theorem d_Al_size_0 : decode b_Al_size 0 = .ok (.aload_n 0, 1) := by decide +kernel
theorem d_Al_size_1 : decode b_Al_size 1 = .ok (.getfield 48, 3) := by decide +kernel
theorem d_Al_size_4 : decode b_Al_size 4 = .ok (.ireturn, 1) := by decide +kernel
theorem d_Al_get_0 : decode b_Al_get 0 = .ok (.iload_n 1, 1) := by decide +kernel
theorem d_Al_get_1 : decode b_Al_get 1 = .ok (.aload_n 0, 1) := by decide +kernel
theorem d_Al_get_2 : decode b_Al_get 2 = .ok (.getfield 48, 3) := by decide +kernel
theorem d_Al_get_5 : decode b_Al_get 5 = .ok (.invokestatic 118, 3) := by decide +kernel
theorem d_Al_get_8 : decode b_Al_get 8 = .ok (.pop, 1) := by decide +kernel
theorem d_Al_get_9 : decode b_Al_get 9 = .ok (.aload_n 0, 1) := by decide +kernel
theorem d_Al_get_10 : decode b_Al_get 10 = .ok (.iload_n 1, 1) := by decide +kernel
theorem d_Al_get_11 : decode b_Al_get 11 = .ok (.invokevirtual 123, 3) := by decide +kernel
theorem d_Al_get_14 : decode b_Al_get 14 = .ok (.areturn, 1) := by decide +kernel
theorem d_Obs_checkIndex_0 : decode b_Obs_checkIndex 0 = .ok (.iload_n 0, 1) := by decide +kernel
theorem d_Obs_checkIndex_1 : decode b_Obs_checkIndex 1 = .ok (.iload_n 1, 1) := by decide +kernel
theorem d_Obs_checkIndex_2 : decode b_Obs_checkIndex 2 = .ok (.aconst_null, 1) := by decide +kernel
theorem d_Obs_checkIndex_3 : decode b_Obs_checkIndex 3 = .ok (.invokestatic 105, 3) := by decide +kernel
theorem d_Obs_checkIndex_6 : decode b_Obs_checkIndex 6 = .ok (.ireturn, 1) := by decide +kernel
theorem d_Prc_checkIndex_0 : decode b_Prc_checkIndex 0 = .ok (.iload_n 0, 1) := by decide +kernel
theorem d_Prc_checkIndex_1 : decode b_Prc_checkIndex 1 = .ok (.ifCond .lt 8, 3) := by decide +kernel
theorem d_Prc_checkIndex_4 : decode b_Prc_checkIndex 4 = .ok (.iload_n 0, 1) := by decide +kernel
theorem d_Prc_checkIndex_5 : decode b_Prc_checkIndex 5 = .ok (.iload_n 1, 1) := by decide +kernel
theorem d_Prc_checkIndex_6 : decode b_Prc_checkIndex 6 = .ok (.if_icmp .lt 10, 3) := by decide +kernel
theorem d_Prc_checkIndex_9 : decode b_Prc_checkIndex 9 = .ok (.aload_n 2, 1) := by decide +kernel
theorem d_Prc_checkIndex_10 : decode b_Prc_checkIndex 10 = .ok (.iload_n 0, 1) := by decide +kernel
theorem d_Prc_checkIndex_11 : decode b_Prc_checkIndex 11 = .ok (.iload_n 1, 1) := by decide +kernel
theorem d_Prc_checkIndex_12 : decode b_Prc_checkIndex 12 = .ok (.invokestatic 95, 3) := by decide +kernel
theorem d_Prc_checkIndex_15 : decode b_Prc_checkIndex 15 = .ok (.athrow, 1) := by decide +kernel
theorem d_Prc_checkIndex_16 : decode b_Prc_checkIndex 16 = .ok (.iload_n 0, 1) := by decide +kernel
theorem d_Prc_checkIndex_17 : decode b_Prc_checkIndex 17 = .ok (.ireturn, 1) := by decide +kernel
theorem d_Al_elementData_0 : decode b_Al_elementData 0 = .ok (.aload_n 0, 1) := by decide +kernel
theorem d_Al_elementData_1 : decode b_Al_elementData 1 = .ok (.getfield 9, 3) := by decide +kernel
theorem d_Al_elementData_4 : decode b_Al_elementData 4 = .ok (.iload_n 1, 1) := by decide +kernel
theorem d_Al_elementData_5 : decode b_Al_elementData 5 = .ok (.aaload, 1) := by decide +kernel
theorem d_Al_elementData_6 : decode b_Al_elementData 6 = .ok (.areturn, 1) := by decide +kernel
theorem d_Al_remove_0 : decode b_Al_remove 0 = .ok (.iload_n 1, 1) := by decide +kernel
theorem d_Al_remove_1 : decode b_Al_remove 1 = .ok (.aload_n 0, 1) := by decide +kernel
theorem d_Al_remove_2 : decode b_Al_remove 2 = .ok (.getfield 48, 3) := by decide +kernel
theorem d_Al_remove_5 : decode b_Al_remove 5 = .ok (.invokestatic 118, 3) := by decide +kernel
theorem d_Al_remove_8 : decode b_Al_remove 8 = .ok (.pop, 1) := by decide +kernel
theorem d_Al_remove_9 : decode b_Al_remove 9 = .ok (.aload_n 0, 1) := by decide +kernel
theorem d_Al_remove_10 : decode b_Al_remove 10 = .ok (.getfield 9, 3) := by decide +kernel
theorem d_Al_remove_13 : decode b_Al_remove 13 = .ok (.astore_n 2, 1) := by decide +kernel
theorem d_Al_remove_14 : decode b_Al_remove 14 = .ok (.aload_n 2, 1) := by decide +kernel
theorem d_Al_remove_15 : decode b_Al_remove 15 = .ok (.iload_n 1, 1) := by decide +kernel
theorem d_Al_remove_16 : decode b_Al_remove 16 = .ok (.aaload, 1) := by decide +kernel
theorem d_Al_remove_17 : decode b_Al_remove 17 = .ok (.astore_n 3, 1) := by decide +kernel
theorem d_Al_remove_18 : decode b_Al_remove 18 = .ok (.aload_n 0, 1) := by decide +kernel
theorem d_Al_remove_19 : decode b_Al_remove 19 = .ok (.aload_n 2, 1) := by decide +kernel
theorem d_Al_remove_20 : decode b_Al_remove 20 = .ok (.iload_n 1, 1) := by decide +kernel
theorem d_Al_remove_21 : decode b_Al_remove 21 = .ok (.invokevirtual 144, 3) := by decide +kernel
theorem d_Al_remove_24 : decode b_Al_remove 24 = .ok (.aload_n 3, 1) := by decide +kernel
theorem d_Al_remove_25 : decode b_Al_remove 25 = .ok (.areturn, 1) := by decide +kernel
theorem d_Al_fastRemove_0 : decode b_Al_fastRemove 0 = .ok (.aload_n 0, 1) := by decide +kernel
theorem d_Al_fastRemove_1 : decode b_Al_fastRemove 1 = .ok (.dup, 1) := by decide +kernel
theorem d_Al_fastRemove_2 : decode b_Al_fastRemove 2 = .ok (.getfield 63, 3) := by decide +kernel
theorem d_Al_fastRemove_5 : decode b_Al_fastRemove 5 = .ok (.iconst 1, 1) := by decide +kernel
theorem d_Al_fastRemove_6 : decode b_Al_fastRemove 6 = .ok (.iadd, 1) := by decide +kernel
theorem d_Al_fastRemove_7 : decode b_Al_fastRemove 7 = .ok (.putfield 63, 3) := by decide +kernel
theorem d_Al_fastRemove_10 : decode b_Al_fastRemove 10 = .ok (.aload_n 0, 1) := by decide +kernel
theorem d_Al_fastRemove_11 : decode b_Al_fastRemove 11 = .ok (.getfield 48, 3) := by decide +kernel
theorem d_Al_fastRemove_14 : decode b_Al_fastRemove 14 = .ok (.iconst 1, 1) := by decide +kernel
theorem d_Al_fastRemove_15 : decode b_Al_fastRemove 15 = .ok (.isub, 1) := by decide +kernel
theorem d_Al_fastRemove_16 : decode b_Al_fastRemove 16 = .ok (.dup, 1) := by decide +kernel
theorem d_Al_fastRemove_17 : decode b_Al_fastRemove 17 = .ok (.istore_n 3, 1) := by decide +kernel
theorem d_Al_fastRemove_18 : decode b_Al_fastRemove 18 = .ok (.iload_n 2, 1) := by decide +kernel
theorem d_Al_fastRemove_19 : decode b_Al_fastRemove 19 = .ok (.if_icmp .le 15, 3) := by decide +kernel
theorem d_Al_fastRemove_22 : decode b_Al_fastRemove 22 = .ok (.aload_n 1, 1) := by decide +kernel
theorem d_Al_fastRemove_23 : decode b_Al_fastRemove 23 = .ok (.iload_n 2, 1) := by decide +kernel
theorem d_Al_fastRemove_24 : decode b_Al_fastRemove 24 = .ok (.iconst 1, 1) := by decide +kernel
theorem d_Al_fastRemove_25 : decode b_Al_fastRemove 25 = .ok (.iadd, 1) := by decide +kernel
theorem d_Al_fastRemove_26 : decode b_Al_fastRemove 26 = .ok (.aload_n 1, 1) := by decide +kernel
theorem d_Al_fastRemove_27 : decode b_Al_fastRemove 27 = .ok (.iload_n 2, 1) := by decide +kernel
theorem d_Al_fastRemove_28 : decode b_Al_fastRemove 28 = .ok (.iload_n 3, 1) := by decide +kernel
theorem d_Al_fastRemove_29 : decode b_Al_fastRemove 29 = .ok (.iload_n 2, 1) := by decide +kernel
theorem d_Al_fastRemove_30 : decode b_Al_fastRemove 30 = .ok (.isub, 1) := by decide +kernel
theorem d_Al_fastRemove_31 : decode b_Al_fastRemove 31 = .ok (.invokestatic 112, 3) := by decide +kernel
theorem d_Al_fastRemove_34 : decode b_Al_fastRemove 34 = .ok (.aload_n 1, 1) := by decide +kernel
theorem d_Al_fastRemove_35 : decode b_Al_fastRemove 35 = .ok (.aload_n 0, 1) := by decide +kernel
theorem d_Al_fastRemove_36 : decode b_Al_fastRemove 36 = .ok (.iload_n 3, 1) := by decide +kernel
theorem d_Al_fastRemove_37 : decode b_Al_fastRemove 37 = .ok (.dup_x1, 1) := by decide +kernel
theorem d_Al_fastRemove_38 : decode b_Al_fastRemove 38 = .ok (.putfield 48, 3) := by decide +kernel
theorem d_Al_fastRemove_41 : decode b_Al_fastRemove 41 = .ok (.aconst_null, 1) := by decide +kernel
theorem d_Al_fastRemove_42 : decode b_Al_fastRemove 42 = .ok (.aastore, 1) := by decide +kernel
theorem d_Al_fastRemove_43 : decode b_Al_fastRemove 43 = .ok (.return_, 1) := by decide +kernel
theorem d_Pay_locked_0 : decode b_Pay_locked 0 = .ok (.aload_n 0, 1) := by decide +kernel
theorem d_Pay_locked_1 : decode b_Pay_locked 1 = .ok (.invokevirtual 57, 3) := by decide +kernel
theorem d_Pay_locked_4 : decode b_Pay_locked 4 = .ok (.ifCond .eq 10, 3) := by decide +kernel
theorem d_Pay_locked_7 : decode b_Pay_locked 7 = .ok (.aload_n 0, 1) := by decide +kernel
theorem d_Pay_locked_8 : decode b_Pay_locked 8 = .ok (.getfield 31, 3) := by decide +kernel
theorem d_Pay_locked_11 : decode b_Pay_locked 11 = .ok (.goto 4, 3) := by decide +kernel
theorem d_Pay_locked_14 : decode b_Pay_locked 14 = .ok (.lconst 0, 1) := by decide +kernel
theorem d_Pay_locked_15 : decode b_Pay_locked 15 = .ok (.lreturn, 1) := by decide +kernel
theorem d_Pay_isDisputeOpen_0 : decode b_Pay_isDisputeOpen 0 = .ok (.aload_n 0, 1) := by decide +kernel
theorem d_Pay_isDisputeOpen_1 : decode b_Pay_isDisputeOpen 1 = .ok (.getfield 28, 3) := by decide +kernel
theorem d_Pay_isDisputeOpen_4 : decode b_Pay_isDisputeOpen 4 = .ok (.iconst 1, 1) := by decide +kernel
theorem d_Pay_isDisputeOpen_5 : decode b_Pay_isDisputeOpen 5 = .ok (.if_icmp .eq 11, 3) := by decide +kernel
theorem d_Pay_isDisputeOpen_8 : decode b_Pay_isDisputeOpen 8 = .ok (.aload_n 0, 1) := by decide +kernel
theorem d_Pay_isDisputeOpen_9 : decode b_Pay_isDisputeOpen 9 = .ok (.getfield 28, 3) := by decide +kernel
theorem d_Pay_isDisputeOpen_12 : decode b_Pay_isDisputeOpen 12 = .ok (.iconst 2, 1) := by decide +kernel
theorem d_Pay_isDisputeOpen_13 : decode b_Pay_isDisputeOpen 13 = .ok (.if_icmp .ne 7, 3) := by decide +kernel
theorem d_Pay_isDisputeOpen_16 : decode b_Pay_isDisputeOpen 16 = .ok (.iconst 1, 1) := by decide +kernel
theorem d_Pay_isDisputeOpen_17 : decode b_Pay_isDisputeOpen 17 = .ok (.goto 4, 3) := by decide +kernel
theorem d_Pay_isDisputeOpen_20 : decode b_Pay_isDisputeOpen 20 = .ok (.iconst 0, 1) := by decide +kernel
theorem d_Pay_isDisputeOpen_21 : decode b_Pay_isDisputeOpen 21 = .ok (.ireturn, 1) := by decide +kernel
theorem d_Acc_isOverdrawn_0 : decode b_Acc_isOverdrawn 0 = .ok (.aload_n 0, 1) := by decide +kernel
theorem d_Acc_isOverdrawn_1 : decode b_Acc_isOverdrawn 1 = .ok (.invokevirtual 29, 3) := by decide +kernel
theorem d_Acc_isOverdrawn_4 : decode b_Acc_isOverdrawn 4 = .ok (.lstore_n 1, 1) := by decide +kernel
theorem d_Acc_isOverdrawn_5 : decode b_Acc_isOverdrawn 5 = .ok (.lload_n 1, 1) := by decide +kernel
theorem d_Acc_isOverdrawn_6 : decode b_Acc_isOverdrawn 6 = .ok (.lconst 0, 1) := by decide +kernel
theorem d_Acc_isOverdrawn_7 : decode b_Acc_isOverdrawn 7 = .ok (.lcmp, 1) := by decide +kernel
theorem d_Acc_isOverdrawn_8 : decode b_Acc_isOverdrawn 8 = .ok (.ifCond .ge 16, 3) := by decide +kernel
theorem d_Acc_isOverdrawn_11 : decode b_Acc_isOverdrawn 11 = .ok (.lload_n 1, 1) := by decide +kernel
theorem d_Acc_isOverdrawn_12 : decode b_Acc_isOverdrawn 12 = .ok (.aload_n 0, 1) := by decide +kernel
theorem d_Acc_isOverdrawn_13 : decode b_Acc_isOverdrawn 13 = .ok (.getfield 26, 3) := by decide +kernel
theorem d_Acc_isOverdrawn_16 : decode b_Acc_isOverdrawn 16 = .ok (.lcmp, 1) := by decide +kernel
theorem d_Acc_isOverdrawn_17 : decode b_Acc_isOverdrawn 17 = .ok (.ifCond .ge 7, 3) := by decide +kernel
theorem d_Acc_isOverdrawn_20 : decode b_Acc_isOverdrawn 20 = .ok (.iconst 1, 1) := by decide +kernel
theorem d_Acc_isOverdrawn_21 : decode b_Acc_isOverdrawn 21 = .ok (.goto 4, 3) := by decide +kernel
theorem d_Acc_isOverdrawn_24 : decode b_Acc_isOverdrawn 24 = .ok (.iconst 0, 1) := by decide +kernel
theorem d_Acc_isOverdrawn_25 : decode b_Acc_isOverdrawn 25 = .ok (.ireturn, 1) := by decide +kernel
theorem d_Acc_free_0 : decode b_Acc_free 0 = .ok (.aload_n 0, 1) := by decide +kernel
theorem d_Acc_free_1 : decode b_Acc_free 1 = .ok (.getfield 20, 3) := by decide +kernel
theorem d_Acc_free_4 : decode b_Acc_free 4 = .ok (.aload_n 0, 1) := by decide +kernel
theorem d_Acc_free_5 : decode b_Acc_free 5 = .ok (.getfield 23, 3) := by decide +kernel
theorem d_Acc_free_8 : decode b_Acc_free 8 = .ok (.lsub, 1) := by decide +kernel
theorem d_Acc_free_9 : decode b_Acc_free 9 = .ok (.aload_n 0, 1) := by decide +kernel
theorem d_Acc_free_10 : decode b_Acc_free 10 = .ok (.getfield 7, 3) := by decide +kernel
theorem d_Acc_free_13 : decode b_Acc_free 13 = .ok (.lsub, 1) := by decide +kernel
theorem d_Acc_free_14 : decode b_Acc_free 14 = .ok (.aload_n 0, 1) := by decide +kernel
theorem d_Acc_free_15 : decode b_Acc_free 15 = .ok (.getfield 13, 3) := by decide +kernel
theorem d_Acc_free_18 : decode b_Acc_free 18 = .ok (.lsub, 1) := by decide +kernel
theorem d_Acc_free_19 : decode b_Acc_free 19 = .ok (.lreturn, 1) := by decide +kernel
theorem d_Al_add1_0 : decode b_Al_add1 0 = .ok (.aload_n 0, 1) := by decide +kernel
theorem d_Al_add1_1 : decode b_Al_add1 1 = .ok (.dup, 1) := by decide +kernel
theorem d_Al_add1_2 : decode b_Al_add1 2 = .ok (.getfield 63, 3) := by decide +kernel
theorem d_Al_add1_5 : decode b_Al_add1 5 = .ok (.iconst 1, 1) := by decide +kernel
theorem d_Al_add1_6 : decode b_Al_add1 6 = .ok (.iadd, 1) := by decide +kernel
theorem d_Al_add1_7 : decode b_Al_add1 7 = .ok (.putfield 63, 3) := by decide +kernel
theorem d_Al_add1_10 : decode b_Al_add1 10 = .ok (.aload_n 0, 1) := by decide +kernel
theorem d_Al_add1_11 : decode b_Al_add1 11 = .ok (.aload_n 1, 1) := by decide +kernel
theorem d_Al_add1_12 : decode b_Al_add1 12 = .ok (.aload_n 0, 1) := by decide +kernel
theorem d_Al_add1_13 : decode b_Al_add1 13 = .ok (.getfield 9, 3) := by decide +kernel
theorem d_Al_add1_16 : decode b_Al_add1 16 = .ok (.aload_n 0, 1) := by decide +kernel
theorem d_Al_add1_17 : decode b_Al_add1 17 = .ok (.getfield 48, 3) := by decide +kernel
theorem d_Al_add1_20 : decode b_Al_add1 20 = .ok (.invokevirtual 131, 3) := by decide +kernel
theorem d_Al_add1_23 : decode b_Al_add1 23 = .ok (.iconst 1, 1) := by decide +kernel
theorem d_Al_add1_24 : decode b_Al_add1 24 = .ok (.ireturn, 1) := by decide +kernel
theorem d_Al_add2_0 : decode b_Al_add2 0 = .ok (.iload_n 3, 1) := by decide +kernel
theorem d_Al_add2_1 : decode b_Al_add2 1 = .ok (.aload_n 2, 1) := by decide +kernel
theorem d_Al_add2_2 : decode b_Al_add2 2 = .ok (.arraylength, 1) := by decide +kernel
theorem d_Al_add2_3 : decode b_Al_add2 3 = .ok (.if_icmp .ne 8, 3) := by decide +kernel
theorem d_Al_add2_6 : decode b_Al_add2 6 = .ok (.aload_n 0, 1) := by decide +kernel
theorem d_Al_add2_7 : decode b_Al_add2 7 = .ok (.invokevirtual 129, 3) := by decide +kernel
theorem d_Al_add2_10 : decode b_Al_add2 10 = .ok (.astore_n 2, 1) := by decide +kernel
theorem d_Al_add2_11 : decode b_Al_add2 11 = .ok (.aload_n 2, 1) := by decide +kernel
theorem d_Al_add2_12 : decode b_Al_add2 12 = .ok (.iload_n 3, 1) := by decide +kernel
theorem d_Al_add2_13 : decode b_Al_add2 13 = .ok (.aload_n 1, 1) := by decide +kernel
theorem d_Al_add2_14 : decode b_Al_add2 14 = .ok (.aastore, 1) := by decide +kernel
theorem d_Al_add2_15 : decode b_Al_add2 15 = .ok (.aload_n 0, 1) := by decide +kernel
theorem d_Al_add2_16 : decode b_Al_add2 16 = .ok (.iload_n 3, 1) := by decide +kernel
theorem d_Al_add2_17 : decode b_Al_add2 17 = .ok (.iconst 1, 1) := by decide +kernel
theorem d_Al_add2_18 : decode b_Al_add2 18 = .ok (.iadd, 1) := by decide +kernel
theorem d_Al_add2_19 : decode b_Al_add2 19 = .ok (.putfield 48, 3) := by decide +kernel
theorem d_Al_add2_22 : decode b_Al_add2 22 = .ok (.return_, 1) := by decide +kernel
theorem d_Al_grow1_0 : decode b_Al_grow1 0 = .ok (.aload_n 0, 1) := by decide +kernel
theorem d_Al_grow1_1 : decode b_Al_grow1 1 = .ok (.aload_n 0, 1) := by decide +kernel
theorem d_Al_grow1_2 : decode b_Al_grow1 2 = .ok (.getfield 48, 3) := by decide +kernel
theorem d_Al_grow1_5 : decode b_Al_grow1 5 = .ok (.iconst 1, 1) := by decide +kernel
theorem d_Al_grow1_6 : decode b_Al_grow1 6 = .ok (.iadd, 1) := by decide +kernel
theorem d_Al_grow1_7 : decode b_Al_grow1 7 = .ok (.invokevirtual 69, 3) := by decide +kernel
theorem d_Al_grow1_10 : decode b_Al_grow1 10 = .ok (.areturn, 1) := by decide +kernel
theorem d_Al_grow2_0 : decode b_Al_grow2 0 = .ok (.aload_n 0, 1) := by decide +kernel
theorem d_Al_grow2_1 : decode b_Al_grow2 1 = .ok (.getfield 9, 3) := by decide +kernel
theorem d_Al_grow2_4 : decode b_Al_grow2 4 = .ok (.arraylength, 1) := by decide +kernel
theorem d_Al_grow2_5 : decode b_Al_grow2 5 = .ok (.istore_n 2, 1) := by decide +kernel
theorem d_Al_grow2_6 : decode b_Al_grow2 6 = .ok (.iload_n 2, 1) := by decide +kernel
theorem d_Al_grow2_7 : decode b_Al_grow2 7 = .ok (.ifCond .gt 13, 3) := by decide +kernel
theorem d_Al_grow2_10 : decode b_Al_grow2 10 = .ok (.aload_n 0, 1) := by decide +kernel
theorem d_Al_grow2_11 : decode b_Al_grow2 11 = .ok (.getfield 9, 3) := by decide +kernel
theorem d_Al_grow2_14 : decode b_Al_grow2 14 = .ok (.getstatic 39, 3) := by decide +kernel
theorem d_Al_grow2_17 : decode b_Al_grow2 17 = .ok (.if_acmp .eq 28, 3) := by decide +kernel
theorem d_Al_grow2_20 : decode b_Al_grow2 20 = .ok (.iload_n 2, 1) := by decide +kernel
theorem d_Al_grow2_21 : decode b_Al_grow2 21 = .ok (.iload_n 1, 1) := by decide +kernel
theorem d_Al_grow2_22 : decode b_Al_grow2 22 = .ok (.iload_n 2, 1) := by decide +kernel
theorem d_Al_grow2_23 : decode b_Al_grow2 23 = .ok (.isub, 1) := by decide +kernel
theorem d_Al_grow2_24 : decode b_Al_grow2 24 = .ok (.iload_n 2, 1) := by decide +kernel
theorem d_Al_grow2_25 : decode b_Al_grow2 25 = .ok (.iconst 1, 1) := by decide +kernel
theorem d_Al_grow2_26 : decode b_Al_grow2 26 = .ok (.ishr, 1) := by decide +kernel
theorem d_Al_grow2_27 : decode b_Al_grow2 27 = .ok (.invokestatic 73, 3) := by decide +kernel
theorem d_Al_grow2_30 : decode b_Al_grow2 30 = .ok (.istore_n 3, 1) := by decide +kernel
theorem d_Al_grow2_31 : decode b_Al_grow2 31 = .ok (.aload_n 0, 1) := by decide +kernel
theorem d_Al_grow2_32 : decode b_Al_grow2 32 = .ok (.aload_n 0, 1) := by decide +kernel
theorem d_Al_grow2_33 : decode b_Al_grow2 33 = .ok (.getfield 9, 3) := by decide +kernel
theorem d_Al_grow2_36 : decode b_Al_grow2 36 = .ok (.iload_n 3, 1) := by decide +kernel
theorem d_Al_grow2_37 : decode b_Al_grow2 37 = .ok (.invokestatic 66, 3) := by decide +kernel
theorem d_Al_grow2_40 : decode b_Al_grow2 40 = .ok (.dup_x1, 1) := by decide +kernel
theorem d_Al_grow2_41 : decode b_Al_grow2 41 = .ok (.putfield 9, 3) := by decide +kernel
theorem d_Al_grow2_44 : decode b_Al_grow2 44 = .ok (.areturn, 1) := by decide +kernel
theorem d_Al_grow2_45 : decode b_Al_grow2 45 = .ok (.aload_n 0, 1) := by decide +kernel
theorem d_Al_grow2_46 : decode b_Al_grow2 46 = .ok (.bipush 10, 2) := by decide +kernel
theorem d_Al_grow2_48 : decode b_Al_grow2 48 = .ok (.iload_n 1, 1) := by decide +kernel
theorem d_Al_grow2_49 : decode b_Al_grow2 49 = .ok (.invokestatic 79, 3) := by decide +kernel
theorem d_Al_grow2_52 : decode b_Al_grow2 52 = .ok (.anewarray 7, 3) := by decide +kernel
theorem d_Al_grow2_55 : decode b_Al_grow2 55 = .ok (.dup_x1, 1) := by decide +kernel
theorem d_Al_grow2_56 : decode b_Al_grow2 56 = .ok (.putfield 9, 3) := by decide +kernel
theorem d_Al_grow2_59 : decode b_Al_grow2 59 = .ok (.areturn, 1) := by decide +kernel
theorem d_Sup_newLength_0 : decode b_Sup_newLength 0 = .ok (.iload_n 0, 1) := by decide +kernel
theorem d_Sup_newLength_1 : decode b_Sup_newLength 1 = .ok (.iload_n 1, 1) := by decide +kernel
theorem d_Sup_newLength_2 : decode b_Sup_newLength 2 = .ok (.iload_n 2, 1) := by decide +kernel
theorem d_Sup_newLength_3 : decode b_Sup_newLength 3 = .ok (.invokestatic 194, 3) := by decide +kernel
theorem d_Sup_newLength_6 : decode b_Sup_newLength 6 = .ok (.iadd, 1) := by decide +kernel
theorem d_Sup_newLength_7 : decode b_Sup_newLength 7 = .ok (.istore_n 3, 1) := by decide +kernel
theorem d_Sup_newLength_8 : decode b_Sup_newLength 8 = .ok (.iconst 0, 1) := by decide +kernel
theorem d_Sup_newLength_9 : decode b_Sup_newLength 9 = .ok (.iload_n 3, 1) := by decide +kernel
theorem d_Sup_newLength_10 : decode b_Sup_newLength 10 = .ok (.if_icmp .ge 11, 3) := by decide +kernel
theorem d_Sup_newLength_13 : decode b_Sup_newLength 13 = .ok (.iload_n 3, 1) := by decide +kernel
theorem d_Sup_newLength_14 : decode b_Sup_newLength 14 = .ok (.ldc 200, 2) := by decide +kernel
theorem d_Sup_newLength_16 : decode b_Sup_newLength 16 = .ok (.if_icmp .gt 5, 3) := by decide +kernel
theorem d_Sup_newLength_19 : decode b_Sup_newLength 19 = .ok (.iload_n 3, 1) := by decide +kernel
theorem d_Sup_newLength_20 : decode b_Sup_newLength 20 = .ok (.ireturn, 1) := by decide +kernel
theorem d_Sup_newLength_21 : decode b_Sup_newLength 21 = .ok (.iload_n 0, 1) := by decide +kernel
theorem d_Sup_newLength_22 : decode b_Sup_newLength 22 = .ok (.iload_n 1, 1) := by decide +kernel
theorem d_Sup_newLength_23 : decode b_Sup_newLength 23 = .ok (.invokestatic 201, 3) := by decide +kernel
theorem d_Sup_newLength_26 : decode b_Sup_newLength 26 = .ok (.ireturn, 1) := by decide +kernel
theorem d_Sup_hugeLength_0 : decode b_Sup_hugeLength 0 = .ok (.iload_n 0, 1) := by decide +kernel
theorem d_Sup_hugeLength_1 : decode b_Sup_hugeLength 1 = .ok (.iload_n 1, 1) := by decide +kernel
theorem d_Sup_hugeLength_2 : decode b_Sup_hugeLength 2 = .ok (.iadd, 1) := by decide +kernel
theorem d_Sup_hugeLength_3 : decode b_Sup_hugeLength 3 = .ok (.istore_n 2, 1) := by decide +kernel
theorem d_Sup_hugeLength_4 : decode b_Sup_hugeLength 4 = .ok (.iload_n 2, 1) := by decide +kernel
theorem d_Sup_hugeLength_5 : decode b_Sup_hugeLength 5 = .ok (.ifCond .ge 44, 3) := by decide +kernel
theorem d_Sup_hugeLength_8 : decode b_Sup_hugeLength 8 = .ok (.new 204, 3) := by decide +kernel
theorem d_Sup_hugeLength_11 : decode b_Sup_hugeLength 11 = .ok (.dup, 1) := by decide +kernel
theorem d_Sup_hugeLength_12 : decode b_Sup_hugeLength 12 = .ok (.new 89, 3) := by decide +kernel
theorem d_Sup_hugeLength_15 : decode b_Sup_hugeLength 15 = .ok (.dup, 1) := by decide +kernel
theorem d_Sup_hugeLength_16 : decode b_Sup_hugeLength 16 = .ok (.invokespecial 91, 3) := by decide +kernel
theorem d_Sup_hugeLength_19 : decode b_Sup_hugeLength 19 = .ok (.ldc 206, 2) := by decide +kernel
theorem d_Sup_hugeLength_21 : decode b_Sup_hugeLength 21 = .ok (.invokevirtual 94, 3) := by decide +kernel
theorem d_Sup_hugeLength_24 : decode b_Sup_hugeLength 24 = .ok (.iload_n 0, 1) := by decide +kernel
theorem d_Sup_hugeLength_25 : decode b_Sup_hugeLength 25 = .ok (.invokevirtual 98, 3) := by decide +kernel
theorem d_Sup_hugeLength_28 : decode b_Sup_hugeLength 28 = .ok (.ldc 208, 2) := by decide +kernel
theorem d_Sup_hugeLength_30 : decode b_Sup_hugeLength 30 = .ok (.invokevirtual 94, 3) := by decide +kernel
theorem d_Sup_hugeLength_33 : decode b_Sup_hugeLength 33 = .ok (.iload_n 1, 1) := by decide +kernel
theorem d_Sup_hugeLength_34 : decode b_Sup_hugeLength 34 = .ok (.invokevirtual 98, 3) := by decide +kernel
theorem d_Sup_hugeLength_37 : decode b_Sup_hugeLength 37 = .ok (.ldc 210, 2) := by decide +kernel
theorem d_Sup_hugeLength_39 : decode b_Sup_hugeLength 39 = .ok (.invokevirtual 94, 3) := by decide +kernel
theorem d_Sup_hugeLength_42 : decode b_Sup_hugeLength 42 = .ok (.invokevirtual 101, 3) := by decide +kernel
theorem d_Sup_hugeLength_45 : decode b_Sup_hugeLength 45 = .ok (.invokespecial 212, 3) := by decide +kernel
theorem d_Sup_hugeLength_48 : decode b_Sup_hugeLength 48 = .ok (.athrow, 1) := by decide +kernel
theorem d_Sup_hugeLength_49 : decode b_Sup_hugeLength 49 = .ok (.iload_n 2, 1) := by decide +kernel
theorem d_Sup_hugeLength_50 : decode b_Sup_hugeLength 50 = .ok (.ldc 200, 2) := by decide +kernel
theorem d_Sup_hugeLength_52 : decode b_Sup_hugeLength 52 = .ok (.if_icmp .gt 6, 3) := by decide +kernel
theorem d_Sup_hugeLength_55 : decode b_Sup_hugeLength 55 = .ok (.ldc 200, 2) := by decide +kernel
theorem d_Sup_hugeLength_57 : decode b_Sup_hugeLength 57 = .ok (.ireturn, 1) := by decide +kernel
theorem d_Sup_hugeLength_58 : decode b_Sup_hugeLength 58 = .ok (.iload_n 2, 1) := by decide +kernel
theorem d_Sup_hugeLength_59 : decode b_Sup_hugeLength 59 = .ok (.ireturn, 1) := by decide +kernel
theorem d_Ars_copyOf1_0 : decode b_Ars_copyOf1 0 = .ok (.aload_n 0, 1) := by decide +kernel
theorem d_Ars_copyOf1_1 : decode b_Ars_copyOf1 1 = .ok (.iload_n 1, 1) := by decide +kernel
theorem d_Ars_copyOf1_2 : decode b_Ars_copyOf1 2 = .ok (.aload_n 0, 1) := by decide +kernel
theorem d_Ars_copyOf1_3 : decode b_Ars_copyOf1 3 = .ok (.invokevirtual 86, 3) := by decide +kernel
theorem d_Ars_copyOf1_6 : decode b_Ars_copyOf1 6 = .ok (.invokestatic 300, 3) := by decide +kernel
theorem d_Ars_copyOf1_9 : decode b_Ars_copyOf1 9 = .ok (.areturn, 1) := by decide +kernel
theorem d_Ars_copyOf2_0 : decode b_Ars_copyOf2 0 = .ok (.aload_n 2, 1) := by decide +kernel
theorem d_Ars_copyOf2_1 : decode b_Ars_copyOf2 1 = .ok (.ldc 110, 2) := by decide +kernel
theorem d_Ars_copyOf2_3 : decode b_Ars_copyOf2 3 = .ok (.if_acmp .ne 10, 3) := by decide +kernel
theorem d_Ars_copyOf2_6 : decode b_Ars_copyOf2 6 = .ok (.iload_n 1, 1) := by decide +kernel
theorem d_Ars_copyOf2_7 : decode b_Ars_copyOf2 7 = .ok (.anewarray 2, 3) := by decide +kernel
theorem d_Ars_copyOf2_10 : decode b_Ars_copyOf2 10 = .ok (.goto 14, 3) := by decide +kernel
theorem d_Ars_copyOf2_13 : decode b_Ars_copyOf2 13 = .ok (.aload_n 2, 1) := by decide +kernel
theorem d_Ars_copyOf2_14 : decode b_Ars_copyOf2 14 = .ok (.invokevirtual 90, 3) := by decide +kernel
theorem d_Ars_copyOf2_17 : decode b_Ars_copyOf2 17 = .ok (.iload_n 1, 1) := by decide +kernel
theorem d_Ars_copyOf2_18 : decode b_Ars_copyOf2 18 = .ok (.invokestatic 95, 3) := by decide +kernel
theorem d_Ars_copyOf2_21 : decode b_Ars_copyOf2 21 = .ok (.checkcast 110, 3) := by decide +kernel
theorem d_Ars_copyOf2_24 : decode b_Ars_copyOf2 24 = .ok (.astore_n 3, 1) := by decide +kernel
theorem d_Ars_copyOf2_25 : decode b_Ars_copyOf2 25 = .ok (.aload_n 0, 1) := by decide +kernel
theorem d_Ars_copyOf2_26 : decode b_Ars_copyOf2 26 = .ok (.iconst 0, 1) := by decide +kernel
theorem d_Ars_copyOf2_27 : decode b_Ars_copyOf2 27 = .ok (.aload_n 3, 1) := by decide +kernel
theorem d_Ars_copyOf2_28 : decode b_Ars_copyOf2 28 = .ok (.iconst 0, 1) := by decide +kernel
theorem d_Ars_copyOf2_29 : decode b_Ars_copyOf2 29 = .ok (.aload_n 0, 1) := by decide +kernel
theorem d_Ars_copyOf2_30 : decode b_Ars_copyOf2 30 = .ok (.arraylength, 1) := by decide +kernel
theorem d_Ars_copyOf2_31 : decode b_Ars_copyOf2 31 = .ok (.iload_n 1, 1) := by decide +kernel
theorem d_Ars_copyOf2_32 : decode b_Ars_copyOf2 32 = .ok (.invokestatic 304, 3) := by decide +kernel
theorem d_Ars_copyOf2_35 : decode b_Ars_copyOf2 35 = .ok (.invokestatic 150, 3) := by decide +kernel
theorem d_Ars_copyOf2_38 : decode b_Ars_copyOf2 38 = .ok (.aload_n 3, 1) := by decide +kernel
theorem d_Ars_copyOf2_39 : decode b_Ars_copyOf2 39 = .ok (.areturn, 1) := by decide +kernel
theorem d_Pay_init_0 : decode b_Pay_init 0 = .ok (.aload_n 0, 1) := by decide +kernel
theorem d_Pay_init_1 : decode b_Pay_init 1 = .ok (.invokespecial 3, 3) := by decide +kernel
theorem d_Pay_init_4 : decode b_Pay_init 4 = .ok (.aload_n 0, 1) := by decide +kernel
theorem d_Pay_init_5 : decode b_Pay_init 5 = .ok (.iconst 2, 1) := by decide +kernel
theorem d_Pay_init_6 : decode b_Pay_init 6 = .ok (.putfield 11, 3) := by decide +kernel
theorem d_Pay_init_9 : decode b_Pay_init 9 = .ok (.aload_n 0, 1) := by decide +kernel
theorem d_Pay_init_10 : decode b_Pay_init 10 = .ok (.lconst 0, 1) := by decide +kernel
theorem d_Pay_init_11 : decode b_Pay_init 11 = .ok (.putfield 15, 3) := by decide +kernel
theorem d_Pay_init_14 : decode b_Pay_init 14 = .ok (.aload_n 0, 1) := by decide +kernel
theorem d_Pay_init_15 : decode b_Pay_init 15 = .ok (.lconst 0, 1) := by decide +kernel
theorem d_Pay_init_16 : decode b_Pay_init 16 = .ok (.putfield 19, 3) := by decide +kernel
theorem d_Pay_init_19 : decode b_Pay_init 19 = .ok (.aload_n 0, 1) := by decide +kernel
theorem d_Pay_init_20 : decode b_Pay_init 20 = .ok (.iconst 0, 1) := by decide +kernel
theorem d_Pay_init_21 : decode b_Pay_init 21 = .ok (.putfield 22, 3) := by decide +kernel
theorem d_Pay_init_24 : decode b_Pay_init 24 = .ok (.aload_n 0, 1) := by decide +kernel
theorem d_Pay_init_25 : decode b_Pay_init 25 = .ok (.iconst (-1), 1) := by decide +kernel
theorem d_Pay_init_26 : decode b_Pay_init 26 = .ok (.putfield 25, 3) := by decide +kernel
theorem d_Pay_init_29 : decode b_Pay_init 29 = .ok (.aload_n 0, 1) := by decide +kernel
theorem d_Pay_init_30 : decode b_Pay_init 30 = .ok (.iconst 0, 1) := by decide +kernel
theorem d_Pay_init_31 : decode b_Pay_init 31 = .ok (.putfield 28, 3) := by decide +kernel
theorem d_Pay_init_34 : decode b_Pay_init 34 = .ok (.aload_n 0, 1) := by decide +kernel
theorem d_Pay_init_35 : decode b_Pay_init 35 = .ok (.lconst 0, 1) := by decide +kernel
theorem d_Pay_init_36 : decode b_Pay_init 36 = .ok (.putfield 31, 3) := by decide +kernel
theorem d_Pay_init_39 : decode b_Pay_init 39 = .ok (.aload_n 0, 1) := by decide +kernel
theorem d_Pay_init_40 : decode b_Pay_init 40 = .ok (.iconst (-1), 1) := by decide +kernel
theorem d_Pay_init_41 : decode b_Pay_init 41 = .ok (.putfield 34, 3) := by decide +kernel
theorem d_Pay_init_44 : decode b_Pay_init 44 = .ok (.aload_n 0, 1) := by decide +kernel
theorem d_Pay_init_45 : decode b_Pay_init 45 = .ok (.iload_n 1, 1) := by decide +kernel
theorem d_Pay_init_46 : decode b_Pay_init 46 = .ok (.putfield 37, 3) := by decide +kernel
theorem d_Pay_init_49 : decode b_Pay_init 49 = .ok (.aload_n 0, 1) := by decide +kernel
theorem d_Pay_init_50 : decode b_Pay_init 50 = .ok (.aload_n 2, 1) := by decide +kernel
theorem d_Pay_init_51 : decode b_Pay_init 51 = .ok (.putfield 40, 3) := by decide +kernel
theorem d_Pay_init_54 : decode b_Pay_init 54 = .ok (.return_, 1) := by decide +kernel
theorem d_Mth_min2_0 : decode b_Mth_min2 0 = .ok (.lload_n 0, 1) := by decide +kernel
theorem d_Mth_min2_1 : decode b_Mth_min2 1 = .ok (.lload_n 2, 1) := by decide +kernel
theorem d_Mth_min2_2 : decode b_Mth_min2 2 = .ok (.lcmp, 1) := by decide +kernel
theorem d_Mth_min2_3 : decode b_Mth_min2 3 = .ok (.ifCond .gt 7, 3) := by decide +kernel
theorem d_Mth_min2_6 : decode b_Mth_min2 6 = .ok (.lload_n 0, 1) := by decide +kernel
theorem d_Mth_min2_7 : decode b_Mth_min2 7 = .ok (.goto 4, 3) := by decide +kernel
theorem d_Mth_min2_10 : decode b_Mth_min2 10 = .ok (.lload_n 2, 1) := by decide +kernel
theorem d_Mth_min2_11 : decode b_Mth_min2 11 = .ok (.lreturn, 1) := by decide +kernel
theorem d_Pay_holdUntil_0 : decode b_Pay_holdUntil 0 = .ok (.aload_n 0, 1) := by decide +kernel
theorem d_Pay_holdUntil_1 : decode b_Pay_holdUntil 1 = .ok (.iconst 1, 1) := by decide +kernel
theorem d_Pay_holdUntil_2 : decode b_Pay_holdUntil 2 = .ok (.putfield 11, 3) := by decide +kernel
theorem d_Pay_holdUntil_5 : decode b_Pay_holdUntil 5 = .ok (.aload_n 0, 1) := by decide +kernel
theorem d_Pay_holdUntil_6 : decode b_Pay_holdUntil 6 = .ok (.iload_n 3, 1) := by decide +kernel
theorem d_Pay_holdUntil_7 : decode b_Pay_holdUntil 7 = .ok (.putfield 22, 3) := by decide +kernel
theorem d_Pay_holdUntil_10 : decode b_Pay_holdUntil 10 = .ok (.aload_n 0, 1) := by decide +kernel
theorem d_Pay_holdUntil_11 : decode b_Pay_holdUntil 11 = .ok (.lload_n 1, 1) := by decide +kernel
theorem d_Pay_holdUntil_12 : decode b_Pay_holdUntil 12 = .ok (.invokevirtual 44, 3) := by decide +kernel
theorem d_Pay_holdUntil_15 : decode b_Pay_holdUntil 15 = .ok (.return_, 1) := by decide +kernel
theorem d_Pay_keepHeld_0 : decode b_Pay_keepHeld 0 = .ok (.aload_n 0, 1) := by decide +kernel
theorem d_Pay_keepHeld_1 : decode b_Pay_keepHeld 1 = .ok (.getfield 40, 3) := by decide +kernel
theorem d_Pay_keepHeld_4 : decode b_Pay_keepHeld 4 = .ok (.dup, 1) := by decide +kernel
theorem d_Pay_keepHeld_5 : decode b_Pay_keepHeld 5 = .ok (.getfield 48, 3) := by decide +kernel
theorem d_Pay_keepHeld_8 : decode b_Pay_keepHeld 8 = .ok (.lload_n 1, 1) := by decide +kernel
theorem d_Pay_keepHeld_9 : decode b_Pay_keepHeld 9 = .ok (.aload_n 0, 1) := by decide +kernel
theorem d_Pay_keepHeld_10 : decode b_Pay_keepHeld 10 = .ok (.getfield 15, 3) := by decide +kernel
theorem d_Pay_keepHeld_13 : decode b_Pay_keepHeld 13 = .ok (.lsub, 1) := by decide +kernel
theorem d_Pay_keepHeld_14 : decode b_Pay_keepHeld 14 = .ok (.ladd, 1) := by decide +kernel
theorem d_Pay_keepHeld_15 : decode b_Pay_keepHeld 15 = .ok (.putfield 48, 3) := by decide +kernel
theorem d_Pay_keepHeld_18 : decode b_Pay_keepHeld 18 = .ok (.aload_n 0, 1) := by decide +kernel
theorem d_Pay_keepHeld_19 : decode b_Pay_keepHeld 19 = .ok (.lload_n 1, 1) := by decide +kernel
theorem d_Pay_keepHeld_20 : decode b_Pay_keepHeld 20 = .ok (.putfield 15, 3) := by decide +kernel
theorem d_Pay_keepHeld_23 : decode b_Pay_keepHeld 23 = .ok (.return_, 1) := by decide +kernel
theorem d_Al_add3_0 : decode b_Al_add3 0 = .ok (.aload_n 0, 1) := by decide +kernel
theorem d_Al_add3_1 : decode b_Al_add3 1 = .ok (.iload_n 1, 1) := by decide +kernel
theorem d_Al_add3_2 : decode b_Al_add3 2 = .ok (.invokevirtual 135, 3) := by decide +kernel
theorem d_Al_add3_5 : decode b_Al_add3 5 = .ok (.aload_n 0, 1) := by decide +kernel
theorem d_Al_add3_6 : decode b_Al_add3 6 = .ok (.dup, 1) := by decide +kernel
theorem d_Al_add3_7 : decode b_Al_add3 7 = .ok (.getfield 63, 3) := by decide +kernel
theorem d_Al_add3_10 : decode b_Al_add3 10 = .ok (.iconst 1, 1) := by decide +kernel
theorem d_Al_add3_11 : decode b_Al_add3 11 = .ok (.iadd, 1) := by decide +kernel
theorem d_Al_add3_12 : decode b_Al_add3 12 = .ok (.putfield 63, 3) := by decide +kernel
theorem d_Al_add3_15 : decode b_Al_add3 15 = .ok (.aload_n 0, 1) := by decide +kernel
theorem d_Al_add3_16 : decode b_Al_add3 16 = .ok (.getfield 48, 3) := by decide +kernel
theorem d_Al_add3_19 : decode b_Al_add3 19 = .ok (.dup, 1) := by decide +kernel
theorem d_Al_add3_20 : decode b_Al_add3 20 = .ok (.istore_n 3, 1) := by decide +kernel
theorem d_Al_add3_21 : decode b_Al_add3 21 = .ok (.aload_n 0, 1) := by decide +kernel
theorem d_Al_add3_22 : decode b_Al_add3 22 = .ok (.getfield 9, 3) := by decide +kernel
theorem d_Al_add3_25 : decode b_Al_add3 25 = .ok (.dup, 1) := by decide +kernel
theorem d_Al_add3_26 : decode b_Al_add3 26 = .ok (.astore 4, 2) := by decide +kernel
theorem d_Al_add3_28 : decode b_Al_add3 28 = .ok (.arraylength, 1) := by decide +kernel
theorem d_Al_add3_29 : decode b_Al_add3 29 = .ok (.if_icmp .ne 9, 3) := by decide +kernel
theorem d_Al_add3_32 : decode b_Al_add3 32 = .ok (.aload_n 0, 1) := by decide +kernel
theorem d_Al_add3_33 : decode b_Al_add3 33 = .ok (.invokevirtual 129, 3) := by decide +kernel
theorem d_Al_add3_36 : decode b_Al_add3 36 = .ok (.astore 4, 2) := by decide +kernel
theorem d_Al_add3_38 : decode b_Al_add3 38 = .ok (.aload 4, 2) := by decide +kernel
theorem d_Al_add3_40 : decode b_Al_add3 40 = .ok (.iload_n 1, 1) := by decide +kernel
theorem d_Al_add3_41 : decode b_Al_add3 41 = .ok (.aload 4, 2) := by decide +kernel
theorem d_Al_add3_43 : decode b_Al_add3 43 = .ok (.iload_n 1, 1) := by decide +kernel
theorem d_Al_add3_44 : decode b_Al_add3 44 = .ok (.iconst 1, 1) := by decide +kernel
theorem d_Al_add3_45 : decode b_Al_add3 45 = .ok (.iadd, 1) := by decide +kernel
theorem d_Al_add3_46 : decode b_Al_add3 46 = .ok (.iload_n 3, 1) := by decide +kernel
theorem d_Al_add3_47 : decode b_Al_add3 47 = .ok (.iload_n 1, 1) := by decide +kernel
theorem d_Al_add3_48 : decode b_Al_add3 48 = .ok (.isub, 1) := by decide +kernel
theorem d_Al_add3_49 : decode b_Al_add3 49 = .ok (.invokestatic 112, 3) := by decide +kernel
theorem d_Al_add3_52 : decode b_Al_add3 52 = .ok (.aload 4, 2) := by decide +kernel
theorem d_Al_add3_54 : decode b_Al_add3 54 = .ok (.iload_n 1, 1) := by decide +kernel
theorem d_Al_add3_55 : decode b_Al_add3 55 = .ok (.aload_n 2, 1) := by decide +kernel
theorem d_Al_add3_56 : decode b_Al_add3 56 = .ok (.aastore, 1) := by decide +kernel
theorem d_Al_add3_57 : decode b_Al_add3 57 = .ok (.aload_n 0, 1) := by decide +kernel
theorem d_Al_add3_58 : decode b_Al_add3 58 = .ok (.iload_n 3, 1) := by decide +kernel
theorem d_Al_add3_59 : decode b_Al_add3 59 = .ok (.iconst 1, 1) := by decide +kernel
theorem d_Al_add3_60 : decode b_Al_add3 60 = .ok (.iadd, 1) := by decide +kernel
theorem d_Al_add3_61 : decode b_Al_add3 61 = .ok (.putfield 48, 3) := by decide +kernel
theorem d_Al_add3_64 : decode b_Al_add3 64 = .ok (.return_, 1) := by decide +kernel
theorem d_Al_rangeCheckForAdd_0 : decode b_Al_rangeCheckForAdd 0 = .ok (.iload_n 1, 1) := by decide +kernel
theorem d_Al_rangeCheckForAdd_1 : decode b_Al_rangeCheckForAdd 1 = .ok (.aload_n 0, 1) := by decide +kernel
theorem d_Al_rangeCheckForAdd_2 : decode b_Al_rangeCheckForAdd 2 = .ok (.getfield 48, 3) := by decide +kernel
theorem d_Al_rangeCheckForAdd_5 : decode b_Al_rangeCheckForAdd 5 = .ok (.if_icmp .gt 7, 3) := by decide +kernel
theorem d_Al_rangeCheckForAdd_8 : decode b_Al_rangeCheckForAdd 8 = .ok (.iload_n 1, 1) := by decide +kernel
theorem d_Al_rangeCheckForAdd_9 : decode b_Al_rangeCheckForAdd 9 = .ok (.ifCond .ge 16, 3) := by decide +kernel
theorem d_Al_rangeCheckForAdd_12 : decode b_Al_rangeCheckForAdd 12 = .ok (.new 187, 3) := by decide +kernel
theorem d_Al_rangeCheckForAdd_15 : decode b_Al_rangeCheckForAdd 15 = .ok (.dup, 1) := by decide +kernel
theorem d_Al_rangeCheckForAdd_16 : decode b_Al_rangeCheckForAdd 16 = .ok (.aload_n 0, 1) := by decide +kernel
theorem d_Al_rangeCheckForAdd_17 : decode b_Al_rangeCheckForAdd 17 = .ok (.iload_n 1, 1) := by decide +kernel
theorem d_Al_rangeCheckForAdd_18 : decode b_Al_rangeCheckForAdd 18 = .ok (.invokevirtual 198, 3) := by decide +kernel
theorem d_Al_rangeCheckForAdd_21 : decode b_Al_rangeCheckForAdd 21 = .ok (.invokespecial 193, 3) := by decide +kernel
theorem d_Al_rangeCheckForAdd_24 : decode b_Al_rangeCheckForAdd 24 = .ok (.athrow, 1) := by decide +kernel
theorem d_Al_rangeCheckForAdd_25 : decode b_Al_rangeCheckForAdd 25 = .ok (.return_, 1) := by decide +kernel
theorem d_Pay_take_0 : decode b_Pay_take 0 = .ok (.aload_n 0, 1) := by decide +kernel
theorem d_Pay_take_1 : decode b_Pay_take 1 = .ok (.aload_n 0, 1) := by decide +kernel
theorem d_Pay_take_2 : decode b_Pay_take 2 = .ok (.getfield 15, 3) := by decide +kernel
theorem d_Pay_take_5 : decode b_Pay_take 5 = .ok (.lload_n 1, 1) := by decide +kernel
theorem d_Pay_take_6 : decode b_Pay_take 6 = .ok (.lsub, 1) := by decide +kernel
theorem d_Pay_take_7 : decode b_Pay_take 7 = .ok (.invokevirtual 44, 3) := by decide +kernel
theorem d_Pay_take_10 : decode b_Pay_take 10 = .ok (.aload_n 0, 1) := by decide +kernel
theorem d_Pay_take_11 : decode b_Pay_take 11 = .ok (.dup, 1) := by decide +kernel
theorem d_Pay_take_12 : decode b_Pay_take 12 = .ok (.getfield 19, 3) := by decide +kernel
theorem d_Pay_take_15 : decode b_Pay_take 15 = .ok (.lload_n 1, 1) := by decide +kernel
theorem d_Pay_take_16 : decode b_Pay_take 16 = .ok (.ladd, 1) := by decide +kernel
theorem d_Pay_take_17 : decode b_Pay_take 17 = .ok (.putfield 19, 3) := by decide +kernel
theorem d_Pay_take_20 : decode b_Pay_take 20 = .ok (.aload_n 0, 1) := by decide +kernel
theorem d_Pay_take_21 : decode b_Pay_take 21 = .ok (.getfield 40, 3) := by decide +kernel
theorem d_Pay_take_24 : decode b_Pay_take 24 = .ok (.dup, 1) := by decide +kernel
theorem d_Pay_take_25 : decode b_Pay_take 25 = .ok (.getfield 51, 3) := by decide +kernel
theorem d_Pay_take_28 : decode b_Pay_take 28 = .ok (.lload_n 1, 1) := by decide +kernel
theorem d_Pay_take_29 : decode b_Pay_take 29 = .ok (.lsub, 1) := by decide +kernel
theorem d_Pay_take_30 : decode b_Pay_take 30 = .ok (.putfield 51, 3) := by decide +kernel
theorem d_Pay_take_33 : decode b_Pay_take 33 = .ok (.return_, 1) := by decide +kernel
theorem d_Pay_endHold_0 : decode b_Pay_endHold 0 = .ok (.aload_n 0, 1) := by decide +kernel
theorem d_Pay_endHold_1 : decode b_Pay_endHold 1 = .ok (.lconst 0, 1) := by decide +kernel
theorem d_Pay_endHold_2 : decode b_Pay_endHold 2 = .ok (.invokevirtual 44, 3) := by decide +kernel
theorem d_Pay_endHold_5 : decode b_Pay_endHold 5 = .ok (.aload_n 0, 1) := by decide +kernel
theorem d_Pay_endHold_6 : decode b_Pay_endHold 6 = .ok (.iconst 0, 1) := by decide +kernel
theorem d_Pay_endHold_7 : decode b_Pay_endHold 7 = .ok (.putfield 22, 3) := by decide +kernel
theorem d_Pay_endHold_10 : decode b_Pay_endHold 10 = .ok (.aload_n 0, 1) := by decide +kernel
theorem d_Pay_endHold_11 : decode b_Pay_endHold 11 = .ok (.getfield 19, 3) := by decide +kernel
theorem d_Pay_endHold_14 : decode b_Pay_endHold 14 = .ok (.lconst 0, 1) := by decide +kernel
theorem d_Pay_endHold_15 : decode b_Pay_endHold 15 = .ok (.lcmp, 1) := by decide +kernel
theorem d_Pay_endHold_16 : decode b_Pay_endHold 16 = .ok (.ifCond .le 16, 3) := by decide +kernel
theorem d_Pay_endHold_19 : decode b_Pay_endHold 19 = .ok (.aload_n 0, 1) := by decide +kernel
theorem d_Pay_endHold_20 : decode b_Pay_endHold 20 = .ok (.iconst 3, 1) := by decide +kernel
theorem d_Pay_endHold_21 : decode b_Pay_endHold 21 = .ok (.putfield 11, 3) := by decide +kernel
theorem d_Pay_endHold_24 : decode b_Pay_endHold 24 = .ok (.aload_n 0, 1) := by decide +kernel
theorem d_Pay_endHold_25 : decode b_Pay_endHold 25 = .ok (.iload_n 1, 1) := by decide +kernel
theorem d_Pay_endHold_26 : decode b_Pay_endHold 26 = .ok (.putfield 25, 3) := by decide +kernel
theorem d_Pay_endHold_29 : decode b_Pay_endHold 29 = .ok (.goto 8, 3) := by decide +kernel
theorem d_Pay_endHold_32 : decode b_Pay_endHold 32 = .ok (.aload_n 0, 1) := by decide +kernel
theorem d_Pay_endHold_33 : decode b_Pay_endHold 33 = .ok (.iconst 2, 1) := by decide +kernel
theorem d_Pay_endHold_34 : decode b_Pay_endHold 34 = .ok (.putfield 11, 3) := by decide +kernel
theorem d_Pay_endHold_37 : decode b_Pay_endHold 37 = .ok (.return_, 1) := by decide +kernel
theorem d_Pay_passTo_0 : decode b_Pay_passTo 0 = .ok (.aload_n 0, 1) := by decide +kernel
theorem d_Pay_passTo_1 : decode b_Pay_passTo 1 = .ok (.getfield 11, 3) := by decide +kernel
theorem d_Pay_passTo_4 : decode b_Pay_passTo 4 = .ok (.iconst 1, 1) := by decide +kernel
theorem d_Pay_passTo_5 : decode b_Pay_passTo 5 = .ok (.if_icmp .ne 19, 3) := by decide +kernel
theorem d_Pay_passTo_8 : decode b_Pay_passTo 8 = .ok (.aload_n 0, 1) := by decide +kernel
theorem d_Pay_passTo_9 : decode b_Pay_passTo 9 = .ok (.getfield 22, 3) := by decide +kernel
theorem d_Pay_passTo_12 : decode b_Pay_passTo 12 = .ok (.iload_n 1, 1) := by decide +kernel
theorem d_Pay_passTo_13 : decode b_Pay_passTo 13 = .ok (.if_icmp .gt 11, 3) := by decide +kernel
theorem d_Pay_passTo_16 : decode b_Pay_passTo 16 = .ok (.aload_n 0, 1) := by decide +kernel
theorem d_Pay_passTo_17 : decode b_Pay_passTo 17 = .ok (.aload_n 0, 1) := by decide +kernel
theorem d_Pay_passTo_18 : decode b_Pay_passTo 18 = .ok (.getfield 22, 3) := by decide +kernel
theorem d_Pay_passTo_21 : decode b_Pay_passTo 21 = .ok (.invokevirtual 61, 3) := by decide +kernel
theorem d_Pay_passTo_24 : decode b_Pay_passTo 24 = .ok (.aload_n 0, 1) := by decide +kernel
theorem d_Pay_passTo_25 : decode b_Pay_passTo 25 = .ok (.invokevirtual 57, 3) := by decide +kernel
theorem d_Pay_passTo_28 : decode b_Pay_passTo 28 = .ok (.ifCond .eq 28, 3) := by decide +kernel
theorem d_Pay_passTo_31 : decode b_Pay_passTo 31 = .ok (.aload_n 0, 1) := by decide +kernel
theorem d_Pay_passTo_32 : decode b_Pay_passTo 32 = .ok (.getfield 34, 3) := by decide +kernel
theorem d_Pay_passTo_35 : decode b_Pay_passTo 35 = .ok (.iload_n 1, 1) := by decide +kernel
theorem d_Pay_passTo_36 : decode b_Pay_passTo 36 = .ok (.if_icmp .ge 20, 3) := by decide +kernel
theorem d_Pay_passTo_39 : decode b_Pay_passTo 39 = .ok (.aload_n 0, 1) := by decide +kernel
theorem d_Pay_passTo_40 : decode b_Pay_passTo 40 = .ok (.aload_n 0, 1) := by decide +kernel
theorem d_Pay_passTo_41 : decode b_Pay_passTo 41 = .ok (.getfield 28, 3) := by decide +kernel
theorem d_Pay_passTo_44 : decode b_Pay_passTo 44 = .ok (.iconst 1, 1) := by decide +kernel
theorem d_Pay_passTo_45 : decode b_Pay_passTo 45 = .ok (.if_icmp .ne 7, 3) := by decide +kernel
theorem d_Pay_passTo_48 : decode b_Pay_passTo 48 = .ok (.iconst 1, 1) := by decide +kernel
theorem d_Pay_passTo_49 : decode b_Pay_passTo 49 = .ok (.goto 4, 3) := by decide +kernel
theorem d_Pay_passTo_52 : decode b_Pay_passTo 52 = .ok (.iconst 0, 1) := by decide +kernel
theorem d_Pay_passTo_53 : decode b_Pay_passTo 53 = .ok (.invokevirtual 65, 3) := by decide +kernel
theorem d_Pay_passTo_56 : decode b_Pay_passTo 56 = .ok (.return_, 1) := by decide +kernel
theorem d_Pay_endDispute_0 : decode b_Pay_endDispute 0 = .ok (.aload_n 0, 1) := by decide +kernel
theorem d_Pay_endDispute_1 : decode b_Pay_endDispute 1 = .ok (.getfield 40, 3) := by decide +kernel
theorem d_Pay_endDispute_4 : decode b_Pay_endDispute 4 = .ok (.dup, 1) := by decide +kernel
theorem d_Pay_endDispute_5 : decode b_Pay_endDispute 5 = .ok (.getfield 54, 3) := by decide +kernel
theorem d_Pay_endDispute_8 : decode b_Pay_endDispute 8 = .ok (.aload_n 0, 1) := by decide +kernel
theorem d_Pay_endDispute_9 : decode b_Pay_endDispute 9 = .ok (.getfield 31, 3) := by decide +kernel
theorem d_Pay_endDispute_12 : decode b_Pay_endDispute 12 = .ok (.lsub, 1) := by decide +kernel
theorem d_Pay_endDispute_13 : decode b_Pay_endDispute 13 = .ok (.putfield 54, 3) := by decide +kernel
theorem d_Pay_endDispute_16 : decode b_Pay_endDispute 16 = .ok (.iload_n 1, 1) := by decide +kernel
theorem d_Pay_endDispute_17 : decode b_Pay_endDispute 17 = .ok (.ifCond .ne 19, 3) := by decide +kernel
theorem d_Pay_endDispute_20 : decode b_Pay_endDispute 20 = .ok (.aload_n 0, 1) := by decide +kernel
theorem d_Pay_endDispute_21 : decode b_Pay_endDispute 21 = .ok (.getfield 40, 3) := by decide +kernel
theorem d_Pay_endDispute_24 : decode b_Pay_endDispute 24 = .ok (.dup, 1) := by decide +kernel
theorem d_Pay_endDispute_25 : decode b_Pay_endDispute 25 = .ok (.getfield 51, 3) := by decide +kernel
theorem d_Pay_endDispute_28 : decode b_Pay_endDispute 28 = .ok (.aload_n 0, 1) := by decide +kernel
theorem d_Pay_endDispute_29 : decode b_Pay_endDispute 29 = .ok (.getfield 31, 3) := by decide +kernel
theorem d_Pay_endDispute_32 : decode b_Pay_endDispute 32 = .ok (.lsub, 1) := by decide +kernel
theorem d_Pay_endDispute_33 : decode b_Pay_endDispute 33 = .ok (.putfield 51, 3) := by decide +kernel
theorem d_Pay_endDispute_36 : decode b_Pay_endDispute 36 = .ok (.aload_n 0, 1) := by decide +kernel
theorem d_Pay_endDispute_37 : decode b_Pay_endDispute 37 = .ok (.iload_n 1, 1) := by decide +kernel
theorem d_Pay_endDispute_38 : decode b_Pay_endDispute 38 = .ok (.ifCond .eq 7, 3) := by decide +kernel
theorem d_Pay_endDispute_41 : decode b_Pay_endDispute 41 = .ok (.iconst 3, 1) := by decide +kernel
theorem d_Pay_endDispute_42 : decode b_Pay_endDispute 42 = .ok (.goto 4, 3) := by decide +kernel
theorem d_Pay_endDispute_45 : decode b_Pay_endDispute 45 = .ok (.iconst 4, 1) := by decide +kernel
theorem d_Pay_endDispute_46 : decode b_Pay_endDispute 46 = .ok (.putfield 28, 3) := by decide +kernel
theorem d_Pay_endDispute_49 : decode b_Pay_endDispute 49 = .ok (.aload_n 0, 1) := by decide +kernel
theorem d_Pay_endDispute_50 : decode b_Pay_endDispute 50 = .ok (.iconst (-1), 1) := by decide +kernel
theorem d_Pay_endDispute_51 : decode b_Pay_endDispute 51 = .ok (.putfield 34, 3) := by decide +kernel
theorem d_Pay_endDispute_54 : decode b_Pay_endDispute 54 = .ok (.return_, 1) := by decide +kernel
theorem d_Pay_openDispute_0 : decode b_Pay_openDispute 0 = .ok (.aload_n 0, 1) := by decide +kernel
theorem d_Pay_openDispute_1 : decode b_Pay_openDispute 1 = .ok (.iconst 1, 1) := by decide +kernel
theorem d_Pay_openDispute_2 : decode b_Pay_openDispute 2 = .ok (.putfield 28, 3) := by decide +kernel
theorem d_Pay_openDispute_5 : decode b_Pay_openDispute 5 = .ok (.aload_n 0, 1) := by decide +kernel
theorem d_Pay_openDispute_6 : decode b_Pay_openDispute 6 = .ok (.lload_n 1, 1) := by decide +kernel
theorem d_Pay_openDispute_7 : decode b_Pay_openDispute 7 = .ok (.putfield 31, 3) := by decide +kernel
theorem d_Pay_openDispute_10 : decode b_Pay_openDispute 10 = .ok (.aload_n 0, 1) := by decide +kernel
theorem d_Pay_openDispute_11 : decode b_Pay_openDispute 11 = .ok (.iload_n 3, 1) := by decide +kernel
theorem d_Pay_openDispute_12 : decode b_Pay_openDispute 12 = .ok (.putfield 34, 3) := by decide +kernel
theorem d_Pay_openDispute_15 : decode b_Pay_openDispute 15 = .ok (.aload_n 0, 1) := by decide +kernel
theorem d_Pay_openDispute_16 : decode b_Pay_openDispute 16 = .ok (.getfield 40, 3) := by decide +kernel
theorem d_Pay_openDispute_19 : decode b_Pay_openDispute 19 = .ok (.dup, 1) := by decide +kernel
theorem d_Pay_openDispute_20 : decode b_Pay_openDispute 20 = .ok (.getfield 51, 3) := by decide +kernel
theorem d_Pay_openDispute_23 : decode b_Pay_openDispute 23 = .ok (.lload_n 1, 1) := by decide +kernel
theorem d_Pay_openDispute_24 : decode b_Pay_openDispute 24 = .ok (.ladd, 1) := by decide +kernel
theorem d_Pay_openDispute_25 : decode b_Pay_openDispute 25 = .ok (.putfield 51, 3) := by decide +kernel
theorem d_Pay_openDispute_28 : decode b_Pay_openDispute 28 = .ok (.aload_n 0, 1) := by decide +kernel
theorem d_Pay_openDispute_29 : decode b_Pay_openDispute 29 = .ok (.getfield 40, 3) := by decide +kernel
theorem d_Pay_openDispute_32 : decode b_Pay_openDispute 32 = .ok (.dup, 1) := by decide +kernel
theorem d_Pay_openDispute_33 : decode b_Pay_openDispute 33 = .ok (.getfield 54, 3) := by decide +kernel
theorem d_Pay_openDispute_36 : decode b_Pay_openDispute 36 = .ok (.lload_n 1, 1) := by decide +kernel
theorem d_Pay_openDispute_37 : decode b_Pay_openDispute 37 = .ok (.ladd, 1) := by decide +kernel
theorem d_Pay_openDispute_38 : decode b_Pay_openDispute 38 = .ok (.putfield 54, 3) := by decide +kernel
theorem d_Pay_openDispute_41 : decode b_Pay_openDispute 41 = .ok (.return_, 1) := by decide +kernel
theorem d_Pay_answerDispute_0 : decode b_Pay_answerDispute 0 = .ok (.aload_n 0, 1) := by decide +kernel
theorem d_Pay_answerDispute_1 : decode b_Pay_answerDispute 1 = .ok (.iconst 2, 1) := by decide +kernel
theorem d_Pay_answerDispute_2 : decode b_Pay_answerDispute 2 = .ok (.putfield 28, 3) := by decide +kernel
theorem d_Pay_answerDispute_5 : decode b_Pay_answerDispute 5 = .ok (.aload_n 0, 1) := by decide +kernel
theorem d_Pay_answerDispute_6 : decode b_Pay_answerDispute 6 = .ok (.iload_n 1, 1) := by decide +kernel
theorem d_Pay_answerDispute_7 : decode b_Pay_answerDispute 7 = .ok (.putfield 34, 3) := by decide +kernel
theorem d_Pay_answerDispute_10 : decode b_Pay_answerDispute 10 = .ok (.return_, 1) := by decide +kernel
theorem d_Acc_tell_0 : decode b_Acc_tell 0 = .ok (.iload_n 1, 1) := by decide +kernel
theorem d_Acc_tell_1 : decode b_Acc_tell 1 = .ok (.tableswitch 42 0 2 #[27, 32, 37], 27) := by decide +kernel
theorem d_Acc_tell_28 : decode b_Acc_tell 28 = .ok (.aload_n 0, 1) := by decide +kernel
theorem d_Acc_tell_29 : decode b_Acc_tell 29 = .ok (.getfield 20, 3) := by decide +kernel
theorem d_Acc_tell_32 : decode b_Acc_tell 32 = .ok (.lreturn, 1) := by decide +kernel
theorem d_Acc_tell_33 : decode b_Acc_tell 33 = .ok (.aload_n 0, 1) := by decide +kernel
theorem d_Acc_tell_34 : decode b_Acc_tell 34 = .ok (.getfield 7, 3) := by decide +kernel
theorem d_Acc_tell_37 : decode b_Acc_tell 37 = .ok (.lreturn, 1) := by decide +kernel
theorem d_Acc_tell_38 : decode b_Acc_tell 38 = .ok (.aload_n 0, 1) := by decide +kernel
theorem d_Acc_tell_39 : decode b_Acc_tell 39 = .ok (.getfield 13, 3) := by decide +kernel
theorem d_Acc_tell_42 : decode b_Acc_tell 42 = .ok (.lreturn, 1) := by decide +kernel
theorem d_Acc_tell_43 : decode b_Acc_tell 43 = .ok (.aload_n 0, 1) := by decide +kernel
theorem d_Acc_tell_44 : decode b_Acc_tell 44 = .ok (.invokevirtual 29, 3) := by decide +kernel
theorem d_Acc_tell_47 : decode b_Acc_tell 47 = .ok (.lreturn, 1) := by decide +kernel
theorem d_Pay_tell_0 : decode b_Pay_tell 0 = .ok (.iload_n 1, 1) := by decide +kernel
theorem d_Pay_tell_1 : decode b_Pay_tell 1 = .ok (.tableswitch 95 0 7 #[47, 53, 58, 63, 69, 75, 84, 90], 47) := by decide +kernel
theorem d_Pay_tell_48 : decode b_Pay_tell 48 = .ok (.aload_n 0, 1) := by decide +kernel
theorem d_Pay_tell_49 : decode b_Pay_tell 49 = .ok (.getfield 11, 3) := by decide +kernel
theorem d_Pay_tell_52 : decode b_Pay_tell 52 = .ok (.i2l, 1) := by decide +kernel
theorem d_Pay_tell_53 : decode b_Pay_tell 53 = .ok (.lreturn, 1) := by decide +kernel
theorem d_Pay_tell_54 : decode b_Pay_tell 54 = .ok (.aload_n 0, 1) := by decide +kernel
theorem d_Pay_tell_55 : decode b_Pay_tell 55 = .ok (.getfield 15, 3) := by decide +kernel
theorem d_Pay_tell_58 : decode b_Pay_tell 58 = .ok (.lreturn, 1) := by decide +kernel
theorem d_Pay_tell_59 : decode b_Pay_tell 59 = .ok (.aload_n 0, 1) := by decide +kernel
theorem d_Pay_tell_60 : decode b_Pay_tell 60 = .ok (.getfield 19, 3) := by decide +kernel
theorem d_Pay_tell_63 : decode b_Pay_tell 63 = .ok (.lreturn, 1) := by decide +kernel
theorem d_Pay_tell_64 : decode b_Pay_tell 64 = .ok (.aload_n 0, 1) := by decide +kernel
theorem d_Pay_tell_65 : decode b_Pay_tell 65 = .ok (.getfield 22, 3) := by decide +kernel
theorem d_Pay_tell_68 : decode b_Pay_tell 68 = .ok (.i2l, 1) := by decide +kernel
theorem d_Pay_tell_69 : decode b_Pay_tell 69 = .ok (.lreturn, 1) := by decide +kernel
theorem d_Pay_tell_70 : decode b_Pay_tell 70 = .ok (.aload_n 0, 1) := by decide +kernel
theorem d_Pay_tell_71 : decode b_Pay_tell 71 = .ok (.getfield 25, 3) := by decide +kernel
theorem d_Pay_tell_74 : decode b_Pay_tell 74 = .ok (.i2l, 1) := by decide +kernel
theorem d_Pay_tell_75 : decode b_Pay_tell 75 = .ok (.lreturn, 1) := by decide +kernel
theorem d_Pay_tell_76 : decode b_Pay_tell 76 = .ok (.aload_n 0, 1) := by decide +kernel
theorem d_Pay_tell_77 : decode b_Pay_tell 77 = .ok (.getfield 40, 3) := by decide +kernel
theorem d_Pay_tell_80 : decode b_Pay_tell 80 = .ok (.getfield 69, 3) := by decide +kernel
theorem d_Pay_tell_83 : decode b_Pay_tell 83 = .ok (.i2l, 1) := by decide +kernel
theorem d_Pay_tell_84 : decode b_Pay_tell 84 = .ok (.lreturn, 1) := by decide +kernel
theorem d_Pay_tell_85 : decode b_Pay_tell 85 = .ok (.aload_n 0, 1) := by decide +kernel
theorem d_Pay_tell_86 : decode b_Pay_tell 86 = .ok (.getfield 28, 3) := by decide +kernel
theorem d_Pay_tell_89 : decode b_Pay_tell 89 = .ok (.i2l, 1) := by decide +kernel
theorem d_Pay_tell_90 : decode b_Pay_tell 90 = .ok (.lreturn, 1) := by decide +kernel
theorem d_Pay_tell_91 : decode b_Pay_tell 91 = .ok (.aload_n 0, 1) := by decide +kernel
theorem d_Pay_tell_92 : decode b_Pay_tell 92 = .ok (.getfield 31, 3) := by decide +kernel
theorem d_Pay_tell_95 : decode b_Pay_tell 95 = .ok (.lreturn, 1) := by decide +kernel
theorem d_Pay_tell_96 : decode b_Pay_tell 96 = .ok (.aload_n 0, 1) := by decide +kernel
theorem d_Pay_tell_97 : decode b_Pay_tell 97 = .ok (.getfield 34, 3) := by decide +kernel
theorem d_Pay_tell_100 : decode b_Pay_tell 100 = .ok (.i2l, 1) := by decide +kernel
theorem d_Pay_tell_101 : decode b_Pay_tell 101 = .ok (.lreturn, 1) := by decide +kernel
end
section
/-! DECODE ROWS -/
theorem d_Hb_init_0 : decode b_Hb_init 0 = .ok (.aload_n 0, 1) := by decide +kernel
theorem d_Hb_init_1 : decode b_Hb_init 1 = .ok (.invokespecial 1, 3) := by decide +kernel
theorem d_Hb_init_4 : decode b_Hb_init 4 = .ok (.aload_n 0, 1) := by decide +kernel
theorem d_Hb_init_5 : decode b_Hb_init 5 = .ok (.new 7, 3) := by decide +kernel
theorem d_Hb_init_8 : decode b_Hb_init 8 = .ok (.dup, 1) := by decide +kernel
theorem d_Hb_init_9 : decode b_Hb_init 9 = .ok (.invokespecial 9, 3) := by decide +kernel
theorem d_Hb_init_12 : decode b_Hb_init 12 = .ok (.putfield 10, 3) := by decide +kernel
theorem d_Hb_init_15 : decode b_Hb_init 15 = .ok (.aload_n 0, 1) := by decide +kernel
theorem d_Hb_init_16 : decode b_Hb_init 16 = .ok (.new 7, 3) := by decide +kernel
theorem d_Hb_init_19 : decode b_Hb_init 19 = .ok (.dup, 1) := by decide +kernel
theorem d_Hb_init_20 : decode b_Hb_init 20 = .ok (.invokespecial 9, 3) := by decide +kernel
theorem d_Hb_init_23 : decode b_Hb_init 23 = .ok (.putfield 16, 3) := by decide +kernel
theorem d_Hb_init_26 : decode b_Hb_init 26 = .ok (.aload_n 0, 1) := by decide +kernel
theorem d_Hb_init_27 : decode b_Hb_init 27 = .ok (.new 19, 3) := by decide +kernel
theorem d_Hb_init_30 : decode b_Hb_init 30 = .ok (.dup, 1) := by decide +kernel
theorem d_Hb_init_31 : decode b_Hb_init 31 = .ok (.iconst (-1), 1) := by decide +kernel
theorem d_Hb_init_32 : decode b_Hb_init 32 = .ok (.lconst 0, 1) := by decide +kernel
theorem d_Hb_init_33 : decode b_Hb_init 33 = .ok (.lconst 0, 1) := by decide +kernel
theorem d_Hb_init_34 : decode b_Hb_init 34 = .ok (.invokespecial 21, 3) := by decide +kernel
theorem d_Hb_init_37 : decode b_Hb_init 37 = .ok (.putfield 24, 3) := by decide +kernel
theorem d_Hb_init_40 : decode b_Hb_init 40 = .ok (.aload_n 0, 1) := by decide +kernel
theorem d_Hb_init_41 : decode b_Hb_init 41 = .ok (.iconst 0, 1) := by decide +kernel
theorem d_Hb_init_42 : decode b_Hb_init 42 = .ok (.putfield 28, 3) := by decide +kernel
theorem d_Hb_init_45 : decode b_Hb_init 45 = .ok (.aload_n 0, 1) := by decide +kernel
theorem d_Hb_init_46 : decode b_Hb_init 46 = .ok (.iload_n 1, 1) := by decide +kernel
theorem d_Hb_init_47 : decode b_Hb_init 47 = .ok (.invokestatic 32, 3) := by decide +kernel
theorem d_Hb_init_50 : decode b_Hb_init 50 = .ok (.putfield 36, 3) := by decide +kernel
theorem d_Hb_init_53 : decode b_Hb_init 53 = .ok (.aload_n 0, 1) := by decide +kernel
theorem d_Hb_init_54 : decode b_Hb_init 54 = .ok (.iload_n 2, 1) := by decide +kernel
theorem d_Hb_init_55 : decode b_Hb_init 55 = .ok (.invokestatic 32, 3) := by decide +kernel
theorem d_Hb_init_58 : decode b_Hb_init 58 = .ok (.putfield 39, 3) := by decide +kernel
theorem d_Hb_init_61 : decode b_Hb_init 61 = .ok (.return_, 1) := by decide +kernel
theorem d_Hb_spanOf_0 : decode b_Hb_spanOf 0 = .ok (.iconst 1, 1) := by decide +kernel
theorem d_Hb_spanOf_1 : decode b_Hb_spanOf 1 = .ok (.sipush 5000, 3) := by decide +kernel
theorem d_Hb_spanOf_4 : decode b_Hb_spanOf 4 = .ok (.iload_n 0, 1) := by decide +kernel
theorem d_Hb_spanOf_5 : decode b_Hb_spanOf 5 = .ok (.invokestatic 200, 3) := by decide +kernel
theorem d_Hb_spanOf_8 : decode b_Hb_spanOf 8 = .ok (.invokestatic 203, 3) := by decide +kernel
theorem d_Hb_spanOf_11 : decode b_Hb_spanOf 11 = .ok (.ireturn, 1) := by decide +kernel
theorem d_Hb_forget_0 : decode b_Hb_forget 0 = .ok (.iconst 0, 1) := by decide +kernel
theorem d_Hb_forget_1 : decode b_Hb_forget 1 = .ok (.istore_n 1, 1) := by decide +kernel
theorem d_Hb_forget_2 : decode b_Hb_forget 2 = .ok (.aload_n 0, 1) := by decide +kernel
theorem d_Hb_forget_3 : decode b_Hb_forget 3 = .ok (.getfield 16, 3) := by decide +kernel
theorem d_Hb_forget_6 : decode b_Hb_forget 6 = .ok (.invokevirtual 55, 3) := by decide +kernel
theorem d_Hb_forget_9 : decode b_Hb_forget 9 = .ok (.iconst 1, 1) := by decide +kernel
theorem d_Hb_forget_10 : decode b_Hb_forget 10 = .ok (.isub, 1) := by decide +kernel
theorem d_Hb_forget_11 : decode b_Hb_forget 11 = .ok (.istore_n 2, 1) := by decide +kernel
theorem d_Hb_forget_12 : decode b_Hb_forget 12 = .ok (.iload_n 2, 1) := by decide +kernel
theorem d_Hb_forget_13 : decode b_Hb_forget 13 = .ok (.ifCond .lt 39, 3) := by decide +kernel
theorem d_Hb_forget_16 : decode b_Hb_forget 16 = .ok (.aload_n 0, 1) := by decide +kernel
theorem d_Hb_forget_17 : decode b_Hb_forget 17 = .ok (.aload_n 0, 1) := by decide +kernel
theorem d_Hb_forget_18 : decode b_Hb_forget 18 = .ok (.getfield 16, 3) := by decide +kernel
theorem d_Hb_forget_21 : decode b_Hb_forget 21 = .ok (.iload_n 2, 1) := by decide +kernel
theorem d_Hb_forget_22 : decode b_Hb_forget 22 = .ok (.invokevirtual 87, 3) := by decide +kernel
theorem d_Hb_forget_25 : decode b_Hb_forget 25 = .ok (.checkcast 97, 3) := by decide +kernel
theorem d_Hb_forget_28 : decode b_Hb_forget 28 = .ok (.invokevirtual 170, 3) := by decide +kernel
theorem d_Hb_forget_31 : decode b_Hb_forget 31 = .ok (.ifCond .eq 15, 3) := by decide +kernel
theorem d_Hb_forget_34 : decode b_Hb_forget 34 = .ok (.aload_n 0, 1) := by decide +kernel
theorem d_Hb_forget_35 : decode b_Hb_forget 35 = .ok (.getfield 16, 3) := by decide +kernel
theorem d_Hb_forget_38 : decode b_Hb_forget 38 = .ok (.iload_n 2, 1) := by decide +kernel
theorem d_Hb_forget_39 : decode b_Hb_forget 39 = .ok (.invokevirtual 173, 3) := by decide +kernel
theorem d_Hb_forget_42 : decode b_Hb_forget 42 = .ok (.pop, 1) := by decide +kernel
theorem d_Hb_forget_43 : decode b_Hb_forget 43 = .ok (.iinc 1 1, 3) := by decide +kernel
theorem d_Hb_forget_46 : decode b_Hb_forget 46 = .ok (.iinc 2 (-1), 3) := by decide +kernel
theorem d_Hb_forget_49 : decode b_Hb_forget 49 = .ok (.goto (-37), 3) := by decide +kernel
theorem d_Hb_forget_52 : decode b_Hb_forget 52 = .ok (.iload_n 1, 1) := by decide +kernel
theorem d_Hb_forget_53 : decode b_Hb_forget 53 = .ok (.ireturn, 1) := by decide +kernel
theorem d_Hb_isOver_0 : decode b_Hb_isOver 0 = .ok (.aload_n 1, 1) := by decide +kernel
theorem d_Hb_isOver_1 : decode b_Hb_isOver 1 = .ok (.getfield 153, 3) := by decide +kernel
theorem d_Hb_isOver_4 : decode b_Hb_isOver 4 = .ok (.ifCond .ne 25, 3) := by decide +kernel
theorem d_Hb_isOver_7 : decode b_Hb_isOver 7 = .ok (.aload_n 1, 1) := by decide +kernel
theorem d_Hb_isOver_8 : decode b_Hb_isOver 8 = .ok (.getfield 122, 3) := by decide +kernel
theorem d_Hb_isOver_11 : decode b_Hb_isOver 11 = .ok (.iconst 2, 1) := by decide +kernel
theorem d_Hb_isOver_12 : decode b_Hb_isOver 12 = .ok (.if_icmp .eq 11, 3) := by decide +kernel
theorem d_Hb_isOver_15 : decode b_Hb_isOver 15 = .ok (.aload_n 0, 1) := by decide +kernel
theorem d_Hb_isOver_16 : decode b_Hb_isOver 16 = .ok (.aload_n 1, 1) := by decide +kernel
theorem d_Hb_isOver_17 : decode b_Hb_isOver 17 = .ok (.invokevirtual 156, 3) := by decide +kernel
theorem d_Hb_isOver_20 : decode b_Hb_isOver 20 = .ok (.ifCond .eq 7, 3) := by decide +kernel
theorem d_Hb_isOver_23 : decode b_Hb_isOver 23 = .ok (.iconst 1, 1) := by decide +kernel
theorem d_Hb_isOver_24 : decode b_Hb_isOver 24 = .ok (.goto 4, 3) := by decide +kernel
theorem d_Hb_isOver_27 : decode b_Hb_isOver 27 = .ok (.iconst 0, 1) := by decide +kernel
theorem d_Hb_isOver_28 : decode b_Hb_isOver 28 = .ok (.ireturn, 1) := by decide +kernel
theorem d_Hb_isOver_29 : decode b_Hb_isOver 29 = .ok (.aload_n 1, 1) := by decide +kernel
theorem d_Hb_isOver_30 : decode b_Hb_isOver 30 = .ok (.getfield 153, 3) := by decide +kernel
theorem d_Hb_isOver_33 : decode b_Hb_isOver 33 = .ok (.iconst 3, 1) := by decide +kernel
theorem d_Hb_isOver_34 : decode b_Hb_isOver 34 = .ok (.if_icmp .eq 11, 3) := by decide +kernel
theorem d_Hb_isOver_37 : decode b_Hb_isOver 37 = .ok (.aload_n 1, 1) := by decide +kernel
theorem d_Hb_isOver_38 : decode b_Hb_isOver 38 = .ok (.getfield 153, 3) := by decide +kernel
theorem d_Hb_isOver_41 : decode b_Hb_isOver 41 = .ok (.iconst 4, 1) := by decide +kernel
theorem d_Hb_isOver_42 : decode b_Hb_isOver 42 = .ok (.if_icmp .ne 7, 3) := by decide +kernel
theorem d_Hb_isOver_45 : decode b_Hb_isOver 45 = .ok (.iconst 1, 1) := by decide +kernel
theorem d_Hb_isOver_46 : decode b_Hb_isOver 46 = .ok (.goto 4, 3) := by decide +kernel
theorem d_Hb_isOver_49 : decode b_Hb_isOver 49 = .ok (.iconst 0, 1) := by decide +kernel
theorem d_Hb_isOver_50 : decode b_Hb_isOver 50 = .ok (.ireturn, 1) := by decide +kernel
theorem d_Hb_isLongDone_0 : decode b_Hb_isLongDone 0 = .ok (.aload_n 1, 1) := by decide +kernel
theorem d_Hb_isLongDone_1 : decode b_Hb_isLongDone 1 = .ok (.getfield 122, 3) := by decide +kernel
theorem d_Hb_isLongDone_4 : decode b_Hb_isLongDone 4 = .ok (.iconst 3, 1) := by decide +kernel
theorem d_Hb_isLongDone_5 : decode b_Hb_isLongDone 5 = .ok (.if_icmp .ne 23, 3) := by decide +kernel
theorem d_Hb_isLongDone_8 : decode b_Hb_isLongDone 8 = .ok (.aload_n 0, 1) := by decide +kernel
theorem d_Hb_isLongDone_9 : decode b_Hb_isLongDone 9 = .ok (.getfield 28, 3) := by decide +kernel
theorem d_Hb_isLongDone_12 : decode b_Hb_isLongDone 12 = .ok (.aload_n 1, 1) := by decide +kernel
theorem d_Hb_isLongDone_13 : decode b_Hb_isLongDone 13 = .ok (.getfield 220, 3) := by decide +kernel
theorem d_Hb_isLongDone_16 : decode b_Hb_isLongDone 16 = .ok (.isub, 1) := by decide +kernel
theorem d_Hb_isLongDone_17 : decode b_Hb_isLongDone 17 = .ok (.aload_n 0, 1) := by decide +kernel
theorem d_Hb_isLongDone_18 : decode b_Hb_isLongDone 18 = .ok (.getfield 39, 3) := by decide +kernel
theorem d_Hb_isLongDone_21 : decode b_Hb_isLongDone 21 = .ok (.if_icmp .le 7, 3) := by decide +kernel
theorem d_Hb_isLongDone_24 : decode b_Hb_isLongDone 24 = .ok (.iconst 1, 1) := by decide +kernel
theorem d_Hb_isLongDone_25 : decode b_Hb_isLongDone 25 = .ok (.goto 4, 3) := by decide +kernel
theorem d_Hb_isLongDone_28 : decode b_Hb_isLongDone 28 = .ok (.iconst 0, 1) := by decide +kernel
theorem d_Hb_isLongDone_29 : decode b_Hb_isLongDone 29 = .ok (.ireturn, 1) := by decide +kernel
theorem d_Hb_payments_0 : decode b_Hb_payments 0 = .ok (.aload_n 0, 1) := by decide +kernel
theorem d_Hb_payments_1 : decode b_Hb_payments 1 = .ok (.getfield 16, 3) := by decide +kernel
theorem d_Hb_payments_4 : decode b_Hb_payments 4 = .ok (.invokevirtual 55, 3) := by decide +kernel
theorem d_Hb_payments_7 : decode b_Hb_payments 7 = .ok (.ireturn, 1) := by decide +kernel
theorem d_Hb_audit_0 : decode b_Hb_audit 0 = .ok (.iconst 0, 1) := by decide +kernel
theorem d_Hb_audit_1 : decode b_Hb_audit 1 = .ok (.istore_n 1, 1) := by decide +kernel
theorem d_Hb_audit_2 : decode b_Hb_audit 2 = .ok (.iconst 0, 1) := by decide +kernel
theorem d_Hb_audit_3 : decode b_Hb_audit 3 = .ok (.istore_n 2, 1) := by decide +kernel
theorem d_Hb_audit_4 : decode b_Hb_audit 4 = .ok (.iload_n 2, 1) := by decide +kernel
theorem d_Hb_audit_5 : decode b_Hb_audit 5 = .ok (.aload_n 0, 1) := by decide +kernel
theorem d_Hb_audit_6 : decode b_Hb_audit 6 = .ok (.getfield 10, 3) := by decide +kernel
theorem d_Hb_audit_9 : decode b_Hb_audit 9 = .ok (.invokevirtual 55, 3) := by decide +kernel
theorem d_Hb_audit_12 : decode b_Hb_audit 12 = .ok (.if_icmp .ge 39, 3) := by decide +kernel
theorem d_Hb_audit_15 : decode b_Hb_audit 15 = .ok (.aload_n 0, 1) := by decide +kernel
theorem d_Hb_audit_16 : decode b_Hb_audit 16 = .ok (.getfield 10, 3) := by decide +kernel
theorem d_Hb_audit_19 : decode b_Hb_audit 19 = .ok (.iload_n 2, 1) := by decide +kernel
theorem d_Hb_audit_20 : decode b_Hb_audit 20 = .ok (.invokevirtual 87, 3) := by decide +kernel
theorem d_Hb_audit_23 : decode b_Hb_audit 23 = .ok (.checkcast 19, 3) := by decide +kernel
theorem d_Hb_audit_26 : decode b_Hb_audit 26 = .ok (.astore_n 3, 1) := by decide +kernel
theorem d_Hb_audit_27 : decode b_Hb_audit 27 = .ok (.aload_n 0, 1) := by decide +kernel
theorem d_Hb_audit_28 : decode b_Hb_audit 28 = .ok (.aload_n 3, 1) := by decide +kernel
theorem d_Hb_audit_29 : decode b_Hb_audit 29 = .ok (.invokevirtual 192, 3) := by decide +kernel
theorem d_Hb_audit_32 : decode b_Hb_audit 32 = .ok (.ifCond .eq 10, 3) := by decide +kernel
theorem d_Hb_audit_35 : decode b_Hb_audit 35 = .ok (.aload_n 3, 1) := by decide +kernel
theorem d_Hb_audit_36 : decode b_Hb_audit 36 = .ok (.invokevirtual 196, 3) := by decide +kernel
theorem d_Hb_audit_39 : decode b_Hb_audit 39 = .ok (.ifCond .eq 6, 3) := by decide +kernel
theorem d_Hb_audit_42 : decode b_Hb_audit 42 = .ok (.iinc 1 1, 3) := by decide +kernel
theorem d_Hb_audit_45 : decode b_Hb_audit 45 = .ok (.iinc 2 1, 3) := by decide +kernel
theorem d_Hb_audit_48 : decode b_Hb_audit 48 = .ok (.goto (-44), 3) := by decide +kernel
theorem d_Hb_audit_51 : decode b_Hb_audit 51 = .ok (.iload_n 1, 1) := by decide +kernel
theorem d_Hb_audit_52 : decode b_Hb_audit 52 = .ok (.ireturn, 1) := by decide +kernel
theorem d_Hb_agrees_0 : decode b_Hb_agrees 0 = .ok (.lconst 0, 1) := by decide +kernel
theorem d_Hb_agrees_1 : decode b_Hb_agrees 1 = .ok (.lstore_n 2, 1) := by decide +kernel
theorem d_Hb_agrees_2 : decode b_Hb_agrees 2 = .ok (.lconst 0, 1) := by decide +kernel
theorem d_Hb_agrees_3 : decode b_Hb_agrees 3 = .ok (.lstore 4, 2) := by decide +kernel
theorem d_Hb_agrees_5 : decode b_Hb_agrees 5 = .ok (.iconst 0, 1) := by decide +kernel
theorem d_Hb_agrees_6 : decode b_Hb_agrees 6 = .ok (.istore 6, 2) := by decide +kernel
theorem d_Hb_agrees_8 : decode b_Hb_agrees 8 = .ok (.iload 6, 2) := by decide +kernel
theorem d_Hb_agrees_10 : decode b_Hb_agrees 10 = .ok (.aload_n 0, 1) := by decide +kernel
theorem d_Hb_agrees_11 : decode b_Hb_agrees 11 = .ok (.getfield 16, 3) := by decide +kernel
theorem d_Hb_agrees_14 : decode b_Hb_agrees 14 = .ok (.invokevirtual 55, 3) := by decide +kernel
theorem d_Hb_agrees_17 : decode b_Hb_agrees 17 = .ok (.if_icmp .ge 56, 3) := by decide +kernel
theorem d_Hb_agrees_20 : decode b_Hb_agrees 20 = .ok (.aload_n 0, 1) := by decide +kernel
theorem d_Hb_agrees_21 : decode b_Hb_agrees 21 = .ok (.getfield 16, 3) := by decide +kernel
theorem d_Hb_agrees_24 : decode b_Hb_agrees 24 = .ok (.iload 6, 2) := by decide +kernel
theorem d_Hb_agrees_26 : decode b_Hb_agrees 26 = .ok (.invokevirtual 87, 3) := by decide +kernel
theorem d_Hb_agrees_29 : decode b_Hb_agrees 29 = .ok (.checkcast 97, 3) := by decide +kernel
theorem d_Hb_agrees_32 : decode b_Hb_agrees 32 = .ok (.astore 7, 2) := by decide +kernel
theorem d_Hb_agrees_34 : decode b_Hb_agrees 34 = .ok (.aload 7, 2) := by decide +kernel
theorem d_Hb_agrees_36 : decode b_Hb_agrees 36 = .ok (.getfield 223, 3) := by decide +kernel
theorem d_Hb_agrees_39 : decode b_Hb_agrees 39 = .ok (.getfield 226, 3) := by decide +kernel
theorem d_Hb_agrees_42 : decode b_Hb_agrees 42 = .ok (.aload_n 1, 1) := by decide +kernel
theorem d_Hb_agrees_43 : decode b_Hb_agrees 43 = .ok (.getfield 226, 3) := by decide +kernel
theorem d_Hb_agrees_46 : decode b_Hb_agrees 46 = .ok (.if_icmp .ne 21, 3) := by decide +kernel
theorem d_Hb_agrees_49 : decode b_Hb_agrees 49 = .ok (.lload_n 2, 1) := by decide +kernel
theorem d_Hb_agrees_50 : decode b_Hb_agrees 50 = .ok (.aload 7, 2) := by decide +kernel
theorem d_Hb_agrees_52 : decode b_Hb_agrees 52 = .ok (.getfield 116, 3) := by decide +kernel
theorem d_Hb_agrees_55 : decode b_Hb_agrees 55 = .ok (.ladd, 1) := by decide +kernel
theorem d_Hb_agrees_56 : decode b_Hb_agrees 56 = .ok (.lstore_n 2, 1) := by decide +kernel
theorem d_Hb_agrees_57 : decode b_Hb_agrees 57 = .ok (.lload 4, 2) := by decide +kernel
theorem d_Hb_agrees_59 : decode b_Hb_agrees 59 = .ok (.aload 7, 2) := by decide +kernel
theorem d_Hb_agrees_61 : decode b_Hb_agrees 61 = .ok (.invokevirtual 229, 3) := by decide +kernel
theorem d_Hb_agrees_64 : decode b_Hb_agrees 64 = .ok (.ladd, 1) := by decide +kernel
theorem d_Hb_agrees_65 : decode b_Hb_agrees 65 = .ok (.lstore 4, 2) := by decide +kernel
theorem d_Hb_agrees_67 : decode b_Hb_agrees 67 = .ok (.iinc 6 1, 3) := by decide +kernel
theorem d_Hb_agrees_70 : decode b_Hb_agrees 70 = .ok (.goto (-62), 3) := by decide +kernel
theorem d_Hb_agrees_73 : decode b_Hb_agrees 73 = .ok (.lload_n 2, 1) := by decide +kernel
theorem d_Hb_agrees_74 : decode b_Hb_agrees 74 = .ok (.aload_n 1, 1) := by decide +kernel
theorem d_Hb_agrees_75 : decode b_Hb_agrees 75 = .ok (.getfield 232, 3) := by decide +kernel
theorem d_Hb_agrees_78 : decode b_Hb_agrees 78 = .ok (.lcmp, 1) := by decide +kernel
theorem d_Hb_agrees_79 : decode b_Hb_agrees 79 = .ok (.ifCond .ne 17, 3) := by decide +kernel
theorem d_Hb_agrees_82 : decode b_Hb_agrees 82 = .ok (.lload 4, 2) := by decide +kernel
theorem d_Hb_agrees_84 : decode b_Hb_agrees 84 = .ok (.aload_n 1, 1) := by decide +kernel
theorem d_Hb_agrees_85 : decode b_Hb_agrees 85 = .ok (.getfield 233, 3) := by decide +kernel
theorem d_Hb_agrees_88 : decode b_Hb_agrees 88 = .ok (.lcmp, 1) := by decide +kernel
theorem d_Hb_agrees_89 : decode b_Hb_agrees 89 = .ok (.ifCond .ne 7, 3) := by decide +kernel
theorem d_Hb_agrees_92 : decode b_Hb_agrees 92 = .ok (.iconst 1, 1) := by decide +kernel
theorem d_Hb_agrees_93 : decode b_Hb_agrees 93 = .ok (.goto 4, 3) := by decide +kernel
theorem d_Hb_agrees_96 : decode b_Hb_agrees 96 = .ok (.iconst 0, 1) := by decide +kernel
theorem d_Hb_agrees_97 : decode b_Hb_agrees 97 = .ok (.ireturn, 1) := by decide +kernel
theorem d_Hb_account_0 : decode b_Hb_account 0 = .ok (.lload_n 1, 1) := by decide +kernel
theorem d_Hb_account_1 : decode b_Hb_account 1 = .ok (.ldc2_w 42, 3) := by decide +kernel
theorem d_Hb_account_4 : decode b_Hb_account 4 = .ok (.lcmp, 1) := by decide +kernel
theorem d_Hb_account_5 : decode b_Hb_account 5 = .ok (.ifCond .lt 11, 3) := by decide +kernel
theorem d_Hb_account_8 : decode b_Hb_account 8 = .ok (.lload_n 1, 1) := by decide +kernel
theorem d_Hb_account_9 : decode b_Hb_account 9 = .ok (.ldc2_w 44, 3) := by decide +kernel
theorem d_Hb_account_12 : decode b_Hb_account 12 = .ok (.lcmp, 1) := by decide +kernel
theorem d_Hb_account_13 : decode b_Hb_account 13 = .ok (.ifCond .le 13, 3) := by decide +kernel
theorem d_Hb_account_16 : decode b_Hb_account 16 = .ok (.new 46, 3) := by decide +kernel
theorem d_Hb_account_19 : decode b_Hb_account 19 = .ok (.dup, 1) := by decide +kernel
theorem d_Hb_account_20 : decode b_Hb_account 20 = .ok (.ldc 48, 2) := by decide +kernel
theorem d_Hb_account_22 : decode b_Hb_account 22 = .ok (.invokespecial 50, 3) := by decide +kernel
theorem d_Hb_account_25 : decode b_Hb_account 25 = .ok (.athrow, 1) := by decide +kernel
theorem d_Hb_account_26 : decode b_Hb_account 26 = .ok (.lload_n 3, 1) := by decide +kernel
theorem d_Hb_account_27 : decode b_Hb_account 27 = .ok (.ldc2_w 42, 3) := by decide +kernel
theorem d_Hb_account_30 : decode b_Hb_account 30 = .ok (.lcmp, 1) := by decide +kernel
theorem d_Hb_account_31 : decode b_Hb_account 31 = .ok (.ifCond .lt 9, 3) := by decide +kernel
theorem d_Hb_account_34 : decode b_Hb_account 34 = .ok (.lload_n 3, 1) := by decide +kernel
theorem d_Hb_account_35 : decode b_Hb_account 35 = .ok (.lconst 0, 1) := by decide +kernel
theorem d_Hb_account_36 : decode b_Hb_account 36 = .ok (.lcmp, 1) := by decide +kernel
theorem d_Hb_account_37 : decode b_Hb_account 37 = .ok (.ifCond .le 13, 3) := by decide +kernel
theorem d_Hb_account_40 : decode b_Hb_account 40 = .ok (.new 46, 3) := by decide +kernel
theorem d_Hb_account_43 : decode b_Hb_account 43 = .ok (.dup, 1) := by decide +kernel
theorem d_Hb_account_44 : decode b_Hb_account 44 = .ok (.ldc 53, 2) := by decide +kernel
theorem d_Hb_account_46 : decode b_Hb_account 46 = .ok (.invokespecial 50, 3) := by decide +kernel
theorem d_Hb_account_49 : decode b_Hb_account 49 = .ok (.athrow, 1) := by decide +kernel
theorem d_Hb_account_50 : decode b_Hb_account 50 = .ok (.aload_n 0, 1) := by decide +kernel
theorem d_Hb_account_51 : decode b_Hb_account 51 = .ok (.getfield 10, 3) := by decide +kernel
theorem d_Hb_account_54 : decode b_Hb_account 54 = .ok (.invokevirtual 55, 3) := by decide +kernel
theorem d_Hb_account_57 : decode b_Hb_account 57 = .ok (.istore 5, 2) := by decide +kernel
theorem d_Hb_account_59 : decode b_Hb_account 59 = .ok (.iload 5, 2) := by decide +kernel
theorem d_Hb_account_61 : decode b_Hb_account 61 = .ok (.bipush 16, 2) := by decide +kernel
theorem d_Hb_account_63 : decode b_Hb_account 63 = .ok (.if_icmp .lt 13, 3) := by decide +kernel
theorem d_Hb_account_66 : decode b_Hb_account 66 = .ok (.new 59, 3) := by decide +kernel
theorem d_Hb_account_69 : decode b_Hb_account 69 = .ok (.dup, 1) := by decide +kernel
theorem d_Hb_account_70 : decode b_Hb_account 70 = .ok (.ldc 61, 2) := by decide +kernel
theorem d_Hb_account_72 : decode b_Hb_account 72 = .ok (.invokespecial 63, 3) := by decide +kernel
theorem d_Hb_account_75 : decode b_Hb_account 75 = .ok (.athrow, 1) := by decide +kernel
theorem d_Hb_account_76 : decode b_Hb_account 76 = .ok (.aload_n 0, 1) := by decide +kernel
theorem d_Hb_account_77 : decode b_Hb_account 77 = .ok (.getfield 10, 3) := by decide +kernel
theorem d_Hb_account_80 : decode b_Hb_account 80 = .ok (.new 19, 3) := by decide +kernel
theorem d_Hb_account_83 : decode b_Hb_account 83 = .ok (.dup, 1) := by decide +kernel
theorem d_Hb_account_84 : decode b_Hb_account 84 = .ok (.iload 5, 2) := by decide +kernel
theorem d_Hb_account_86 : decode b_Hb_account 86 = .ok (.lload_n 1, 1) := by decide +kernel
theorem d_Hb_account_87 : decode b_Hb_account 87 = .ok (.lload_n 3, 1) := by decide +kernel
theorem d_Hb_account_88 : decode b_Hb_account 88 = .ok (.invokespecial 21, 3) := by decide +kernel
theorem d_Hb_account_91 : decode b_Hb_account 91 = .ok (.invokevirtual 64, 3) := by decide +kernel
theorem d_Hb_account_94 : decode b_Hb_account 94 = .ok (.pop, 1) := by decide +kernel
theorem d_Hb_account_95 : decode b_Hb_account 95 = .ok (.iload 5, 2) := by decide +kernel
theorem d_Hb_account_97 : decode b_Hb_account 97 = .ok (.ireturn, 1) := by decide +kernel
theorem d_Hb_ask_0 : decode b_Hb_ask 0 = .ok (.iload_n 1, 1) := by decide +kernel
theorem d_Hb_ask_1 : decode b_Hb_ask 1 = .ok (.invokestatic 68, 3) := by decide +kernel
theorem d_Hb_ask_4 : decode b_Hb_ask 4 = .ok (.aload_n 0, 1) := by decide +kernel
theorem d_Hb_ask_5 : decode b_Hb_ask 5 = .ok (.iload_n 2, 1) := by decide +kernel
theorem d_Hb_ask_6 : decode b_Hb_ask 6 = .ok (.invokevirtual 72, 3) := by decide +kernel
theorem d_Hb_ask_9 : decode b_Hb_ask 9 = .ok (.lload_n 3, 1) := by decide +kernel
theorem d_Hb_ask_10 : decode b_Hb_ask 10 = .ok (.invokestatic 75, 3) := by decide +kernel
theorem d_Hb_ask_13 : decode b_Hb_ask 13 = .ok (.aload_n 0, 1) := by decide +kernel
theorem d_Hb_ask_14 : decode b_Hb_ask 14 = .ok (.iload_n 1, 1) := by decide +kernel
theorem d_Hb_ask_15 : decode b_Hb_ask 15 = .ok (.invokevirtual 79, 3) := by decide +kernel
theorem d_Hb_ask_18 : decode b_Hb_ask 18 = .ok (.ifnull 7, 3) := by decide +kernel
theorem d_Hb_ask_21 : decode b_Hb_ask 21 = .ok (.ldc2_w 83, 3) := by decide +kernel
theorem d_Hb_ask_24 : decode b_Hb_ask 24 = .ok (.lreturn, 1) := by decide +kernel
theorem d_Hb_ask_25 : decode b_Hb_ask 25 = .ok (.aload_n 0, 1) := by decide +kernel
theorem d_Hb_ask_26 : decode b_Hb_ask 26 = .ok (.getfield 16, 3) := by decide +kernel
theorem d_Hb_ask_29 : decode b_Hb_ask 29 = .ok (.invokevirtual 55, 3) := by decide +kernel
theorem d_Hb_ask_32 : decode b_Hb_ask 32 = .ok (.bipush 60, 2) := by decide +kernel
theorem d_Hb_ask_34 : decode b_Hb_ask 34 = .ok (.if_icmp .lt 7, 3) := by decide +kernel
theorem d_Hb_ask_37 : decode b_Hb_ask 37 = .ok (.ldc2_w 85, 3) := by decide +kernel
theorem d_Hb_ask_40 : decode b_Hb_ask 40 = .ok (.lreturn, 1) := by decide +kernel
theorem d_Hb_ask_41 : decode b_Hb_ask 41 = .ok (.aload_n 0, 1) := by decide +kernel
theorem d_Hb_ask_42 : decode b_Hb_ask 42 = .ok (.getfield 10, 3) := by decide +kernel
theorem d_Hb_ask_45 : decode b_Hb_ask 45 = .ok (.iload_n 2, 1) := by decide +kernel
theorem d_Hb_ask_46 : decode b_Hb_ask 46 = .ok (.invokevirtual 87, 3) := by decide +kernel
theorem d_Hb_ask_49 : decode b_Hb_ask 49 = .ok (.checkcast 19, 3) := by decide +kernel
theorem d_Hb_ask_52 : decode b_Hb_ask 52 = .ok (.astore 6, 2) := by decide +kernel
theorem d_Hb_ask_54 : decode b_Hb_ask 54 = .ok (.aload 6, 2) := by decide +kernel
theorem d_Hb_ask_56 : decode b_Hb_ask 56 = .ok (.invokevirtual 91, 3) := by decide +kernel
theorem d_Hb_ask_59 : decode b_Hb_ask 59 = .ok (.lstore 7, 2) := by decide +kernel
theorem d_Hb_ask_61 : decode b_Hb_ask 61 = .ok (.lload_n 3, 1) := by decide +kernel
theorem d_Hb_ask_62 : decode b_Hb_ask 62 = .ok (.lload 7, 2) := by decide +kernel
theorem d_Hb_ask_64 : decode b_Hb_ask 64 = .ok (.lcmp, 1) := by decide +kernel
theorem d_Hb_ask_65 : decode b_Hb_ask 65 = .ok (.ifCond .le 19, 3) := by decide +kernel
theorem d_Hb_ask_68 : decode b_Hb_ask 68 = .ok (.iload 5, 2) := by decide +kernel
theorem d_Hb_ask_70 : decode b_Hb_ask 70 = .ok (.ifCond .eq 10, 3) := by decide +kernel
theorem d_Hb_ask_73 : decode b_Hb_ask 73 = .ok (.lload 7, 2) := by decide +kernel
theorem d_Hb_ask_75 : decode b_Hb_ask 75 = .ok (.lconst 0, 1) := by decide +kernel
theorem d_Hb_ask_76 : decode b_Hb_ask 76 = .ok (.lcmp, 1) := by decide +kernel
theorem d_Hb_ask_77 : decode b_Hb_ask 77 = .ok (.ifCond .gt 7, 3) := by decide +kernel
theorem d_Hb_ask_80 : decode b_Hb_ask 80 = .ok (.ldc2_w 95, 3) := by decide +kernel
theorem d_Hb_ask_83 : decode b_Hb_ask 83 = .ok (.lreturn, 1) := by decide +kernel
theorem d_Hb_ask_84 : decode b_Hb_ask 84 = .ok (.new 97, 3) := by decide +kernel
theorem d_Hb_ask_87 : decode b_Hb_ask 87 = .ok (.dup, 1) := by decide +kernel
theorem d_Hb_ask_88 : decode b_Hb_ask 88 = .ok (.iload_n 1, 1) := by decide +kernel
theorem d_Hb_ask_89 : decode b_Hb_ask 89 = .ok (.aload 6, 2) := by decide +kernel
theorem d_Hb_ask_91 : decode b_Hb_ask 91 = .ok (.invokespecial 99, 3) := by decide +kernel
theorem d_Hb_ask_94 : decode b_Hb_ask 94 = .ok (.astore 9, 2) := by decide +kernel
theorem d_Hb_ask_96 : decode b_Hb_ask 96 = .ok (.aload 9, 2) := by decide +kernel
theorem d_Hb_ask_98 : decode b_Hb_ask 98 = .ok (.lload_n 3, 1) := by decide +kernel
theorem d_Hb_ask_99 : decode b_Hb_ask 99 = .ok (.lload 7, 2) := by decide +kernel
theorem d_Hb_ask_101 : decode b_Hb_ask 101 = .ok (.invokestatic 102, 3) := by decide +kernel
theorem d_Hb_ask_104 : decode b_Hb_ask 104 = .ok (.aload_n 0, 1) := by decide +kernel
theorem d_Hb_ask_105 : decode b_Hb_ask 105 = .ok (.getfield 28, 3) := by decide +kernel
theorem d_Hb_ask_108 : decode b_Hb_ask 108 = .ok (.aload_n 0, 1) := by decide +kernel
theorem d_Hb_ask_109 : decode b_Hb_ask 109 = .ok (.getfield 36, 3) := by decide +kernel
theorem d_Hb_ask_112 : decode b_Hb_ask 112 = .ok (.iadd, 1) := by decide +kernel
theorem d_Hb_ask_113 : decode b_Hb_ask 113 = .ok (.invokevirtual 108, 3) := by decide +kernel
theorem d_Hb_ask_116 : decode b_Hb_ask 116 = .ok (.aload_n 0, 1) := by decide +kernel
theorem d_Hb_ask_117 : decode b_Hb_ask 117 = .ok (.aload 9, 2) := by decide +kernel
theorem d_Hb_ask_119 : decode b_Hb_ask 119 = .ok (.invokevirtual 112, 3) := by decide +kernel
theorem d_Hb_ask_122 : decode b_Hb_ask 122 = .ok (.aload 9, 2) := by decide +kernel
theorem d_Hb_ask_124 : decode b_Hb_ask 124 = .ok (.getfield 116, 3) := by decide +kernel
theorem d_Hb_ask_127 : decode b_Hb_ask 127 = .ok (.lreturn, 1) := by decide +kernel
theorem d_Hb_checkKey_0 : decode b_Hb_checkKey 0 = .ok (.iload_n 0, 1) := by decide +kernel
theorem d_Hb_checkKey_1 : decode b_Hb_checkKey 1 = .ok (.ifCond .lt 9, 3) := by decide +kernel
theorem d_Hb_checkKey_4 : decode b_Hb_checkKey 4 = .ok (.iload_n 0, 1) := by decide +kernel
theorem d_Hb_checkKey_5 : decode b_Hb_checkKey 5 = .ok (.ldc 145, 2) := by decide +kernel
theorem d_Hb_checkKey_7 : decode b_Hb_checkKey 7 = .ok (.if_icmp .le 13, 3) := by decide +kernel
theorem d_Hb_checkKey_10 : decode b_Hb_checkKey 10 = .ok (.new 46, 3) := by decide +kernel
theorem d_Hb_checkKey_13 : decode b_Hb_checkKey 13 = .ok (.dup, 1) := by decide +kernel
theorem d_Hb_checkKey_14 : decode b_Hb_checkKey 14 = .ok (.ldc 206, 2) := by decide +kernel
theorem d_Hb_checkKey_16 : decode b_Hb_checkKey 16 = .ok (.invokespecial 50, 3) := by decide +kernel
theorem d_Hb_checkKey_19 : decode b_Hb_checkKey 19 = .ok (.athrow, 1) := by decide +kernel
theorem d_Hb_checkKey_20 : decode b_Hb_checkKey 20 = .ok (.return_, 1) := by decide +kernel
theorem d_Hb_checkAccount_0 : decode b_Hb_checkAccount 0 = .ok (.iload_n 1, 1) := by decide +kernel
theorem d_Hb_checkAccount_1 : decode b_Hb_checkAccount 1 = .ok (.ifCond .lt 14, 3) := by decide +kernel
theorem d_Hb_checkAccount_4 : decode b_Hb_checkAccount 4 = .ok (.iload_n 1, 1) := by decide +kernel
theorem d_Hb_checkAccount_5 : decode b_Hb_checkAccount 5 = .ok (.aload_n 0, 1) := by decide +kernel
theorem d_Hb_checkAccount_6 : decode b_Hb_checkAccount 6 = .ok (.getfield 10, 3) := by decide +kernel
theorem d_Hb_checkAccount_9 : decode b_Hb_checkAccount 9 = .ok (.invokevirtual 55, 3) := by decide +kernel
theorem d_Hb_checkAccount_12 : decode b_Hb_checkAccount 12 = .ok (.if_icmp .lt 13, 3) := by decide +kernel
theorem d_Hb_checkAccount_15 : decode b_Hb_checkAccount 15 = .ok (.new 46, 3) := by decide +kernel
theorem d_Hb_checkAccount_18 : decode b_Hb_checkAccount 18 = .ok (.dup, 1) := by decide +kernel
theorem d_Hb_checkAccount_19 : decode b_Hb_checkAccount 19 = .ok (.ldc 212, 2) := by decide +kernel
theorem d_Hb_checkAccount_21 : decode b_Hb_checkAccount 21 = .ok (.invokespecial 50, 3) := by decide +kernel
theorem d_Hb_checkAccount_24 : decode b_Hb_checkAccount 24 = .ok (.athrow, 1) := by decide +kernel
theorem d_Hb_checkAccount_25 : decode b_Hb_checkAccount 25 = .ok (.return_, 1) := by decide +kernel
theorem d_Hb_checkAmount_0 : decode b_Hb_checkAmount 0 = .ok (.lload_n 0, 1) := by decide +kernel
theorem d_Hb_checkAmount_1 : decode b_Hb_checkAmount 1 = .ok (.lconst 1, 1) := by decide +kernel
theorem d_Hb_checkAmount_2 : decode b_Hb_checkAmount 2 = .ok (.lcmp, 1) := by decide +kernel
theorem d_Hb_checkAmount_3 : decode b_Hb_checkAmount 3 = .ok (.ifCond .lt 11, 3) := by decide +kernel
theorem d_Hb_checkAmount_6 : decode b_Hb_checkAmount 6 = .ok (.lload_n 0, 1) := by decide +kernel
theorem d_Hb_checkAmount_7 : decode b_Hb_checkAmount 7 = .ok (.ldc2_w 44, 3) := by decide +kernel
theorem d_Hb_checkAmount_10 : decode b_Hb_checkAmount 10 = .ok (.lcmp, 1) := by decide +kernel
theorem d_Hb_checkAmount_11 : decode b_Hb_checkAmount 11 = .ok (.ifCond .le 13, 3) := by decide +kernel
theorem d_Hb_checkAmount_14 : decode b_Hb_checkAmount 14 = .ok (.new 46, 3) := by decide +kernel
theorem d_Hb_checkAmount_17 : decode b_Hb_checkAmount 17 = .ok (.dup, 1) := by decide +kernel
theorem d_Hb_checkAmount_18 : decode b_Hb_checkAmount 18 = .ok (.ldc 208, 2) := by decide +kernel
theorem d_Hb_checkAmount_20 : decode b_Hb_checkAmount 20 = .ok (.invokespecial 50, 3) := by decide +kernel
theorem d_Hb_checkAmount_23 : decode b_Hb_checkAmount 23 = .ok (.athrow, 1) := by decide +kernel
theorem d_Hb_checkAmount_24 : decode b_Hb_checkAmount 24 = .ok (.return_, 1) := by decide +kernel
theorem d_Hb_find_0 : decode b_Hb_find 0 = .ok (.aload_n 0, 1) := by decide +kernel
theorem d_Hb_find_1 : decode b_Hb_find 1 = .ok (.iload_n 1, 1) := by decide +kernel
theorem d_Hb_find_2 : decode b_Hb_find 2 = .ok (.invokevirtual 214, 3) := by decide +kernel
theorem d_Hb_find_5 : decode b_Hb_find 5 = .ok (.istore_n 2, 1) := by decide +kernel
theorem d_Hb_find_6 : decode b_Hb_find 6 = .ok (.iload_n 2, 1) := by decide +kernel
theorem d_Hb_find_7 : decode b_Hb_find 7 = .ok (.aload_n 0, 1) := by decide +kernel
theorem d_Hb_find_8 : decode b_Hb_find 8 = .ok (.getfield 16, 3) := by decide +kernel
theorem d_Hb_find_11 : decode b_Hb_find 11 = .ok (.invokevirtual 55, 3) := by decide +kernel
theorem d_Hb_find_14 : decode b_Hb_find 14 = .ok (.if_icmp .lt 5, 3) := by decide +kernel
theorem d_Hb_find_17 : decode b_Hb_find 17 = .ok (.aconst_null, 1) := by decide +kernel
theorem d_Hb_find_18 : decode b_Hb_find 18 = .ok (.areturn, 1) := by decide +kernel
theorem d_Hb_find_19 : decode b_Hb_find 19 = .ok (.aload_n 0, 1) := by decide +kernel
theorem d_Hb_find_20 : decode b_Hb_find 20 = .ok (.getfield 16, 3) := by decide +kernel
theorem d_Hb_find_23 : decode b_Hb_find 23 = .ok (.iload_n 2, 1) := by decide +kernel
theorem d_Hb_find_24 : decode b_Hb_find 24 = .ok (.invokevirtual 87, 3) := by decide +kernel
theorem d_Hb_find_27 : decode b_Hb_find 27 = .ok (.checkcast 97, 3) := by decide +kernel
theorem d_Hb_find_30 : decode b_Hb_find 30 = .ok (.astore_n 3, 1) := by decide +kernel
theorem d_Hb_find_31 : decode b_Hb_find 31 = .ok (.aload_n 3, 1) := by decide +kernel
theorem d_Hb_find_32 : decode b_Hb_find 32 = .ok (.getfield 189, 3) := by decide +kernel
theorem d_Hb_find_35 : decode b_Hb_find 35 = .ok (.iload_n 1, 1) := by decide +kernel
theorem d_Hb_find_36 : decode b_Hb_find 36 = .ok (.if_icmp .ne 7, 3) := by decide +kernel
theorem d_Hb_find_39 : decode b_Hb_find 39 = .ok (.aload_n 3, 1) := by decide +kernel
theorem d_Hb_find_40 : decode b_Hb_find 40 = .ok (.goto 4, 3) := by decide +kernel
theorem d_Hb_find_43 : decode b_Hb_find 43 = .ok (.aconst_null, 1) := by decide +kernel
theorem d_Hb_find_44 : decode b_Hb_find 44 = .ok (.areturn, 1) := by decide +kernel
theorem d_Hb_placeOf_0 : decode b_Hb_placeOf 0 = .ok (.iconst 0, 1) := by decide +kernel
theorem d_Hb_placeOf_1 : decode b_Hb_placeOf 1 = .ok (.istore_n 2, 1) := by decide +kernel
theorem d_Hb_placeOf_2 : decode b_Hb_placeOf 2 = .ok (.iload_n 2, 1) := by decide +kernel
theorem d_Hb_placeOf_3 : decode b_Hb_placeOf 3 = .ok (.aload_n 0, 1) := by decide +kernel
theorem d_Hb_placeOf_4 : decode b_Hb_placeOf 4 = .ok (.getfield 16, 3) := by decide +kernel
theorem d_Hb_placeOf_7 : decode b_Hb_placeOf 7 = .ok (.invokevirtual 55, 3) := by decide +kernel
theorem d_Hb_placeOf_10 : decode b_Hb_placeOf 10 = .ok (.if_icmp .ge 27, 3) := by decide +kernel
theorem d_Hb_placeOf_13 : decode b_Hb_placeOf 13 = .ok (.aload_n 0, 1) := by decide +kernel
theorem d_Hb_placeOf_14 : decode b_Hb_placeOf 14 = .ok (.getfield 16, 3) := by decide +kernel
theorem d_Hb_placeOf_17 : decode b_Hb_placeOf 17 = .ok (.iload_n 2, 1) := by decide +kernel
theorem d_Hb_placeOf_18 : decode b_Hb_placeOf 18 = .ok (.invokevirtual 87, 3) := by decide +kernel
theorem d_Hb_placeOf_21 : decode b_Hb_placeOf 21 = .ok (.checkcast 97, 3) := by decide +kernel
theorem d_Hb_placeOf_24 : decode b_Hb_placeOf 24 = .ok (.getfield 189, 3) := by decide +kernel
theorem d_Hb_placeOf_27 : decode b_Hb_placeOf 27 = .ok (.iload_n 1, 1) := by decide +kernel
theorem d_Hb_placeOf_28 : decode b_Hb_placeOf 28 = .ok (.if_icmp .ge 9, 3) := by decide +kernel
theorem d_Hb_placeOf_31 : decode b_Hb_placeOf 31 = .ok (.iinc 2 1, 3) := by decide +kernel
theorem d_Hb_placeOf_34 : decode b_Hb_placeOf 34 = .ok (.goto (-32), 3) := by decide +kernel
theorem d_Hb_placeOf_37 : decode b_Hb_placeOf 37 = .ok (.iload_n 2, 1) := by decide +kernel
theorem d_Hb_placeOf_38 : decode b_Hb_placeOf 38 = .ok (.ireturn, 1) := by decide +kernel
theorem d_Hb_enter_0 : decode b_Hb_enter 0 = .ok (.aload_n 0, 1) := by decide +kernel
theorem d_Hb_enter_1 : decode b_Hb_enter 1 = .ok (.getfield 16, 3) := by decide +kernel
theorem d_Hb_enter_4 : decode b_Hb_enter 4 = .ok (.aload_n 0, 1) := by decide +kernel
theorem d_Hb_enter_5 : decode b_Hb_enter 5 = .ok (.aload_n 1, 1) := by decide +kernel
theorem d_Hb_enter_6 : decode b_Hb_enter 6 = .ok (.getfield 189, 3) := by decide +kernel
theorem d_Hb_enter_9 : decode b_Hb_enter 9 = .ok (.invokevirtual 214, 3) := by decide +kernel
theorem d_Hb_enter_12 : decode b_Hb_enter 12 = .ok (.aload_n 1, 1) := by decide +kernel
theorem d_Hb_enter_13 : decode b_Hb_enter 13 = .ok (.invokevirtual 217, 3) := by decide +kernel
theorem d_Hb_enter_16 : decode b_Hb_enter 16 = .ok (.return_, 1) := by decide +kernel
theorem d_Hb_clear_0 : decode b_Hb_clear 0 = .ok (.iload_n 1, 1) := by decide +kernel
theorem d_Hb_clear_1 : decode b_Hb_clear 1 = .ok (.invokestatic 68, 3) := by decide +kernel
theorem d_Hb_clear_4 : decode b_Hb_clear 4 = .ok (.lload_n 2, 1) := by decide +kernel
theorem d_Hb_clear_5 : decode b_Hb_clear 5 = .ok (.invokestatic 75, 3) := by decide +kernel
theorem d_Hb_clear_8 : decode b_Hb_clear 8 = .ok (.aload_n 0, 1) := by decide +kernel
theorem d_Hb_clear_9 : decode b_Hb_clear 9 = .ok (.iload_n 1, 1) := by decide +kernel
theorem d_Hb_clear_10 : decode b_Hb_clear 10 = .ok (.invokevirtual 79, 3) := by decide +kernel
theorem d_Hb_clear_13 : decode b_Hb_clear 13 = .ok (.astore 5, 2) := by decide +kernel
theorem d_Hb_clear_15 : decode b_Hb_clear 15 = .ok (.aload 5, 2) := by decide +kernel
theorem d_Hb_clear_17 : decode b_Hb_clear 17 = .ok (.ifnonnull 7, 3) := by decide +kernel
theorem d_Hb_clear_20 : decode b_Hb_clear 20 = .ok (.ldc2_w 120, 3) := by decide +kernel
theorem d_Hb_clear_23 : decode b_Hb_clear 23 = .ok (.lreturn, 1) := by decide +kernel
theorem d_Hb_clear_24 : decode b_Hb_clear 24 = .ok (.aload 5, 2) := by decide +kernel
theorem d_Hb_clear_26 : decode b_Hb_clear 26 = .ok (.getfield 122, 3) := by decide +kernel
theorem d_Hb_clear_29 : decode b_Hb_clear 29 = .ok (.iconst 1, 1) := by decide +kernel
theorem d_Hb_clear_30 : decode b_Hb_clear 30 = .ok (.if_icmp .eq 7, 3) := by decide +kernel
theorem d_Hb_clear_33 : decode b_Hb_clear 33 = .ok (.ldc2_w 125, 3) := by decide +kernel
theorem d_Hb_clear_36 : decode b_Hb_clear 36 = .ok (.lreturn, 1) := by decide +kernel
theorem d_Hb_clear_37 : decode b_Hb_clear 37 = .ok (.lload_n 2, 1) := by decide +kernel
theorem d_Hb_clear_38 : decode b_Hb_clear 38 = .ok (.aload 5, 2) := by decide +kernel
theorem d_Hb_clear_40 : decode b_Hb_clear 40 = .ok (.getfield 116, 3) := by decide +kernel
theorem d_Hb_clear_43 : decode b_Hb_clear 43 = .ok (.lcmp, 1) := by decide +kernel
theorem d_Hb_clear_44 : decode b_Hb_clear 44 = .ok (.ifCond .le 7, 3) := by decide +kernel
theorem d_Hb_clear_47 : decode b_Hb_clear 47 = .ok (.ldc2_w 127, 3) := by decide +kernel
theorem d_Hb_clear_50 : decode b_Hb_clear 50 = .ok (.lreturn, 1) := by decide +kernel
theorem d_Hb_clear_51 : decode b_Hb_clear 51 = .ok (.aload 5, 2) := by decide +kernel
theorem d_Hb_clear_53 : decode b_Hb_clear 53 = .ok (.lload_n 2, 1) := by decide +kernel
theorem d_Hb_clear_54 : decode b_Hb_clear 54 = .ok (.invokevirtual 129, 3) := by decide +kernel
theorem d_Hb_clear_57 : decode b_Hb_clear 57 = .ok (.iload 4, 2) := by decide +kernel
theorem d_Hb_clear_59 : decode b_Hb_clear 59 = .ok (.ifCond .eq 13, 3) := by decide +kernel
theorem d_Hb_clear_62 : decode b_Hb_clear 62 = .ok (.aload 5, 2) := by decide +kernel
theorem d_Hb_clear_64 : decode b_Hb_clear 64 = .ok (.getfield 116, 3) := by decide +kernel
theorem d_Hb_clear_67 : decode b_Hb_clear 67 = .ok (.lconst 0, 1) := by decide +kernel
theorem d_Hb_clear_68 : decode b_Hb_clear 68 = .ok (.lcmp, 1) := by decide +kernel
theorem d_Hb_clear_69 : decode b_Hb_clear 69 = .ok (.ifCond .ne 12, 3) := by decide +kernel
theorem d_Hb_clear_72 : decode b_Hb_clear 72 = .ok (.aload 5, 2) := by decide +kernel
theorem d_Hb_clear_74 : decode b_Hb_clear 74 = .ok (.aload_n 0, 1) := by decide +kernel
theorem d_Hb_clear_75 : decode b_Hb_clear 75 = .ok (.getfield 28, 3) := by decide +kernel
theorem d_Hb_clear_78 : decode b_Hb_clear 78 = .ok (.invokevirtual 132, 3) := by decide +kernel
theorem d_Hb_clear_81 : decode b_Hb_clear 81 = .ok (.aload 5, 2) := by decide +kernel
theorem d_Hb_clear_83 : decode b_Hb_clear 83 = .ok (.getfield 116, 3) := by decide +kernel
theorem d_Hb_clear_86 : decode b_Hb_clear 86 = .ok (.lreturn, 1) := by decide +kernel
theorem d_Hb_undo_0 : decode b_Hb_undo 0 = .ok (.iload_n 1, 1) := by decide +kernel
theorem d_Hb_undo_1 : decode b_Hb_undo 1 = .ok (.invokestatic 68, 3) := by decide +kernel
theorem d_Hb_undo_4 : decode b_Hb_undo 4 = .ok (.lload_n 2, 1) := by decide +kernel
theorem d_Hb_undo_5 : decode b_Hb_undo 5 = .ok (.lconst 0, 1) := by decide +kernel
theorem d_Hb_undo_6 : decode b_Hb_undo 6 = .ok (.lcmp, 1) := by decide +kernel
theorem d_Hb_undo_7 : decode b_Hb_undo 7 = .ok (.ifCond .ge 13, 3) := by decide +kernel
theorem d_Hb_undo_10 : decode b_Hb_undo 10 = .ok (.new 46, 3) := by decide +kernel
theorem d_Hb_undo_13 : decode b_Hb_undo 13 = .ok (.dup, 1) := by decide +kernel
theorem d_Hb_undo_14 : decode b_Hb_undo 14 = .ok (.ldc 135, 2) := by decide +kernel
theorem d_Hb_undo_16 : decode b_Hb_undo 16 = .ok (.invokespecial 50, 3) := by decide +kernel
theorem d_Hb_undo_19 : decode b_Hb_undo 19 = .ok (.athrow, 1) := by decide +kernel
theorem d_Hb_undo_20 : decode b_Hb_undo 20 = .ok (.aload_n 0, 1) := by decide +kernel
theorem d_Hb_undo_21 : decode b_Hb_undo 21 = .ok (.iload_n 1, 1) := by decide +kernel
theorem d_Hb_undo_22 : decode b_Hb_undo 22 = .ok (.invokevirtual 79, 3) := by decide +kernel
theorem d_Hb_undo_25 : decode b_Hb_undo 25 = .ok (.astore 5, 2) := by decide +kernel
theorem d_Hb_undo_27 : decode b_Hb_undo 27 = .ok (.aload 5, 2) := by decide +kernel
theorem d_Hb_undo_29 : decode b_Hb_undo 29 = .ok (.ifnonnull 40, 3) := by decide +kernel
theorem d_Hb_undo_32 : decode b_Hb_undo 32 = .ok (.iload 4, 2) := by decide +kernel
theorem d_Hb_undo_34 : decode b_Hb_undo 34 = .ok (.ifCond .eq 31, 3) := by decide +kernel
theorem d_Hb_undo_37 : decode b_Hb_undo 37 = .ok (.aload_n 0, 1) := by decide +kernel
theorem d_Hb_undo_38 : decode b_Hb_undo 38 = .ok (.getfield 16, 3) := by decide +kernel
theorem d_Hb_undo_41 : decode b_Hb_undo 41 = .ok (.invokevirtual 55, 3) := by decide +kernel
theorem d_Hb_undo_44 : decode b_Hb_undo 44 = .ok (.bipush 60, 2) := by decide +kernel
theorem d_Hb_undo_46 : decode b_Hb_undo 46 = .ok (.if_icmp .ge 19, 3) := by decide +kernel
theorem d_Hb_undo_49 : decode b_Hb_undo 49 = .ok (.aload_n 0, 1) := by decide +kernel
theorem d_Hb_undo_50 : decode b_Hb_undo 50 = .ok (.new 97, 3) := by decide +kernel
theorem d_Hb_undo_53 : decode b_Hb_undo 53 = .ok (.dup, 1) := by decide +kernel
theorem d_Hb_undo_54 : decode b_Hb_undo 54 = .ok (.iload_n 1, 1) := by decide +kernel
theorem d_Hb_undo_55 : decode b_Hb_undo 55 = .ok (.aload_n 0, 1) := by decide +kernel
theorem d_Hb_undo_56 : decode b_Hb_undo 56 = .ok (.getfield 24, 3) := by decide +kernel
theorem d_Hb_undo_59 : decode b_Hb_undo 59 = .ok (.invokespecial 99, 3) := by decide +kernel
theorem d_Hb_undo_62 : decode b_Hb_undo 62 = .ok (.invokevirtual 112, 3) := by decide +kernel
theorem d_Hb_undo_65 : decode b_Hb_undo 65 = .ok (.ldc2_w 120, 3) := by decide +kernel
theorem d_Hb_undo_68 : decode b_Hb_undo 68 = .ok (.lreturn, 1) := by decide +kernel
theorem d_Hb_undo_69 : decode b_Hb_undo 69 = .ok (.aload 5, 2) := by decide +kernel
theorem d_Hb_undo_71 : decode b_Hb_undo 71 = .ok (.getfield 122, 3) := by decide +kernel
theorem d_Hb_undo_74 : decode b_Hb_undo 74 = .ok (.iconst 3, 1) := by decide +kernel
theorem d_Hb_undo_75 : decode b_Hb_undo 75 = .ok (.if_icmp .eq 13, 3) := by decide +kernel
theorem d_Hb_undo_78 : decode b_Hb_undo 78 = .ok (.aload 5, 2) := by decide +kernel
theorem d_Hb_undo_80 : decode b_Hb_undo 80 = .ok (.getfield 137, 3) := by decide +kernel
theorem d_Hb_undo_83 : decode b_Hb_undo 83 = .ok (.lconst 0, 1) := by decide +kernel
theorem d_Hb_undo_84 : decode b_Hb_undo 84 = .ok (.lcmp, 1) := by decide +kernel
theorem d_Hb_undo_85 : decode b_Hb_undo 85 = .ok (.ifCond .le 7, 3) := by decide +kernel
theorem d_Hb_undo_88 : decode b_Hb_undo 88 = .ok (.ldc2_w 125, 3) := by decide +kernel
theorem d_Hb_undo_91 : decode b_Hb_undo 91 = .ok (.lreturn, 1) := by decide +kernel
theorem d_Hb_undo_92 : decode b_Hb_undo 92 = .ok (.aload 5, 2) := by decide +kernel
theorem d_Hb_undo_94 : decode b_Hb_undo 94 = .ok (.getfield 122, 3) := by decide +kernel
theorem d_Hb_undo_97 : decode b_Hb_undo 97 = .ok (.iconst 1, 1) := by decide +kernel
theorem d_Hb_undo_98 : decode b_Hb_undo 98 = .ok (.if_icmp .ne 37, 3) := by decide +kernel
theorem d_Hb_undo_101 : decode b_Hb_undo 101 = .ok (.lload_n 2, 1) := by decide +kernel
theorem d_Hb_undo_102 : decode b_Hb_undo 102 = .ok (.lconst 0, 1) := by decide +kernel
theorem d_Hb_undo_103 : decode b_Hb_undo 103 = .ok (.lcmp, 1) := by decide +kernel
theorem d_Hb_undo_104 : decode b_Hb_undo 104 = .ok (.ifCond .le 22, 3) := by decide +kernel
theorem d_Hb_undo_107 : decode b_Hb_undo 107 = .ok (.lload_n 2, 1) := by decide +kernel
theorem d_Hb_undo_108 : decode b_Hb_undo 108 = .ok (.aload 5, 2) := by decide +kernel
theorem d_Hb_undo_110 : decode b_Hb_undo 110 = .ok (.getfield 116, 3) := by decide +kernel
theorem d_Hb_undo_113 : decode b_Hb_undo 113 = .ok (.lcmp, 1) := by decide +kernel
theorem d_Hb_undo_114 : decode b_Hb_undo 114 = .ok (.ifCond .ge 12, 3) := by decide +kernel
theorem d_Hb_undo_117 : decode b_Hb_undo 117 = .ok (.aload 5, 2) := by decide +kernel
theorem d_Hb_undo_119 : decode b_Hb_undo 119 = .ok (.lload_n 2, 1) := by decide +kernel
theorem d_Hb_undo_120 : decode b_Hb_undo 120 = .ok (.invokevirtual 140, 3) := by decide +kernel
theorem d_Hb_undo_123 : decode b_Hb_undo 123 = .ok (.goto 12, 3) := by decide +kernel
theorem d_Hb_undo_126 : decode b_Hb_undo 126 = .ok (.aload 5, 2) := by decide +kernel
theorem d_Hb_undo_128 : decode b_Hb_undo 128 = .ok (.aload_n 0, 1) := by decide +kernel
theorem d_Hb_undo_129 : decode b_Hb_undo 129 = .ok (.getfield 28, 3) := by decide +kernel
theorem d_Hb_undo_132 : decode b_Hb_undo 132 = .ok (.invokevirtual 132, 3) := by decide +kernel
theorem d_Hb_undo_135 : decode b_Hb_undo 135 = .ok (.aload 5, 2) := by decide +kernel
theorem d_Hb_undo_137 : decode b_Hb_undo 137 = .ok (.getfield 116, 3) := by decide +kernel
theorem d_Hb_undo_140 : decode b_Hb_undo 140 = .ok (.lreturn, 1) := by decide +kernel
theorem d_Hb_ticks_0 : decode b_Hb_ticks 0 = .ok (.iload_n 1, 1) := by decide +kernel
theorem d_Hb_ticks_1 : decode b_Hb_ticks 1 = .ok (.iconst 1, 1) := by decide +kernel
theorem d_Hb_ticks_2 : decode b_Hb_ticks 2 = .ok (.if_icmp .lt 10, 3) := by decide +kernel
theorem d_Hb_ticks_5 : decode b_Hb_ticks 5 = .ok (.iload_n 1, 1) := by decide +kernel
theorem d_Hb_ticks_6 : decode b_Hb_ticks 6 = .ok (.sipush 1000, 3) := by decide +kernel
theorem d_Hb_ticks_9 : decode b_Hb_ticks 9 = .ok (.if_icmp .le 13, 3) := by decide +kernel
theorem d_Hb_ticks_12 : decode b_Hb_ticks 12 = .ok (.new 46, 3) := by decide +kernel
theorem d_Hb_ticks_15 : decode b_Hb_ticks 15 = .ok (.dup, 1) := by decide +kernel
theorem d_Hb_ticks_16 : decode b_Hb_ticks 16 = .ok (.ldc 143, 2) := by decide +kernel
theorem d_Hb_ticks_18 : decode b_Hb_ticks 18 = .ok (.invokespecial 50, 3) := by decide +kernel
theorem d_Hb_ticks_21 : decode b_Hb_ticks 21 = .ok (.athrow, 1) := by decide +kernel
theorem d_Hb_ticks_22 : decode b_Hb_ticks 22 = .ok (.aload_n 0, 1) := by decide +kernel
theorem d_Hb_ticks_23 : decode b_Hb_ticks 23 = .ok (.getfield 28, 3) := by decide +kernel
theorem d_Hb_ticks_26 : decode b_Hb_ticks 26 = .ok (.iload_n 1, 1) := by decide +kernel
theorem d_Hb_ticks_27 : decode b_Hb_ticks 27 = .ok (.iadd, 1) := by decide +kernel
theorem d_Hb_ticks_28 : decode b_Hb_ticks 28 = .ok (.ldc 145, 2) := by decide +kernel
theorem d_Hb_ticks_30 : decode b_Hb_ticks 30 = .ok (.if_icmp .le 13, 3) := by decide +kernel
theorem d_Hb_ticks_33 : decode b_Hb_ticks 33 = .ok (.new 59, 3) := by decide +kernel
theorem d_Hb_ticks_36 : decode b_Hb_ticks 36 = .ok (.dup, 1) := by decide +kernel
theorem d_Hb_ticks_37 : decode b_Hb_ticks 37 = .ok (.ldc 146, 2) := by decide +kernel
theorem d_Hb_ticks_39 : decode b_Hb_ticks 39 = .ok (.invokespecial 63, 3) := by decide +kernel
theorem d_Hb_ticks_42 : decode b_Hb_ticks 42 = .ok (.athrow, 1) := by decide +kernel
theorem d_Hb_ticks_43 : decode b_Hb_ticks 43 = .ok (.aload_n 0, 1) := by decide +kernel
theorem d_Hb_ticks_44 : decode b_Hb_ticks 44 = .ok (.dup, 1) := by decide +kernel
theorem d_Hb_ticks_45 : decode b_Hb_ticks 45 = .ok (.getfield 28, 3) := by decide +kernel
theorem d_Hb_ticks_48 : decode b_Hb_ticks 48 = .ok (.iload_n 1, 1) := by decide +kernel
theorem d_Hb_ticks_49 : decode b_Hb_ticks 49 = .ok (.iadd, 1) := by decide +kernel
theorem d_Hb_ticks_50 : decode b_Hb_ticks 50 = .ok (.putfield 28, 3) := by decide +kernel
theorem d_Hb_ticks_53 : decode b_Hb_ticks 53 = .ok (.iconst 0, 1) := by decide +kernel
theorem d_Hb_ticks_54 : decode b_Hb_ticks 54 = .ok (.istore_n 2, 1) := by decide +kernel
theorem d_Hb_ticks_55 : decode b_Hb_ticks 55 = .ok (.iload_n 2, 1) := by decide +kernel
theorem d_Hb_ticks_56 : decode b_Hb_ticks 56 = .ok (.aload_n 0, 1) := by decide +kernel
theorem d_Hb_ticks_57 : decode b_Hb_ticks 57 = .ok (.getfield 16, 3) := by decide +kernel
theorem d_Hb_ticks_60 : decode b_Hb_ticks 60 = .ok (.invokevirtual 55, 3) := by decide +kernel
theorem d_Hb_ticks_63 : decode b_Hb_ticks 63 = .ok (.if_icmp .ge 27, 3) := by decide +kernel
theorem d_Hb_ticks_66 : decode b_Hb_ticks 66 = .ok (.aload_n 0, 1) := by decide +kernel
theorem d_Hb_ticks_67 : decode b_Hb_ticks 67 = .ok (.getfield 16, 3) := by decide +kernel
theorem d_Hb_ticks_70 : decode b_Hb_ticks 70 = .ok (.iload_n 2, 1) := by decide +kernel
theorem d_Hb_ticks_71 : decode b_Hb_ticks 71 = .ok (.invokevirtual 87, 3) := by decide +kernel
theorem d_Hb_ticks_74 : decode b_Hb_ticks 74 = .ok (.checkcast 97, 3) := by decide +kernel
theorem d_Hb_ticks_77 : decode b_Hb_ticks 77 = .ok (.aload_n 0, 1) := by decide +kernel
theorem d_Hb_ticks_78 : decode b_Hb_ticks 78 = .ok (.getfield 28, 3) := by decide +kernel
theorem d_Hb_ticks_81 : decode b_Hb_ticks 81 = .ok (.invokevirtual 148, 3) := by decide +kernel
theorem d_Hb_ticks_84 : decode b_Hb_ticks 84 = .ok (.iinc 2 1, 3) := by decide +kernel
theorem d_Hb_ticks_87 : decode b_Hb_ticks 87 = .ok (.goto (-32), 3) := by decide +kernel
theorem d_Hb_ticks_90 : decode b_Hb_ticks 90 = .ok (.aload_n 0, 1) := by decide +kernel
theorem d_Hb_ticks_91 : decode b_Hb_ticks 91 = .ok (.getfield 28, 3) := by decide +kernel
theorem d_Hb_ticks_94 : decode b_Hb_ticks 94 = .ok (.ireturn, 1) := by decide +kernel
theorem d_Hb_charge_0 : decode b_Hb_charge 0 = .ok (.iload_n 1, 1) := by decide +kernel
theorem d_Hb_charge_1 : decode b_Hb_charge 1 = .ok (.invokestatic 68, 3) := by decide +kernel
theorem d_Hb_charge_4 : decode b_Hb_charge 4 = .ok (.lload_n 2, 1) := by decide +kernel
theorem d_Hb_charge_5 : decode b_Hb_charge 5 = .ok (.lconst 1, 1) := by decide +kernel
theorem d_Hb_charge_6 : decode b_Hb_charge 6 = .ok (.lcmp, 1) := by decide +kernel
theorem d_Hb_charge_7 : decode b_Hb_charge 7 = .ok (.ifCond .ge 13, 3) := by decide +kernel
theorem d_Hb_charge_10 : decode b_Hb_charge 10 = .ok (.new 46, 3) := by decide +kernel
theorem d_Hb_charge_13 : decode b_Hb_charge 13 = .ok (.dup, 1) := by decide +kernel
theorem d_Hb_charge_14 : decode b_Hb_charge 14 = .ok (.ldc 151, 2) := by decide +kernel
theorem d_Hb_charge_16 : decode b_Hb_charge 16 = .ok (.invokespecial 50, 3) := by decide +kernel
theorem d_Hb_charge_19 : decode b_Hb_charge 19 = .ok (.athrow, 1) := by decide +kernel
theorem d_Hb_charge_20 : decode b_Hb_charge 20 = .ok (.aload_n 0, 1) := by decide +kernel
theorem d_Hb_charge_21 : decode b_Hb_charge 21 = .ok (.iload_n 1, 1) := by decide +kernel
theorem d_Hb_charge_22 : decode b_Hb_charge 22 = .ok (.invokevirtual 79, 3) := by decide +kernel
theorem d_Hb_charge_25 : decode b_Hb_charge 25 = .ok (.astore 4, 2) := by decide +kernel
theorem d_Hb_charge_27 : decode b_Hb_charge 27 = .ok (.aload 4, 2) := by decide +kernel
theorem d_Hb_charge_29 : decode b_Hb_charge 29 = .ok (.ifnonnull 6, 3) := by decide +kernel
theorem d_Hb_charge_32 : decode b_Hb_charge 32 = .ok (.bipush (-6), 2) := by decide +kernel
theorem d_Hb_charge_34 : decode b_Hb_charge 34 = .ok (.ireturn, 1) := by decide +kernel
theorem d_Hb_charge_35 : decode b_Hb_charge 35 = .ok (.aload 4, 2) := by decide +kernel
theorem d_Hb_charge_37 : decode b_Hb_charge 37 = .ok (.getfield 122, 3) := by decide +kernel
theorem d_Hb_charge_40 : decode b_Hb_charge 40 = .ok (.iconst 3, 1) := by decide +kernel
theorem d_Hb_charge_41 : decode b_Hb_charge 41 = .ok (.if_icmp .ne 11, 3) := by decide +kernel
theorem d_Hb_charge_44 : decode b_Hb_charge 44 = .ok (.aload 4, 2) := by decide +kernel
theorem d_Hb_charge_46 : decode b_Hb_charge 46 = .ok (.getfield 153, 3) := by decide +kernel
theorem d_Hb_charge_49 : decode b_Hb_charge 49 = .ok (.ifCond .eq 6, 3) := by decide +kernel
theorem d_Hb_charge_52 : decode b_Hb_charge 52 = .ok (.bipush (-9), 2) := by decide +kernel
theorem d_Hb_charge_54 : decode b_Hb_charge 54 = .ok (.ireturn, 1) := by decide +kernel
theorem d_Hb_charge_55 : decode b_Hb_charge 55 = .ok (.aload_n 0, 1) := by decide +kernel
theorem d_Hb_charge_56 : decode b_Hb_charge 56 = .ok (.aload 4, 2) := by decide +kernel
theorem d_Hb_charge_58 : decode b_Hb_charge 58 = .ok (.invokevirtual 156, 3) := by decide +kernel
theorem d_Hb_charge_61 : decode b_Hb_charge 61 = .ok (.ifCond .eq 6, 3) := by decide +kernel
theorem d_Hb_charge_64 : decode b_Hb_charge 64 = .ok (.bipush (-10), 2) := by decide +kernel
theorem d_Hb_charge_66 : decode b_Hb_charge 66 = .ok (.ireturn, 1) := by decide +kernel
theorem d_Hb_charge_67 : decode b_Hb_charge 67 = .ok (.lload_n 2, 1) := by decide +kernel
theorem d_Hb_charge_68 : decode b_Hb_charge 68 = .ok (.aload 4, 2) := by decide +kernel
theorem d_Hb_charge_70 : decode b_Hb_charge 70 = .ok (.getfield 137, 3) := by decide +kernel
theorem d_Hb_charge_73 : decode b_Hb_charge 73 = .ok (.lcmp, 1) := by decide +kernel
theorem d_Hb_charge_74 : decode b_Hb_charge 74 = .ok (.ifCond .le 6, 3) := by decide +kernel
theorem d_Hb_charge_77 : decode b_Hb_charge 77 = .ok (.bipush (-11), 2) := by decide +kernel
theorem d_Hb_charge_79 : decode b_Hb_charge 79 = .ok (.ireturn, 1) := by decide +kernel
theorem d_Hb_charge_80 : decode b_Hb_charge 80 = .ok (.aload 4, 2) := by decide +kernel
theorem d_Hb_charge_82 : decode b_Hb_charge 82 = .ok (.lload_n 2, 1) := by decide +kernel
theorem d_Hb_charge_83 : decode b_Hb_charge 83 = .ok (.aload_n 0, 1) := by decide +kernel
theorem d_Hb_charge_84 : decode b_Hb_charge 84 = .ok (.getfield 28, 3) := by decide +kernel
theorem d_Hb_charge_87 : decode b_Hb_charge 87 = .ok (.aload_n 0, 1) := by decide +kernel
theorem d_Hb_charge_88 : decode b_Hb_charge 88 = .ok (.getfield 39, 3) := by decide +kernel
theorem d_Hb_charge_91 : decode b_Hb_charge 91 = .ok (.iadd, 1) := by decide +kernel
theorem d_Hb_charge_92 : decode b_Hb_charge 92 = .ok (.invokevirtual 160, 3) := by decide +kernel
theorem d_Hb_charge_95 : decode b_Hb_charge 95 = .ok (.iconst 1, 1) := by decide +kernel
theorem d_Hb_charge_96 : decode b_Hb_charge 96 = .ok (.ireturn, 1) := by decide +kernel
theorem d_Hb_represent_0 : decode b_Hb_represent 0 = .ok (.iload_n 1, 1) := by decide +kernel
theorem d_Hb_represent_1 : decode b_Hb_represent 1 = .ok (.invokestatic 68, 3) := by decide +kernel
theorem d_Hb_represent_4 : decode b_Hb_represent 4 = .ok (.aload_n 0, 1) := by decide +kernel
theorem d_Hb_represent_5 : decode b_Hb_represent 5 = .ok (.iload_n 1, 1) := by decide +kernel
theorem d_Hb_represent_6 : decode b_Hb_represent 6 = .ok (.invokevirtual 79, 3) := by decide +kernel
theorem d_Hb_represent_9 : decode b_Hb_represent 9 = .ok (.astore_n 2, 1) := by decide +kernel
theorem d_Hb_represent_10 : decode b_Hb_represent 10 = .ok (.aload_n 2, 1) := by decide +kernel
theorem d_Hb_represent_11 : decode b_Hb_represent 11 = .ok (.ifnonnull 6, 3) := by decide +kernel
theorem d_Hb_represent_14 : decode b_Hb_represent 14 = .ok (.bipush (-6), 2) := by decide +kernel
theorem d_Hb_represent_16 : decode b_Hb_represent 16 = .ok (.ireturn, 1) := by decide +kernel
theorem d_Hb_represent_17 : decode b_Hb_represent 17 = .ok (.aload_n 2, 1) := by decide +kernel
theorem d_Hb_represent_18 : decode b_Hb_represent 18 = .ok (.getfield 153, 3) := by decide +kernel
theorem d_Hb_represent_21 : decode b_Hb_represent 21 = .ok (.iconst 1, 1) := by decide +kernel
theorem d_Hb_represent_22 : decode b_Hb_represent 22 = .ok (.if_icmp .eq 6, 3) := by decide +kernel
theorem d_Hb_represent_25 : decode b_Hb_represent 25 = .ok (.bipush (-9), 2) := by decide +kernel
theorem d_Hb_represent_27 : decode b_Hb_represent 27 = .ok (.ireturn, 1) := by decide +kernel
theorem d_Hb_represent_28 : decode b_Hb_represent 28 = .ok (.aload_n 2, 1) := by decide +kernel
theorem d_Hb_represent_29 : decode b_Hb_represent 29 = .ok (.aload_n 0, 1) := by decide +kernel
theorem d_Hb_represent_30 : decode b_Hb_represent 30 = .ok (.getfield 28, 3) := by decide +kernel
theorem d_Hb_represent_33 : decode b_Hb_represent 33 = .ok (.aload_n 0, 1) := by decide +kernel
theorem d_Hb_represent_34 : decode b_Hb_represent 34 = .ok (.getfield 39, 3) := by decide +kernel
theorem d_Hb_represent_37 : decode b_Hb_represent 37 = .ok (.iadd, 1) := by decide +kernel
theorem d_Hb_represent_38 : decode b_Hb_represent 38 = .ok (.invokevirtual 163, 3) := by decide +kernel
theorem d_Hb_represent_41 : decode b_Hb_represent 41 = .ok (.iconst 1, 1) := by decide +kernel
theorem d_Hb_represent_42 : decode b_Hb_represent 42 = .ok (.ireturn, 1) := by decide +kernel
theorem d_Hb_decide_0 : decode b_Hb_decide 0 = .ok (.iload_n 1, 1) := by decide +kernel
theorem d_Hb_decide_1 : decode b_Hb_decide 1 = .ok (.invokestatic 68, 3) := by decide +kernel
theorem d_Hb_decide_4 : decode b_Hb_decide 4 = .ok (.aload_n 0, 1) := by decide +kernel
theorem d_Hb_decide_5 : decode b_Hb_decide 5 = .ok (.iload_n 1, 1) := by decide +kernel
theorem d_Hb_decide_6 : decode b_Hb_decide 6 = .ok (.invokevirtual 79, 3) := by decide +kernel
theorem d_Hb_decide_9 : decode b_Hb_decide 9 = .ok (.astore_n 3, 1) := by decide +kernel
theorem d_Hb_decide_10 : decode b_Hb_decide 10 = .ok (.aload_n 3, 1) := by decide +kernel
theorem d_Hb_decide_11 : decode b_Hb_decide 11 = .ok (.ifnonnull 6, 3) := by decide +kernel
theorem d_Hb_decide_14 : decode b_Hb_decide 14 = .ok (.bipush (-6), 2) := by decide +kernel
theorem d_Hb_decide_16 : decode b_Hb_decide 16 = .ok (.ireturn, 1) := by decide +kernel
theorem d_Hb_decide_17 : decode b_Hb_decide 17 = .ok (.aload_n 3, 1) := by decide +kernel
theorem d_Hb_decide_18 : decode b_Hb_decide 18 = .ok (.getfield 153, 3) := by decide +kernel
theorem d_Hb_decide_21 : decode b_Hb_decide 21 = .ok (.iconst 2, 1) := by decide +kernel
theorem d_Hb_decide_22 : decode b_Hb_decide 22 = .ok (.if_icmp .eq 6, 3) := by decide +kernel
theorem d_Hb_decide_25 : decode b_Hb_decide 25 = .ok (.bipush (-9), 2) := by decide +kernel
theorem d_Hb_decide_27 : decode b_Hb_decide 27 = .ok (.ireturn, 1) := by decide +kernel
theorem d_Hb_decide_28 : decode b_Hb_decide 28 = .ok (.aload_n 3, 1) := by decide +kernel
theorem d_Hb_decide_29 : decode b_Hb_decide 29 = .ok (.iload_n 2, 1) := by decide +kernel
theorem d_Hb_decide_30 : decode b_Hb_decide 30 = .ok (.invokevirtual 166, 3) := by decide +kernel
theorem d_Hb_decide_33 : decode b_Hb_decide 33 = .ok (.iconst 1, 1) := by decide +kernel
theorem d_Hb_decide_34 : decode b_Hb_decide 34 = .ok (.ireturn, 1) := by decide +kernel
theorem d_Hb_funds_0 : decode b_Hb_funds 0 = .ok (.aload_n 0, 1) := by decide +kernel
theorem d_Hb_funds_1 : decode b_Hb_funds 1 = .ok (.iload_n 1, 1) := by decide +kernel
theorem d_Hb_funds_2 : decode b_Hb_funds 2 = .ok (.invokevirtual 72, 3) := by decide +kernel
theorem d_Hb_funds_5 : decode b_Hb_funds 5 = .ok (.iload_n 2, 1) := by decide +kernel
theorem d_Hb_funds_6 : decode b_Hb_funds 6 = .ok (.iconst 3, 1) := by decide +kernel
theorem d_Hb_funds_7 : decode b_Hb_funds 7 = .ok (.invokestatic 176, 3) := by decide +kernel
theorem d_Hb_funds_10 : decode b_Hb_funds 10 = .ok (.aload_n 0, 1) := by decide +kernel
theorem d_Hb_funds_11 : decode b_Hb_funds 11 = .ok (.getfield 10, 3) := by decide +kernel
theorem d_Hb_funds_14 : decode b_Hb_funds 14 = .ok (.iload_n 1, 1) := by decide +kernel
theorem d_Hb_funds_15 : decode b_Hb_funds 15 = .ok (.invokevirtual 87, 3) := by decide +kernel
theorem d_Hb_funds_18 : decode b_Hb_funds 18 = .ok (.checkcast 19, 3) := by decide +kernel
theorem d_Hb_funds_21 : decode b_Hb_funds 21 = .ok (.iload_n 2, 1) := by decide +kernel
theorem d_Hb_funds_22 : decode b_Hb_funds 22 = .ok (.invokevirtual 180, 3) := by decide +kernel
theorem d_Hb_funds_25 : decode b_Hb_funds 25 = .ok (.lreturn, 1) := by decide +kernel
theorem d_Hb_checkWhat_0 : decode b_Hb_checkWhat 0 = .ok (.iload_n 0, 1) := by decide +kernel
theorem d_Hb_checkWhat_1 : decode b_Hb_checkWhat 1 = .ok (.ifCond .lt 8, 3) := by decide +kernel
theorem d_Hb_checkWhat_4 : decode b_Hb_checkWhat 4 = .ok (.iload_n 0, 1) := by decide +kernel
theorem d_Hb_checkWhat_5 : decode b_Hb_checkWhat 5 = .ok (.iload_n 1, 1) := by decide +kernel
theorem d_Hb_checkWhat_6 : decode b_Hb_checkWhat 6 = .ok (.if_icmp .le 13, 3) := by decide +kernel
theorem d_Hb_checkWhat_9 : decode b_Hb_checkWhat 9 = .ok (.new 46, 3) := by decide +kernel
theorem d_Hb_checkWhat_12 : decode b_Hb_checkWhat 12 = .ok (.dup, 1) := by decide +kernel
theorem d_Hb_checkWhat_13 : decode b_Hb_checkWhat 13 = .ok (.ldc 210, 2) := by decide +kernel
theorem d_Hb_checkWhat_15 : decode b_Hb_checkWhat 15 = .ok (.invokespecial 50, 3) := by decide +kernel
theorem d_Hb_checkWhat_18 : decode b_Hb_checkWhat 18 = .ok (.athrow, 1) := by decide +kernel
theorem d_Hb_checkWhat_19 : decode b_Hb_checkWhat 19 = .ok (.return_, 1) := by decide +kernel
theorem d_Hb_payment_0 : decode b_Hb_payment 0 = .ok (.iload_n 1, 1) := by decide +kernel
theorem d_Hb_payment_1 : decode b_Hb_payment 1 = .ok (.invokestatic 68, 3) := by decide +kernel
theorem d_Hb_payment_4 : decode b_Hb_payment 4 = .ok (.iload_n 2, 1) := by decide +kernel
theorem d_Hb_payment_5 : decode b_Hb_payment 5 = .ok (.bipush 8, 2) := by decide +kernel
theorem d_Hb_payment_7 : decode b_Hb_payment 7 = .ok (.invokestatic 176, 3) := by decide +kernel
theorem d_Hb_payment_10 : decode b_Hb_payment 10 = .ok (.aload_n 0, 1) := by decide +kernel
theorem d_Hb_payment_11 : decode b_Hb_payment 11 = .ok (.iload_n 1, 1) := by decide +kernel
theorem d_Hb_payment_12 : decode b_Hb_payment 12 = .ok (.invokevirtual 79, 3) := by decide +kernel
theorem d_Hb_payment_15 : decode b_Hb_payment 15 = .ok (.astore_n 3, 1) := by decide +kernel
theorem d_Hb_payment_16 : decode b_Hb_payment 16 = .ok (.aload_n 3, 1) := by decide +kernel
theorem d_Hb_payment_17 : decode b_Hb_payment 17 = .ok (.ifnonnull 15, 3) := by decide +kernel
theorem d_Hb_payment_20 : decode b_Hb_payment 20 = .ok (.iload_n 2, 1) := by decide +kernel
theorem d_Hb_payment_21 : decode b_Hb_payment 21 = .ok (.ifCond .ne 7, 3) := by decide +kernel
theorem d_Hb_payment_24 : decode b_Hb_payment 24 = .ok (.lconst 0, 1) := by decide +kernel
theorem d_Hb_payment_25 : decode b_Hb_payment 25 = .ok (.goto 6, 3) := by decide +kernel
theorem d_Hb_payment_28 : decode b_Hb_payment 28 = .ok (.ldc2_w 184, 3) := by decide +kernel
theorem d_Hb_payment_31 : decode b_Hb_payment 31 = .ok (.lreturn, 1) := by decide +kernel
theorem d_Hb_payment_32 : decode b_Hb_payment 32 = .ok (.aload_n 3, 1) := by decide +kernel
theorem d_Hb_payment_33 : decode b_Hb_payment 33 = .ok (.iload_n 2, 1) := by decide +kernel
theorem d_Hb_payment_34 : decode b_Hb_payment 34 = .ok (.invokevirtual 186, 3) := by decide +kernel
theorem d_Hb_payment_37 : decode b_Hb_payment 37 = .ok (.lreturn, 1) := by decide +kernel
theorem d_Hb_key_0 : decode b_Hb_key 0 = .ok (.iload_n 1, 1) := by decide +kernel
theorem d_Hb_key_1 : decode b_Hb_key 1 = .ok (.ifCond .ge 13, 3) := by decide +kernel
theorem d_Hb_key_4 : decode b_Hb_key 4 = .ok (.new 46, 3) := by decide +kernel
theorem d_Hb_key_7 : decode b_Hb_key 7 = .ok (.dup, 1) := by decide +kernel
theorem d_Hb_key_8 : decode b_Hb_key 8 = .ok (.ldc 187, 2) := by decide +kernel
theorem d_Hb_key_10 : decode b_Hb_key 10 = .ok (.invokespecial 50, 3) := by decide +kernel
theorem d_Hb_key_13 : decode b_Hb_key 13 = .ok (.athrow, 1) := by decide +kernel
theorem d_Hb_key_14 : decode b_Hb_key 14 = .ok (.iload_n 1, 1) := by decide +kernel
theorem d_Hb_key_15 : decode b_Hb_key 15 = .ok (.aload_n 0, 1) := by decide +kernel
theorem d_Hb_key_16 : decode b_Hb_key 16 = .ok (.getfield 16, 3) := by decide +kernel
theorem d_Hb_key_19 : decode b_Hb_key 19 = .ok (.invokevirtual 55, 3) := by decide +kernel
theorem d_Hb_key_22 : decode b_Hb_key 22 = .ok (.if_icmp .ge 20, 3) := by decide +kernel
theorem d_Hb_key_25 : decode b_Hb_key 25 = .ok (.aload_n 0, 1) := by decide +kernel
theorem d_Hb_key_26 : decode b_Hb_key 26 = .ok (.getfield 16, 3) := by decide +kernel
theorem d_Hb_key_29 : decode b_Hb_key 29 = .ok (.iload_n 1, 1) := by decide +kernel
theorem d_Hb_key_30 : decode b_Hb_key 30 = .ok (.invokevirtual 87, 3) := by decide +kernel
theorem d_Hb_key_33 : decode b_Hb_key 33 = .ok (.checkcast 97, 3) := by decide +kernel
theorem d_Hb_key_36 : decode b_Hb_key 36 = .ok (.getfield 189, 3) := by decide +kernel
theorem d_Hb_key_39 : decode b_Hb_key 39 = .ok (.goto 4, 3) := by decide +kernel
theorem d_Hb_key_42 : decode b_Hb_key 42 = .ok (.iconst (-1), 1) := by decide +kernel
theorem d_Hb_key_43 : decode b_Hb_key 43 = .ok (.ireturn, 1) := by decide +kernel
end
section
/-! DECODE ROWS -/
theorem d_Md_init_0 : decode b_Md_init 0 = .ok (.aload_n 0, 1) := by decide +kernel
theorem d_Md_init_1 : decode b_Md_init 1 = .ok (.invokespecial 1, 3) := by decide +kernel
theorem d_Md_init_4 : decode b_Md_init 4 = .ok (.aload_n 0, 1) := by decide +kernel
theorem d_Md_init_5 : decode b_Md_init 5 = .ok (.bipush 16, 2) := by decide +kernel
theorem d_Md_init_7 : decode b_Md_init 7 = .ok (.newarray .long, 2) := by decide +kernel
theorem d_Md_init_9 : decode b_Md_init 9 = .ok (.putfield 7, 3) := by decide +kernel
theorem d_Md_init_12 : decode b_Md_init 12 = .ok (.aload_n 0, 1) := by decide +kernel
theorem d_Md_init_13 : decode b_Md_init 13 = .ok (.bipush 16, 2) := by decide +kernel
theorem d_Md_init_15 : decode b_Md_init 15 = .ok (.newarray .long, 2) := by decide +kernel
theorem d_Md_init_17 : decode b_Md_init 17 = .ok (.putfield 13, 3) := by decide +kernel
theorem d_Md_init_20 : decode b_Md_init 20 = .ok (.aload_n 0, 1) := by decide +kernel
theorem d_Md_init_21 : decode b_Md_init 21 = .ok (.bipush 60, 2) := by decide +kernel
theorem d_Md_init_23 : decode b_Md_init 23 = .ok (.newarray .int, 2) := by decide +kernel
theorem d_Md_init_25 : decode b_Md_init 25 = .ok (.putfield 16, 3) := by decide +kernel
theorem d_Md_init_28 : decode b_Md_init 28 = .ok (.aload_n 0, 1) := by decide +kernel
theorem d_Md_init_29 : decode b_Md_init 29 = .ok (.bipush 60, 2) := by decide +kernel
theorem d_Md_init_31 : decode b_Md_init 31 = .ok (.newarray .int, 2) := by decide +kernel
theorem d_Md_init_33 : decode b_Md_init 33 = .ok (.putfield 20, 3) := by decide +kernel
theorem d_Md_init_36 : decode b_Md_init 36 = .ok (.aload_n 0, 1) := by decide +kernel
theorem d_Md_init_37 : decode b_Md_init 37 = .ok (.bipush 60, 2) := by decide +kernel
theorem d_Md_init_39 : decode b_Md_init 39 = .ok (.newarray .int, 2) := by decide +kernel
theorem d_Md_init_41 : decode b_Md_init 41 = .ok (.putfield 23, 3) := by decide +kernel
theorem d_Md_init_44 : decode b_Md_init 44 = .ok (.aload_n 0, 1) := by decide +kernel
theorem d_Md_init_45 : decode b_Md_init 45 = .ok (.bipush 60, 2) := by decide +kernel
theorem d_Md_init_47 : decode b_Md_init 47 = .ok (.newarray .long, 2) := by decide +kernel
theorem d_Md_init_49 : decode b_Md_init 49 = .ok (.putfield 26, 3) := by decide +kernel
theorem d_Md_init_52 : decode b_Md_init 52 = .ok (.aload_n 0, 1) := by decide +kernel
theorem d_Md_init_53 : decode b_Md_init 53 = .ok (.bipush 60, 2) := by decide +kernel
theorem d_Md_init_55 : decode b_Md_init 55 = .ok (.newarray .long, 2) := by decide +kernel
theorem d_Md_init_57 : decode b_Md_init 57 = .ok (.putfield 29, 3) := by decide +kernel
theorem d_Md_init_60 : decode b_Md_init 60 = .ok (.aload_n 0, 1) := by decide +kernel
theorem d_Md_init_61 : decode b_Md_init 61 = .ok (.bipush 60, 2) := by decide +kernel
theorem d_Md_init_63 : decode b_Md_init 63 = .ok (.newarray .int, 2) := by decide +kernel
theorem d_Md_init_65 : decode b_Md_init 65 = .ok (.putfield 32, 3) := by decide +kernel
theorem d_Md_init_68 : decode b_Md_init 68 = .ok (.aload_n 0, 1) := by decide +kernel
theorem d_Md_init_69 : decode b_Md_init 69 = .ok (.bipush 60, 2) := by decide +kernel
theorem d_Md_init_71 : decode b_Md_init 71 = .ok (.newarray .int, 2) := by decide +kernel
theorem d_Md_init_73 : decode b_Md_init 73 = .ok (.putfield 35, 3) := by decide +kernel
theorem d_Md_init_76 : decode b_Md_init 76 = .ok (.aload_n 0, 1) := by decide +kernel
theorem d_Md_init_77 : decode b_Md_init 77 = .ok (.bipush 60, 2) := by decide +kernel
theorem d_Md_init_79 : decode b_Md_init 79 = .ok (.newarray .int, 2) := by decide +kernel
theorem d_Md_init_81 : decode b_Md_init 81 = .ok (.putfield 38, 3) := by decide +kernel
theorem d_Md_init_84 : decode b_Md_init 84 = .ok (.aload_n 0, 1) := by decide +kernel
theorem d_Md_init_85 : decode b_Md_init 85 = .ok (.bipush 60, 2) := by decide +kernel
theorem d_Md_init_87 : decode b_Md_init 87 = .ok (.newarray .long, 2) := by decide +kernel
theorem d_Md_init_89 : decode b_Md_init 89 = .ok (.putfield 41, 3) := by decide +kernel
theorem d_Md_init_92 : decode b_Md_init 92 = .ok (.aload_n 0, 1) := by decide +kernel
theorem d_Md_init_93 : decode b_Md_init 93 = .ok (.bipush 60, 2) := by decide +kernel
theorem d_Md_init_95 : decode b_Md_init 95 = .ok (.newarray .int, 2) := by decide +kernel
theorem d_Md_init_97 : decode b_Md_init 97 = .ok (.putfield 44, 3) := by decide +kernel
theorem d_Md_init_100 : decode b_Md_init 100 = .ok (.aload_n 0, 1) := by decide +kernel
theorem d_Md_init_101 : decode b_Md_init 101 = .ok (.iload_n 1, 1) := by decide +kernel
theorem d_Md_init_102 : decode b_Md_init 102 = .ok (.iconst 1, 1) := by decide +kernel
theorem d_Md_init_103 : decode b_Md_init 103 = .ok (.if_icmp .ge 7, 3) := by decide +kernel
theorem d_Md_init_106 : decode b_Md_init 106 = .ok (.iconst 1, 1) := by decide +kernel
theorem d_Md_init_107 : decode b_Md_init 107 = .ok (.goto 17, 3) := by decide +kernel
theorem d_Md_init_110 : decode b_Md_init 110 = .ok (.iload_n 1, 1) := by decide +kernel
theorem d_Md_init_111 : decode b_Md_init 111 = .ok (.sipush 5000, 3) := by decide +kernel
theorem d_Md_init_114 : decode b_Md_init 114 = .ok (.if_icmp .le 9, 3) := by decide +kernel
theorem d_Md_init_117 : decode b_Md_init 117 = .ok (.sipush 5000, 3) := by decide +kernel
theorem d_Md_init_120 : decode b_Md_init 120 = .ok (.goto 4, 3) := by decide +kernel
theorem d_Md_init_123 : decode b_Md_init 123 = .ok (.iload_n 1, 1) := by decide +kernel
theorem d_Md_init_124 : decode b_Md_init 124 = .ok (.putfield 47, 3) := by decide +kernel
theorem d_Md_init_127 : decode b_Md_init 127 = .ok (.aload_n 0, 1) := by decide +kernel
theorem d_Md_init_128 : decode b_Md_init 128 = .ok (.iload_n 2, 1) := by decide +kernel
theorem d_Md_init_129 : decode b_Md_init 129 = .ok (.iconst 1, 1) := by decide +kernel
theorem d_Md_init_130 : decode b_Md_init 130 = .ok (.if_icmp .ge 7, 3) := by decide +kernel
theorem d_Md_init_133 : decode b_Md_init 133 = .ok (.iconst 1, 1) := by decide +kernel
theorem d_Md_init_134 : decode b_Md_init 134 = .ok (.goto 17, 3) := by decide +kernel
theorem d_Md_init_137 : decode b_Md_init 137 = .ok (.iload_n 2, 1) := by decide +kernel
theorem d_Md_init_138 : decode b_Md_init 138 = .ok (.sipush 5000, 3) := by decide +kernel
theorem d_Md_init_141 : decode b_Md_init 141 = .ok (.if_icmp .le 9, 3) := by decide +kernel
theorem d_Md_init_144 : decode b_Md_init 144 = .ok (.sipush 5000, 3) := by decide +kernel
theorem d_Md_init_147 : decode b_Md_init 147 = .ok (.goto 4, 3) := by decide +kernel
theorem d_Md_init_150 : decode b_Md_init 150 = .ok (.iload_n 2, 1) := by decide +kernel
theorem d_Md_init_151 : decode b_Md_init 151 = .ok (.putfield 51, 3) := by decide +kernel
theorem d_Md_init_154 : decode b_Md_init 154 = .ok (.return_, 1) := by decide +kernel
theorem d_Md_thrown_0 : decode b_Md_thrown 0 = .ok (.aload_n 0, 1) := by decide +kernel
theorem d_Md_thrown_1 : decode b_Md_thrown 1 = .ok (.getfield 54, 3) := by decide +kernel
theorem d_Md_thrown_4 : decode b_Md_thrown 4 = .ok (.ireturn, 1) := by decide +kernel
theorem d_Md_account_0 : decode b_Md_account 0 = .ok (.lload_n 1, 1) := by decide +kernel
theorem d_Md_account_1 : decode b_Md_account 1 = .ok (.ldc2_w 70, 3) := by decide +kernel
theorem d_Md_account_4 : decode b_Md_account 4 = .ok (.lcmp, 1) := by decide +kernel
theorem d_Md_account_5 : decode b_Md_account 5 = .ok (.ifCond .lt 29, 3) := by decide +kernel
theorem d_Md_account_8 : decode b_Md_account 8 = .ok (.lload_n 1, 1) := by decide +kernel
theorem d_Md_account_9 : decode b_Md_account 9 = .ok (.ldc2_w 58, 3) := by decide +kernel
theorem d_Md_account_12 : decode b_Md_account 12 = .ok (.lcmp, 1) := by decide +kernel
theorem d_Md_account_13 : decode b_Md_account 13 = .ok (.ifCond .gt 21, 3) := by decide +kernel
theorem d_Md_account_16 : decode b_Md_account 16 = .ok (.lload_n 3, 1) := by decide +kernel
theorem d_Md_account_17 : decode b_Md_account 17 = .ok (.ldc2_w 70, 3) := by decide +kernel
theorem d_Md_account_20 : decode b_Md_account 20 = .ok (.lcmp, 1) := by decide +kernel
theorem d_Md_account_21 : decode b_Md_account 21 = .ok (.ifCond .lt 13, 3) := by decide +kernel
theorem d_Md_account_24 : decode b_Md_account 24 = .ok (.lload_n 3, 1) := by decide +kernel
theorem d_Md_account_25 : decode b_Md_account 25 = .ok (.lconst 0, 1) := by decide +kernel
theorem d_Md_account_26 : decode b_Md_account 26 = .ok (.lcmp, 1) := by decide +kernel
theorem d_Md_account_27 : decode b_Md_account 27 = .ok (.ifCond .gt 7, 3) := by decide +kernel
theorem d_Md_account_30 : decode b_Md_account 30 = .ok (.iconst 1, 1) := by decide +kernel
theorem d_Md_account_31 : decode b_Md_account 31 = .ok (.goto 4, 3) := by decide +kernel
theorem d_Md_account_34 : decode b_Md_account 34 = .ok (.iconst 0, 1) := by decide +kernel
theorem d_Md_account_35 : decode b_Md_account 35 = .ok (.istore 5, 2) := by decide +kernel
theorem d_Md_account_37 : decode b_Md_account 37 = .ok (.aload_n 0, 1) := by decide +kernel
theorem d_Md_account_38 : decode b_Md_account 38 = .ok (.iload 5, 2) := by decide +kernel
theorem d_Md_account_40 : decode b_Md_account 40 = .ok (.ifCond .ne 7, 3) := by decide +kernel
theorem d_Md_account_43 : decode b_Md_account 43 = .ok (.iconst 1, 1) := by decide +kernel
theorem d_Md_account_44 : decode b_Md_account 44 = .ok (.goto 17, 3) := by decide +kernel
theorem d_Md_account_47 : decode b_Md_account 47 = .ok (.aload_n 0, 1) := by decide +kernel
theorem d_Md_account_48 : decode b_Md_account 48 = .ok (.getfield 72, 3) := by decide +kernel
theorem d_Md_account_51 : decode b_Md_account 51 = .ok (.bipush 16, 2) := by decide +kernel
theorem d_Md_account_53 : decode b_Md_account 53 = .ok (.if_icmp .ne 7, 3) := by decide +kernel
theorem d_Md_account_56 : decode b_Md_account 56 = .ok (.iconst 2, 1) := by decide +kernel
theorem d_Md_account_57 : decode b_Md_account 57 = .ok (.goto 4, 3) := by decide +kernel
theorem d_Md_account_60 : decode b_Md_account 60 = .ok (.iconst 0, 1) := by decide +kernel
theorem d_Md_account_61 : decode b_Md_account 61 = .ok (.putfield 54, 3) := by decide +kernel
theorem d_Md_account_64 : decode b_Md_account 64 = .ok (.aload_n 0, 1) := by decide +kernel
theorem d_Md_account_65 : decode b_Md_account 65 = .ok (.getfield 54, 3) := by decide +kernel
theorem d_Md_account_68 : decode b_Md_account 68 = .ok (.ifCond .le 5, 3) := by decide +kernel
theorem d_Md_account_71 : decode b_Md_account 71 = .ok (.iconst 0, 1) := by decide +kernel
theorem d_Md_account_72 : decode b_Md_account 72 = .ok (.ireturn, 1) := by decide +kernel
theorem d_Md_account_73 : decode b_Md_account 73 = .ok (.aload_n 0, 1) := by decide +kernel
theorem d_Md_account_74 : decode b_Md_account 74 = .ok (.getfield 7, 3) := by decide +kernel
theorem d_Md_account_77 : decode b_Md_account 77 = .ok (.aload_n 0, 1) := by decide +kernel
theorem d_Md_account_78 : decode b_Md_account 78 = .ok (.getfield 72, 3) := by decide +kernel
theorem d_Md_account_81 : decode b_Md_account 81 = .ok (.lload_n 1, 1) := by decide +kernel
theorem d_Md_account_82 : decode b_Md_account 82 = .ok (.lastore, 1) := by decide +kernel
theorem d_Md_account_83 : decode b_Md_account 83 = .ok (.aload_n 0, 1) := by decide +kernel
theorem d_Md_account_84 : decode b_Md_account 84 = .ok (.getfield 13, 3) := by decide +kernel
theorem d_Md_account_87 : decode b_Md_account 87 = .ok (.aload_n 0, 1) := by decide +kernel
theorem d_Md_account_88 : decode b_Md_account 88 = .ok (.getfield 72, 3) := by decide +kernel
theorem d_Md_account_91 : decode b_Md_account 91 = .ok (.lload_n 3, 1) := by decide +kernel
theorem d_Md_account_92 : decode b_Md_account 92 = .ok (.lastore, 1) := by decide +kernel
theorem d_Md_account_93 : decode b_Md_account 93 = .ok (.aload_n 0, 1) := by decide +kernel
theorem d_Md_account_94 : decode b_Md_account 94 = .ok (.dup, 1) := by decide +kernel
theorem d_Md_account_95 : decode b_Md_account 95 = .ok (.getfield 72, 3) := by decide +kernel
theorem d_Md_account_98 : decode b_Md_account 98 = .ok (.iconst 1, 1) := by decide +kernel
theorem d_Md_account_99 : decode b_Md_account 99 = .ok (.iadd, 1) := by decide +kernel
theorem d_Md_account_100 : decode b_Md_account 100 = .ok (.putfield 72, 3) := by decide +kernel
theorem d_Md_account_103 : decode b_Md_account 103 = .ok (.aload_n 0, 1) := by decide +kernel
theorem d_Md_account_104 : decode b_Md_account 104 = .ok (.getfield 72, 3) := by decide +kernel
theorem d_Md_account_107 : decode b_Md_account 107 = .ok (.iconst 1, 1) := by decide +kernel
theorem d_Md_account_108 : decode b_Md_account 108 = .ok (.isub, 1) := by decide +kernel
theorem d_Md_account_109 : decode b_Md_account 109 = .ok (.ireturn, 1) := by decide +kernel
theorem d_Md_ask_0 : decode b_Md_ask 0 = .ok (.aload_n 0, 1) := by decide +kernel
theorem d_Md_ask_1 : decode b_Md_ask 1 = .ok (.iload_n 1, 1) := by decide +kernel
theorem d_Md_ask_2 : decode b_Md_ask 2 = .ok (.invokestatic 75, 3) := by decide +kernel
theorem d_Md_ask_5 : decode b_Md_ask 5 = .ok (.ifCond .eq 26, 3) := by decide +kernel
theorem d_Md_ask_8 : decode b_Md_ask 8 = .ok (.iload_n 2, 1) := by decide +kernel
theorem d_Md_ask_9 : decode b_Md_ask 9 = .ok (.ifCond .lt 22, 3) := by decide +kernel
theorem d_Md_ask_12 : decode b_Md_ask 12 = .ok (.iload_n 2, 1) := by decide +kernel
theorem d_Md_ask_13 : decode b_Md_ask 13 = .ok (.aload_n 0, 1) := by decide +kernel
theorem d_Md_ask_14 : decode b_Md_ask 14 = .ok (.getfield 72, 3) := by decide +kernel
theorem d_Md_ask_17 : decode b_Md_ask 17 = .ok (.if_icmp .ge 14, 3) := by decide +kernel
theorem d_Md_ask_20 : decode b_Md_ask 20 = .ok (.lload_n 3, 1) := by decide +kernel
theorem d_Md_ask_21 : decode b_Md_ask 21 = .ok (.invokestatic 79, 3) := by decide +kernel
theorem d_Md_ask_24 : decode b_Md_ask 24 = .ok (.ifCond .eq 7, 3) := by decide +kernel
theorem d_Md_ask_27 : decode b_Md_ask 27 = .ok (.iconst 1, 1) := by decide +kernel
theorem d_Md_ask_28 : decode b_Md_ask 28 = .ok (.goto 4, 3) := by decide +kernel
theorem d_Md_ask_31 : decode b_Md_ask 31 = .ok (.iconst 0, 1) := by decide +kernel
theorem d_Md_ask_32 : decode b_Md_ask 32 = .ok (.invokevirtual 83, 3) := by decide +kernel
theorem d_Md_ask_35 : decode b_Md_ask 35 = .ok (.ifCond .ne 5, 3) := by decide +kernel
theorem d_Md_ask_38 : decode b_Md_ask 38 = .ok (.lconst 0, 1) := by decide +kernel
theorem d_Md_ask_39 : decode b_Md_ask 39 = .ok (.lreturn, 1) := by decide +kernel
theorem d_Md_ask_40 : decode b_Md_ask 40 = .ok (.aload_n 0, 1) := by decide +kernel
theorem d_Md_ask_41 : decode b_Md_ask 41 = .ok (.iload_n 1, 1) := by decide +kernel
theorem d_Md_ask_42 : decode b_Md_ask 42 = .ok (.invokevirtual 87, 3) := by decide +kernel
theorem d_Md_ask_45 : decode b_Md_ask 45 = .ok (.ifCond .ge 12, 3) := by decide +kernel
theorem d_Md_ask_48 : decode b_Md_ask 48 = .ok (.aload_n 0, 1) := by decide +kernel
theorem d_Md_ask_49 : decode b_Md_ask 49 = .ok (.getfield 60, 3) := by decide +kernel
theorem d_Md_ask_52 : decode b_Md_ask 52 = .ok (.bipush 60, 2) := by decide +kernel
theorem d_Md_ask_54 : decode b_Md_ask 54 = .ok (.if_icmp .ne 21, 3) := by decide +kernel
theorem d_Md_ask_57 : decode b_Md_ask 57 = .ok (.aload_n 0, 1) := by decide +kernel
theorem d_Md_ask_58 : decode b_Md_ask 58 = .ok (.iload_n 1, 1) := by decide +kernel
theorem d_Md_ask_59 : decode b_Md_ask 59 = .ok (.invokevirtual 87, 3) := by decide +kernel
theorem d_Md_ask_62 : decode b_Md_ask 62 = .ok (.ifCond .lt 9, 3) := by decide +kernel
theorem d_Md_ask_65 : decode b_Md_ask 65 = .ok (.ldc2_w 91, 3) := by decide +kernel
theorem d_Md_ask_68 : decode b_Md_ask 68 = .ok (.goto 6, 3) := by decide +kernel
theorem d_Md_ask_71 : decode b_Md_ask 71 = .ok (.ldc2_w 93, 3) := by decide +kernel
theorem d_Md_ask_74 : decode b_Md_ask 74 = .ok (.lreturn, 1) := by decide +kernel
theorem d_Md_ask_75 : decode b_Md_ask 75 = .ok (.aload_n 0, 1) := by decide +kernel
theorem d_Md_ask_76 : decode b_Md_ask 76 = .ok (.iload_n 2, 1) := by decide +kernel
theorem d_Md_ask_77 : decode b_Md_ask 77 = .ok (.invokevirtual 95, 3) := by decide +kernel
theorem d_Md_ask_80 : decode b_Md_ask 80 = .ok (.lstore 6, 2) := by decide +kernel
theorem d_Md_ask_82 : decode b_Md_ask 82 = .ok (.lload_n 3, 1) := by decide +kernel
theorem d_Md_ask_83 : decode b_Md_ask 83 = .ok (.lload 6, 2) := by decide +kernel
theorem d_Md_ask_85 : decode b_Md_ask 85 = .ok (.lcmp, 1) := by decide +kernel
theorem d_Md_ask_86 : decode b_Md_ask 86 = .ok (.ifCond .gt 7, 3) := by decide +kernel
theorem d_Md_ask_89 : decode b_Md_ask 89 = .ok (.iconst 1, 1) := by decide +kernel
theorem d_Md_ask_90 : decode b_Md_ask 90 = .ok (.goto 4, 3) := by decide +kernel
theorem d_Md_ask_93 : decode b_Md_ask 93 = .ok (.iconst 0, 1) := by decide +kernel
theorem d_Md_ask_94 : decode b_Md_ask 94 = .ok (.istore 8, 2) := by decide +kernel
theorem d_Md_ask_96 : decode b_Md_ask 96 = .ok (.iload 8, 2) := by decide +kernel
theorem d_Md_ask_98 : decode b_Md_ask 98 = .ok (.ifCond .ne 19, 3) := by decide +kernel
theorem d_Md_ask_101 : decode b_Md_ask 101 = .ok (.iload 5, 2) := by decide +kernel
theorem d_Md_ask_103 : decode b_Md_ask 103 = .ok (.ifCond .eq 10, 3) := by decide +kernel
theorem d_Md_ask_106 : decode b_Md_ask 106 = .ok (.lload 6, 2) := by decide +kernel
theorem d_Md_ask_108 : decode b_Md_ask 108 = .ok (.lconst 0, 1) := by decide +kernel
theorem d_Md_ask_109 : decode b_Md_ask 109 = .ok (.lcmp, 1) := by decide +kernel
theorem d_Md_ask_110 : decode b_Md_ask 110 = .ok (.ifCond .gt 7, 3) := by decide +kernel
theorem d_Md_ask_113 : decode b_Md_ask 113 = .ok (.ldc2_w 98, 3) := by decide +kernel
theorem d_Md_ask_116 : decode b_Md_ask 116 = .ok (.lreturn, 1) := by decide +kernel
theorem d_Md_ask_117 : decode b_Md_ask 117 = .ok (.aload_n 0, 1) := by decide +kernel
theorem d_Md_ask_118 : decode b_Md_ask 118 = .ok (.iload_n 1, 1) := by decide +kernel
theorem d_Md_ask_119 : decode b_Md_ask 119 = .ok (.iload_n 2, 1) := by decide +kernel
theorem d_Md_ask_120 : decode b_Md_ask 120 = .ok (.invokevirtual 100, 3) := by decide +kernel
theorem d_Md_ask_123 : decode b_Md_ask 123 = .ok (.istore 9, 2) := by decide +kernel
theorem d_Md_ask_125 : decode b_Md_ask 125 = .ok (.aload_n 0, 1) := by decide +kernel
theorem d_Md_ask_126 : decode b_Md_ask 126 = .ok (.getfield 23, 3) := by decide +kernel
theorem d_Md_ask_129 : decode b_Md_ask 129 = .ok (.iload 9, 2) := by decide +kernel
theorem d_Md_ask_131 : decode b_Md_ask 131 = .ok (.iconst 1, 1) := by decide +kernel
theorem d_Md_ask_132 : decode b_Md_ask 132 = .ok (.iastore, 1) := by decide +kernel
theorem d_Md_ask_133 : decode b_Md_ask 133 = .ok (.aload_n 0, 1) := by decide +kernel
theorem d_Md_ask_134 : decode b_Md_ask 134 = .ok (.getfield 26, 3) := by decide +kernel
theorem d_Md_ask_137 : decode b_Md_ask 137 = .ok (.iload 9, 2) := by decide +kernel
theorem d_Md_ask_139 : decode b_Md_ask 139 = .ok (.iload 8, 2) := by decide +kernel
theorem d_Md_ask_141 : decode b_Md_ask 141 = .ok (.ifCond .eq 7, 3) := by decide +kernel
theorem d_Md_ask_144 : decode b_Md_ask 144 = .ok (.lload_n 3, 1) := by decide +kernel
theorem d_Md_ask_145 : decode b_Md_ask 145 = .ok (.goto 5, 3) := by decide +kernel
theorem d_Md_ask_148 : decode b_Md_ask 148 = .ok (.lload 6, 2) := by decide +kernel
theorem d_Md_ask_150 : decode b_Md_ask 150 = .ok (.lastore, 1) := by decide +kernel
theorem d_Md_ask_151 : decode b_Md_ask 151 = .ok (.aload_n 0, 1) := by decide +kernel
theorem d_Md_ask_152 : decode b_Md_ask 152 = .ok (.getfield 32, 3) := by decide +kernel
theorem d_Md_ask_155 : decode b_Md_ask 155 = .ok (.iload 9, 2) := by decide +kernel
theorem d_Md_ask_157 : decode b_Md_ask 157 = .ok (.aload_n 0, 1) := by decide +kernel
theorem d_Md_ask_158 : decode b_Md_ask 158 = .ok (.getfield 104, 3) := by decide +kernel
theorem d_Md_ask_161 : decode b_Md_ask 161 = .ok (.aload_n 0, 1) := by decide +kernel
theorem d_Md_ask_162 : decode b_Md_ask 162 = .ok (.getfield 47, 3) := by decide +kernel
theorem d_Md_ask_165 : decode b_Md_ask 165 = .ok (.iadd, 1) := by decide +kernel
theorem d_Md_ask_166 : decode b_Md_ask 166 = .ok (.iastore, 1) := by decide +kernel
theorem d_Md_ask_167 : decode b_Md_ask 167 = .ok (.aload_n 0, 1) := by decide +kernel
theorem d_Md_ask_168 : decode b_Md_ask 168 = .ok (.getfield 26, 3) := by decide +kernel
theorem d_Md_ask_171 : decode b_Md_ask 171 = .ok (.iload 9, 2) := by decide +kernel
theorem d_Md_ask_173 : decode b_Md_ask 173 = .ok (.laload, 1) := by decide +kernel
theorem d_Md_ask_174 : decode b_Md_ask 174 = .ok (.lreturn, 1) := by decide +kernel
theorem d_Md_isKey_0 : decode b_Md_isKey 0 = .ok (.iload_n 0, 1) := by decide +kernel
theorem d_Md_isKey_1 : decode b_Md_isKey 1 = .ok (.ifCond .lt 13, 3) := by decide +kernel
theorem d_Md_isKey_4 : decode b_Md_isKey 4 = .ok (.iload_n 0, 1) := by decide +kernel
theorem d_Md_isKey_5 : decode b_Md_isKey 5 = .ok (.ldc 57, 2) := by decide +kernel
theorem d_Md_isKey_7 : decode b_Md_isKey 7 = .ok (.if_icmp .gt 7, 3) := by decide +kernel
theorem d_Md_isKey_10 : decode b_Md_isKey 10 = .ok (.iconst 1, 1) := by decide +kernel
theorem d_Md_isKey_11 : decode b_Md_isKey 11 = .ok (.goto 4, 3) := by decide +kernel
theorem d_Md_isKey_14 : decode b_Md_isKey 14 = .ok (.iconst 0, 1) := by decide +kernel
theorem d_Md_isKey_15 : decode b_Md_isKey 15 = .ok (.ireturn, 1) := by decide +kernel
theorem d_Md_isAmount_0 : decode b_Md_isAmount 0 = .ok (.lload_n 0, 1) := by decide +kernel
theorem d_Md_isAmount_1 : decode b_Md_isAmount 1 = .ok (.lconst 1, 1) := by decide +kernel
theorem d_Md_isAmount_2 : decode b_Md_isAmount 2 = .ok (.lcmp, 1) := by decide +kernel
theorem d_Md_isAmount_3 : decode b_Md_isAmount 3 = .ok (.ifCond .lt 15, 3) := by decide +kernel
theorem d_Md_isAmount_6 : decode b_Md_isAmount 6 = .ok (.lload_n 0, 1) := by decide +kernel
theorem d_Md_isAmount_7 : decode b_Md_isAmount 7 = .ok (.ldc2_w 58, 3) := by decide +kernel
theorem d_Md_isAmount_10 : decode b_Md_isAmount 10 = .ok (.lcmp, 1) := by decide +kernel
theorem d_Md_isAmount_11 : decode b_Md_isAmount 11 = .ok (.ifCond .gt 7, 3) := by decide +kernel
theorem d_Md_isAmount_14 : decode b_Md_isAmount 14 = .ok (.iconst 1, 1) := by decide +kernel
theorem d_Md_isAmount_15 : decode b_Md_isAmount 15 = .ok (.goto 4, 3) := by decide +kernel
theorem d_Md_isAmount_18 : decode b_Md_isAmount 18 = .ok (.iconst 0, 1) := by decide +kernel
theorem d_Md_isAmount_19 : decode b_Md_isAmount 19 = .ok (.ireturn, 1) := by decide +kernel
theorem d_Md_goes_0 : decode b_Md_goes 0 = .ok (.aload_n 0, 1) := by decide +kernel
theorem d_Md_goes_1 : decode b_Md_goes 1 = .ok (.iload_n 1, 1) := by decide +kernel
theorem d_Md_goes_2 : decode b_Md_goes 2 = .ok (.ifCond .eq 7, 3) := by decide +kernel
theorem d_Md_goes_5 : decode b_Md_goes 5 = .ok (.iconst 0, 1) := by decide +kernel
theorem d_Md_goes_6 : decode b_Md_goes 6 = .ok (.goto 4, 3) := by decide +kernel
theorem d_Md_goes_9 : decode b_Md_goes 9 = .ok (.iconst 1, 1) := by decide +kernel
theorem d_Md_goes_10 : decode b_Md_goes 10 = .ok (.putfield 54, 3) := by decide +kernel
theorem d_Md_goes_13 : decode b_Md_goes 13 = .ok (.iload_n 1, 1) := by decide +kernel
theorem d_Md_goes_14 : decode b_Md_goes 14 = .ok (.ireturn, 1) := by decide +kernel
theorem d_Md_place_0 : decode b_Md_place 0 = .ok (.iconst (-1), 1) := by decide +kernel
theorem d_Md_place_1 : decode b_Md_place 1 = .ok (.istore_n 2, 1) := by decide +kernel
theorem d_Md_place_2 : decode b_Md_place 2 = .ok (.iconst 0, 1) := by decide +kernel
theorem d_Md_place_3 : decode b_Md_place 3 = .ok (.istore_n 3, 1) := by decide +kernel
theorem d_Md_place_4 : decode b_Md_place 4 = .ok (.iload_n 3, 1) := by decide +kernel
theorem d_Md_place_5 : decode b_Md_place 5 = .ok (.aload_n 0, 1) := by decide +kernel
theorem d_Md_place_6 : decode b_Md_place 6 = .ok (.getfield 60, 3) := by decide +kernel
theorem d_Md_place_9 : decode b_Md_place 9 = .ok (.if_icmp .ge 25, 3) := by decide +kernel
theorem d_Md_place_12 : decode b_Md_place 12 = .ok (.aload_n 0, 1) := by decide +kernel
theorem d_Md_place_13 : decode b_Md_place 13 = .ok (.getfield 16, 3) := by decide +kernel
theorem d_Md_place_16 : decode b_Md_place 16 = .ok (.iload_n 3, 1) := by decide +kernel
theorem d_Md_place_17 : decode b_Md_place 17 = .ok (.iaload, 1) := by decide +kernel
theorem d_Md_place_18 : decode b_Md_place 18 = .ok (.iload_n 1, 1) := by decide +kernel
theorem d_Md_place_19 : decode b_Md_place 19 = .ok (.if_icmp .ne 7, 3) := by decide +kernel
theorem d_Md_place_22 : decode b_Md_place 22 = .ok (.iload_n 3, 1) := by decide +kernel
theorem d_Md_place_23 : decode b_Md_place 23 = .ok (.goto 4, 3) := by decide +kernel
theorem d_Md_place_26 : decode b_Md_place 26 = .ok (.iload_n 2, 1) := by decide +kernel
theorem d_Md_place_27 : decode b_Md_place 27 = .ok (.istore_n 2, 1) := by decide +kernel
theorem d_Md_place_28 : decode b_Md_place 28 = .ok (.iinc 3 1, 3) := by decide +kernel
theorem d_Md_place_31 : decode b_Md_place 31 = .ok (.goto (-27), 3) := by decide +kernel
theorem d_Md_place_34 : decode b_Md_place 34 = .ok (.iload_n 2, 1) := by decide +kernel
theorem d_Md_place_35 : decode b_Md_place 35 = .ok (.ireturn, 1) := by decide +kernel
theorem d_Md_freeOf_0 : decode b_Md_freeOf 0 = .ok (.aload_n 0, 1) := by decide +kernel
theorem d_Md_freeOf_1 : decode b_Md_freeOf 1 = .ok (.getfield 7, 3) := by decide +kernel
theorem d_Md_freeOf_4 : decode b_Md_freeOf 4 = .ok (.iload_n 1, 1) := by decide +kernel
theorem d_Md_freeOf_5 : decode b_Md_freeOf 5 = .ok (.laload, 1) := by decide +kernel
theorem d_Md_freeOf_6 : decode b_Md_freeOf 6 = .ok (.aload_n 0, 1) := by decide +kernel
theorem d_Md_freeOf_7 : decode b_Md_freeOf 7 = .ok (.getfield 13, 3) := by decide +kernel
theorem d_Md_freeOf_10 : decode b_Md_freeOf 10 = .ok (.iload_n 1, 1) := by decide +kernel
theorem d_Md_freeOf_11 : decode b_Md_freeOf 11 = .ok (.laload, 1) := by decide +kernel
theorem d_Md_freeOf_12 : decode b_Md_freeOf 12 = .ok (.lsub, 1) := by decide +kernel
theorem d_Md_freeOf_13 : decode b_Md_freeOf 13 = .ok (.aload_n 0, 1) := by decide +kernel
theorem d_Md_freeOf_14 : decode b_Md_freeOf 14 = .ok (.iload_n 1, 1) := by decide +kernel
theorem d_Md_freeOf_15 : decode b_Md_freeOf 15 = .ok (.invokevirtual 63, 3) := by decide +kernel
theorem d_Md_freeOf_18 : decode b_Md_freeOf 18 = .ok (.lsub, 1) := by decide +kernel
theorem d_Md_freeOf_19 : decode b_Md_freeOf 19 = .ok (.aload_n 0, 1) := by decide +kernel
theorem d_Md_freeOf_20 : decode b_Md_freeOf 20 = .ok (.iload_n 1, 1) := by decide +kernel
theorem d_Md_freeOf_21 : decode b_Md_freeOf 21 = .ok (.invokevirtual 67, 3) := by decide +kernel
theorem d_Md_freeOf_24 : decode b_Md_freeOf 24 = .ok (.lsub, 1) := by decide +kernel
theorem d_Md_freeOf_25 : decode b_Md_freeOf 25 = .ok (.lreturn, 1) := by decide +kernel
theorem d_Md_heldOf_0 : decode b_Md_heldOf 0 = .ok (.lconst 0, 1) := by decide +kernel
theorem d_Md_heldOf_1 : decode b_Md_heldOf 1 = .ok (.lstore_n 2, 1) := by decide +kernel
theorem d_Md_heldOf_2 : decode b_Md_heldOf 2 = .ok (.iconst 0, 1) := by decide +kernel
theorem d_Md_heldOf_3 : decode b_Md_heldOf 3 = .ok (.istore 4, 2) := by decide +kernel
theorem d_Md_heldOf_5 : decode b_Md_heldOf 5 = .ok (.iload 4, 2) := by decide +kernel
theorem d_Md_heldOf_7 : decode b_Md_heldOf 7 = .ok (.aload_n 0, 1) := by decide +kernel
theorem d_Md_heldOf_8 : decode b_Md_heldOf 8 = .ok (.getfield 60, 3) := by decide +kernel
theorem d_Md_heldOf_11 : decode b_Md_heldOf 11 = .ok (.if_icmp .ge 34, 3) := by decide +kernel
theorem d_Md_heldOf_14 : decode b_Md_heldOf 14 = .ok (.lload_n 2, 1) := by decide +kernel
theorem d_Md_heldOf_15 : decode b_Md_heldOf 15 = .ok (.aload_n 0, 1) := by decide +kernel
theorem d_Md_heldOf_16 : decode b_Md_heldOf 16 = .ok (.getfield 20, 3) := by decide +kernel
theorem d_Md_heldOf_19 : decode b_Md_heldOf 19 = .ok (.iload 4, 2) := by decide +kernel
theorem d_Md_heldOf_21 : decode b_Md_heldOf 21 = .ok (.iaload, 1) := by decide +kernel
theorem d_Md_heldOf_22 : decode b_Md_heldOf 22 = .ok (.iload_n 1, 1) := by decide +kernel
theorem d_Md_heldOf_23 : decode b_Md_heldOf 23 = .ok (.if_icmp .ne 13, 3) := by decide +kernel
theorem d_Md_heldOf_26 : decode b_Md_heldOf 26 = .ok (.aload_n 0, 1) := by decide +kernel
theorem d_Md_heldOf_27 : decode b_Md_heldOf 27 = .ok (.getfield 26, 3) := by decide +kernel
theorem d_Md_heldOf_30 : decode b_Md_heldOf 30 = .ok (.iload 4, 2) := by decide +kernel
theorem d_Md_heldOf_32 : decode b_Md_heldOf 32 = .ok (.laload, 1) := by decide +kernel
theorem d_Md_heldOf_33 : decode b_Md_heldOf 33 = .ok (.goto 4, 3) := by decide +kernel
theorem d_Md_heldOf_36 : decode b_Md_heldOf 36 = .ok (.lconst 0, 1) := by decide +kernel
theorem d_Md_heldOf_37 : decode b_Md_heldOf 37 = .ok (.ladd, 1) := by decide +kernel
theorem d_Md_heldOf_38 : decode b_Md_heldOf 38 = .ok (.lstore_n 2, 1) := by decide +kernel
theorem d_Md_heldOf_39 : decode b_Md_heldOf 39 = .ok (.iinc 4 1, 3) := by decide +kernel
theorem d_Md_heldOf_42 : decode b_Md_heldOf 42 = .ok (.goto (-37), 3) := by decide +kernel
theorem d_Md_heldOf_45 : decode b_Md_heldOf 45 = .ok (.lload_n 2, 1) := by decide +kernel
theorem d_Md_heldOf_46 : decode b_Md_heldOf 46 = .ok (.lreturn, 1) := by decide +kernel
theorem d_Md_lockedOf_0 : decode b_Md_lockedOf 0 = .ok (.lconst 0, 1) := by decide +kernel
theorem d_Md_lockedOf_1 : decode b_Md_lockedOf 1 = .ok (.lstore_n 2, 1) := by decide +kernel
theorem d_Md_lockedOf_2 : decode b_Md_lockedOf 2 = .ok (.iconst 0, 1) := by decide +kernel
theorem d_Md_lockedOf_3 : decode b_Md_lockedOf 3 = .ok (.istore 4, 2) := by decide +kernel
theorem d_Md_lockedOf_5 : decode b_Md_lockedOf 5 = .ok (.iload 4, 2) := by decide +kernel
theorem d_Md_lockedOf_7 : decode b_Md_lockedOf 7 = .ok (.aload_n 0, 1) := by decide +kernel
theorem d_Md_lockedOf_8 : decode b_Md_lockedOf 8 = .ok (.getfield 60, 3) := by decide +kernel
theorem d_Md_lockedOf_11 : decode b_Md_lockedOf 11 = .ok (.if_icmp .ge 56, 3) := by decide +kernel
theorem d_Md_lockedOf_14 : decode b_Md_lockedOf 14 = .ok (.lload_n 2, 1) := by decide +kernel
theorem d_Md_lockedOf_15 : decode b_Md_lockedOf 15 = .ok (.aload_n 0, 1) := by decide +kernel
theorem d_Md_lockedOf_16 : decode b_Md_lockedOf 16 = .ok (.getfield 20, 3) := by decide +kernel
theorem d_Md_lockedOf_19 : decode b_Md_lockedOf 19 = .ok (.iload 4, 2) := by decide +kernel
theorem d_Md_lockedOf_21 : decode b_Md_lockedOf 21 = .ok (.iaload, 1) := by decide +kernel
theorem d_Md_lockedOf_22 : decode b_Md_lockedOf 22 = .ok (.iload_n 1, 1) := by decide +kernel
theorem d_Md_lockedOf_23 : decode b_Md_lockedOf 23 = .ok (.if_icmp .ne 35, 3) := by decide +kernel
theorem d_Md_lockedOf_26 : decode b_Md_lockedOf 26 = .ok (.aload_n 0, 1) := by decide +kernel
theorem d_Md_lockedOf_27 : decode b_Md_lockedOf 27 = .ok (.getfield 38, 3) := by decide +kernel
theorem d_Md_lockedOf_30 : decode b_Md_lockedOf 30 = .ok (.iload 4, 2) := by decide +kernel
theorem d_Md_lockedOf_32 : decode b_Md_lockedOf 32 = .ok (.iaload, 1) := by decide +kernel
theorem d_Md_lockedOf_33 : decode b_Md_lockedOf 33 = .ok (.iconst 1, 1) := by decide +kernel
theorem d_Md_lockedOf_34 : decode b_Md_lockedOf 34 = .ok (.if_icmp .eq 14, 3) := by decide +kernel
theorem d_Md_lockedOf_37 : decode b_Md_lockedOf 37 = .ok (.aload_n 0, 1) := by decide +kernel
theorem d_Md_lockedOf_38 : decode b_Md_lockedOf 38 = .ok (.getfield 38, 3) := by decide +kernel
theorem d_Md_lockedOf_41 : decode b_Md_lockedOf 41 = .ok (.iload 4, 2) := by decide +kernel
theorem d_Md_lockedOf_43 : decode b_Md_lockedOf 43 = .ok (.iaload, 1) := by decide +kernel
theorem d_Md_lockedOf_44 : decode b_Md_lockedOf 44 = .ok (.iconst 2, 1) := by decide +kernel
theorem d_Md_lockedOf_45 : decode b_Md_lockedOf 45 = .ok (.if_icmp .ne 13, 3) := by decide +kernel
theorem d_Md_lockedOf_48 : decode b_Md_lockedOf 48 = .ok (.aload_n 0, 1) := by decide +kernel
theorem d_Md_lockedOf_49 : decode b_Md_lockedOf 49 = .ok (.getfield 41, 3) := by decide +kernel
theorem d_Md_lockedOf_52 : decode b_Md_lockedOf 52 = .ok (.iload 4, 2) := by decide +kernel
theorem d_Md_lockedOf_54 : decode b_Md_lockedOf 54 = .ok (.laload, 1) := by decide +kernel
theorem d_Md_lockedOf_55 : decode b_Md_lockedOf 55 = .ok (.goto 4, 3) := by decide +kernel
theorem d_Md_lockedOf_58 : decode b_Md_lockedOf 58 = .ok (.lconst 0, 1) := by decide +kernel
theorem d_Md_lockedOf_59 : decode b_Md_lockedOf 59 = .ok (.ladd, 1) := by decide +kernel
theorem d_Md_lockedOf_60 : decode b_Md_lockedOf 60 = .ok (.lstore_n 2, 1) := by decide +kernel
theorem d_Md_lockedOf_61 : decode b_Md_lockedOf 61 = .ok (.iinc 4 1, 3) := by decide +kernel
theorem d_Md_lockedOf_64 : decode b_Md_lockedOf 64 = .ok (.goto (-59), 3) := by decide +kernel
theorem d_Md_lockedOf_67 : decode b_Md_lockedOf 67 = .ok (.lload_n 2, 1) := by decide +kernel
theorem d_Md_lockedOf_68 : decode b_Md_lockedOf 68 = .ok (.lreturn, 1) := by decide +kernel
theorem d_Md_come_0 : decode b_Md_come 0 = .ok (.aload_n 0, 1) := by decide +kernel
theorem d_Md_come_1 : decode b_Md_come 1 = .ok (.getfield 60, 3) := by decide +kernel
theorem d_Md_come_4 : decode b_Md_come 4 = .ok (.istore_n 3, 1) := by decide +kernel
theorem d_Md_come_5 : decode b_Md_come 5 = .ok (.aload_n 0, 1) := by decide +kernel
theorem d_Md_come_6 : decode b_Md_come 6 = .ok (.getfield 16, 3) := by decide +kernel
theorem d_Md_come_9 : decode b_Md_come 9 = .ok (.iload_n 3, 1) := by decide +kernel
theorem d_Md_come_10 : decode b_Md_come 10 = .ok (.iload_n 1, 1) := by decide +kernel
theorem d_Md_come_11 : decode b_Md_come 11 = .ok (.iastore, 1) := by decide +kernel
theorem d_Md_come_12 : decode b_Md_come 12 = .ok (.aload_n 0, 1) := by decide +kernel
theorem d_Md_come_13 : decode b_Md_come 13 = .ok (.getfield 20, 3) := by decide +kernel
theorem d_Md_come_16 : decode b_Md_come 16 = .ok (.iload_n 3, 1) := by decide +kernel
theorem d_Md_come_17 : decode b_Md_come 17 = .ok (.iload_n 2, 1) := by decide +kernel
theorem d_Md_come_18 : decode b_Md_come 18 = .ok (.iastore, 1) := by decide +kernel
theorem d_Md_come_19 : decode b_Md_come 19 = .ok (.aload_n 0, 1) := by decide +kernel
theorem d_Md_come_20 : decode b_Md_come 20 = .ok (.getfield 23, 3) := by decide +kernel
theorem d_Md_come_23 : decode b_Md_come 23 = .ok (.iload_n 3, 1) := by decide +kernel
theorem d_Md_come_24 : decode b_Md_come 24 = .ok (.iconst 2, 1) := by decide +kernel
theorem d_Md_come_25 : decode b_Md_come 25 = .ok (.iastore, 1) := by decide +kernel
theorem d_Md_come_26 : decode b_Md_come 26 = .ok (.aload_n 0, 1) := by decide +kernel
theorem d_Md_come_27 : decode b_Md_come 27 = .ok (.getfield 26, 3) := by decide +kernel
theorem d_Md_come_30 : decode b_Md_come 30 = .ok (.iload_n 3, 1) := by decide +kernel
theorem d_Md_come_31 : decode b_Md_come 31 = .ok (.lconst 0, 1) := by decide +kernel
theorem d_Md_come_32 : decode b_Md_come 32 = .ok (.lastore, 1) := by decide +kernel
theorem d_Md_come_33 : decode b_Md_come 33 = .ok (.aload_n 0, 1) := by decide +kernel
theorem d_Md_come_34 : decode b_Md_come 34 = .ok (.getfield 29, 3) := by decide +kernel
theorem d_Md_come_37 : decode b_Md_come 37 = .ok (.iload_n 3, 1) := by decide +kernel
theorem d_Md_come_38 : decode b_Md_come 38 = .ok (.lconst 0, 1) := by decide +kernel
theorem d_Md_come_39 : decode b_Md_come 39 = .ok (.lastore, 1) := by decide +kernel
theorem d_Md_come_40 : decode b_Md_come 40 = .ok (.aload_n 0, 1) := by decide +kernel
theorem d_Md_come_41 : decode b_Md_come 41 = .ok (.getfield 32, 3) := by decide +kernel
theorem d_Md_come_44 : decode b_Md_come 44 = .ok (.iload_n 3, 1) := by decide +kernel
theorem d_Md_come_45 : decode b_Md_come 45 = .ok (.iconst 0, 1) := by decide +kernel
theorem d_Md_come_46 : decode b_Md_come 46 = .ok (.iastore, 1) := by decide +kernel
theorem d_Md_come_47 : decode b_Md_come 47 = .ok (.aload_n 0, 1) := by decide +kernel
theorem d_Md_come_48 : decode b_Md_come 48 = .ok (.getfield 35, 3) := by decide +kernel
theorem d_Md_come_51 : decode b_Md_come 51 = .ok (.iload_n 3, 1) := by decide +kernel
theorem d_Md_come_52 : decode b_Md_come 52 = .ok (.iconst (-1), 1) := by decide +kernel
theorem d_Md_come_53 : decode b_Md_come 53 = .ok (.iastore, 1) := by decide +kernel
theorem d_Md_come_54 : decode b_Md_come 54 = .ok (.aload_n 0, 1) := by decide +kernel
theorem d_Md_come_55 : decode b_Md_come 55 = .ok (.getfield 38, 3) := by decide +kernel
theorem d_Md_come_58 : decode b_Md_come 58 = .ok (.iload_n 3, 1) := by decide +kernel
theorem d_Md_come_59 : decode b_Md_come 59 = .ok (.iconst 0, 1) := by decide +kernel
theorem d_Md_come_60 : decode b_Md_come 60 = .ok (.iastore, 1) := by decide +kernel
theorem d_Md_come_61 : decode b_Md_come 61 = .ok (.aload_n 0, 1) := by decide +kernel
theorem d_Md_come_62 : decode b_Md_come 62 = .ok (.getfield 41, 3) := by decide +kernel
theorem d_Md_come_65 : decode b_Md_come 65 = .ok (.iload_n 3, 1) := by decide +kernel
theorem d_Md_come_66 : decode b_Md_come 66 = .ok (.lconst 0, 1) := by decide +kernel
theorem d_Md_come_67 : decode b_Md_come 67 = .ok (.lastore, 1) := by decide +kernel
theorem d_Md_come_68 : decode b_Md_come 68 = .ok (.aload_n 0, 1) := by decide +kernel
theorem d_Md_come_69 : decode b_Md_come 69 = .ok (.getfield 44, 3) := by decide +kernel
theorem d_Md_come_72 : decode b_Md_come 72 = .ok (.iload_n 3, 1) := by decide +kernel
theorem d_Md_come_73 : decode b_Md_come 73 = .ok (.iconst (-1), 1) := by decide +kernel
theorem d_Md_come_74 : decode b_Md_come 74 = .ok (.iastore, 1) := by decide +kernel
theorem d_Md_come_75 : decode b_Md_come 75 = .ok (.aload_n 0, 1) := by decide +kernel
theorem d_Md_come_76 : decode b_Md_come 76 = .ok (.dup, 1) := by decide +kernel
theorem d_Md_come_77 : decode b_Md_come 77 = .ok (.getfield 60, 3) := by decide +kernel
theorem d_Md_come_80 : decode b_Md_come 80 = .ok (.iconst 1, 1) := by decide +kernel
theorem d_Md_come_81 : decode b_Md_come 81 = .ok (.iadd, 1) := by decide +kernel
theorem d_Md_come_82 : decode b_Md_come 82 = .ok (.putfield 60, 3) := by decide +kernel
theorem d_Md_come_85 : decode b_Md_come 85 = .ok (.iload_n 3, 1) := by decide +kernel
theorem d_Md_come_86 : decode b_Md_come 86 = .ok (.ireturn, 1) := by decide +kernel
theorem d_Md_clear_0 : decode b_Md_clear 0 = .ok (.aload_n 0, 1) := by decide +kernel
theorem d_Md_clear_1 : decode b_Md_clear 1 = .ok (.iload_n 1, 1) := by decide +kernel
theorem d_Md_clear_2 : decode b_Md_clear 2 = .ok (.invokestatic 75, 3) := by decide +kernel
theorem d_Md_clear_5 : decode b_Md_clear 5 = .ok (.ifCond .eq 14, 3) := by decide +kernel
theorem d_Md_clear_8 : decode b_Md_clear 8 = .ok (.lload_n 2, 1) := by decide +kernel
theorem d_Md_clear_9 : decode b_Md_clear 9 = .ok (.invokestatic 79, 3) := by decide +kernel
theorem d_Md_clear_12 : decode b_Md_clear 12 = .ok (.ifCond .eq 7, 3) := by decide +kernel
theorem d_Md_clear_15 : decode b_Md_clear 15 = .ok (.iconst 1, 1) := by decide +kernel
theorem d_Md_clear_16 : decode b_Md_clear 16 = .ok (.goto 4, 3) := by decide +kernel
theorem d_Md_clear_19 : decode b_Md_clear 19 = .ok (.iconst 0, 1) := by decide +kernel
theorem d_Md_clear_20 : decode b_Md_clear 20 = .ok (.invokevirtual 83, 3) := by decide +kernel
theorem d_Md_clear_23 : decode b_Md_clear 23 = .ok (.ifCond .ne 5, 3) := by decide +kernel
theorem d_Md_clear_26 : decode b_Md_clear 26 = .ok (.lconst 0, 1) := by decide +kernel
theorem d_Md_clear_27 : decode b_Md_clear 27 = .ok (.lreturn, 1) := by decide +kernel
theorem d_Md_clear_28 : decode b_Md_clear 28 = .ok (.aload_n 0, 1) := by decide +kernel
theorem d_Md_clear_29 : decode b_Md_clear 29 = .ok (.iload_n 1, 1) := by decide +kernel
theorem d_Md_clear_30 : decode b_Md_clear 30 = .ok (.invokevirtual 87, 3) := by decide +kernel
theorem d_Md_clear_33 : decode b_Md_clear 33 = .ok (.istore 5, 2) := by decide +kernel
theorem d_Md_clear_35 : decode b_Md_clear 35 = .ok (.iload 5, 2) := by decide +kernel
theorem d_Md_clear_37 : decode b_Md_clear 37 = .ok (.ifCond .ge 7, 3) := by decide +kernel
theorem d_Md_clear_40 : decode b_Md_clear 40 = .ok (.ldc2_w 107, 3) := by decide +kernel
theorem d_Md_clear_43 : decode b_Md_clear 43 = .ok (.lreturn, 1) := by decide +kernel
theorem d_Md_clear_44 : decode b_Md_clear 44 = .ok (.aload_n 0, 1) := by decide +kernel
theorem d_Md_clear_45 : decode b_Md_clear 45 = .ok (.getfield 23, 3) := by decide +kernel
theorem d_Md_clear_48 : decode b_Md_clear 48 = .ok (.iload 5, 2) := by decide +kernel
theorem d_Md_clear_50 : decode b_Md_clear 50 = .ok (.iaload, 1) := by decide +kernel
theorem d_Md_clear_51 : decode b_Md_clear 51 = .ok (.iconst 1, 1) := by decide +kernel
theorem d_Md_clear_52 : decode b_Md_clear 52 = .ok (.if_icmp .eq 7, 3) := by decide +kernel
theorem d_Md_clear_55 : decode b_Md_clear 55 = .ok (.ldc2_w 109, 3) := by decide +kernel
theorem d_Md_clear_58 : decode b_Md_clear 58 = .ok (.lreturn, 1) := by decide +kernel
theorem d_Md_clear_59 : decode b_Md_clear 59 = .ok (.lload_n 2, 1) := by decide +kernel
theorem d_Md_clear_60 : decode b_Md_clear 60 = .ok (.aload_n 0, 1) := by decide +kernel
theorem d_Md_clear_61 : decode b_Md_clear 61 = .ok (.getfield 26, 3) := by decide +kernel
theorem d_Md_clear_64 : decode b_Md_clear 64 = .ok (.iload 5, 2) := by decide +kernel
theorem d_Md_clear_66 : decode b_Md_clear 66 = .ok (.laload, 1) := by decide +kernel
theorem d_Md_clear_67 : decode b_Md_clear 67 = .ok (.lcmp, 1) := by decide +kernel
theorem d_Md_clear_68 : decode b_Md_clear 68 = .ok (.ifCond .le 7, 3) := by decide +kernel
theorem d_Md_clear_71 : decode b_Md_clear 71 = .ok (.ldc2_w 111, 3) := by decide +kernel
theorem d_Md_clear_74 : decode b_Md_clear 74 = .ok (.lreturn, 1) := by decide +kernel
theorem d_Md_clear_75 : decode b_Md_clear 75 = .ok (.aload_n 0, 1) := by decide +kernel
theorem d_Md_clear_76 : decode b_Md_clear 76 = .ok (.getfield 26, 3) := by decide +kernel
theorem d_Md_clear_79 : decode b_Md_clear 79 = .ok (.iload 5, 2) := by decide +kernel
theorem d_Md_clear_81 : decode b_Md_clear 81 = .ok (.dup2, 1) := by decide +kernel
theorem d_Md_clear_82 : decode b_Md_clear 82 = .ok (.laload, 1) := by decide +kernel
theorem d_Md_clear_83 : decode b_Md_clear 83 = .ok (.lload_n 2, 1) := by decide +kernel
theorem d_Md_clear_84 : decode b_Md_clear 84 = .ok (.lsub, 1) := by decide +kernel
theorem d_Md_clear_85 : decode b_Md_clear 85 = .ok (.lastore, 1) := by decide +kernel
theorem d_Md_clear_86 : decode b_Md_clear 86 = .ok (.aload_n 0, 1) := by decide +kernel
theorem d_Md_clear_87 : decode b_Md_clear 87 = .ok (.getfield 29, 3) := by decide +kernel
theorem d_Md_clear_90 : decode b_Md_clear 90 = .ok (.iload 5, 2) := by decide +kernel
theorem d_Md_clear_92 : decode b_Md_clear 92 = .ok (.dup2, 1) := by decide +kernel
theorem d_Md_clear_93 : decode b_Md_clear 93 = .ok (.laload, 1) := by decide +kernel
theorem d_Md_clear_94 : decode b_Md_clear 94 = .ok (.lload_n 2, 1) := by decide +kernel
theorem d_Md_clear_95 : decode b_Md_clear 95 = .ok (.ladd, 1) := by decide +kernel
theorem d_Md_clear_96 : decode b_Md_clear 96 = .ok (.lastore, 1) := by decide +kernel
theorem d_Md_clear_97 : decode b_Md_clear 97 = .ok (.aload_n 0, 1) := by decide +kernel
theorem d_Md_clear_98 : decode b_Md_clear 98 = .ok (.getfield 7, 3) := by decide +kernel
theorem d_Md_clear_101 : decode b_Md_clear 101 = .ok (.aload_n 0, 1) := by decide +kernel
theorem d_Md_clear_102 : decode b_Md_clear 102 = .ok (.getfield 20, 3) := by decide +kernel
theorem d_Md_clear_105 : decode b_Md_clear 105 = .ok (.iload 5, 2) := by decide +kernel
theorem d_Md_clear_107 : decode b_Md_clear 107 = .ok (.iaload, 1) := by decide +kernel
theorem d_Md_clear_108 : decode b_Md_clear 108 = .ok (.dup2, 1) := by decide +kernel
theorem d_Md_clear_109 : decode b_Md_clear 109 = .ok (.laload, 1) := by decide +kernel
theorem d_Md_clear_110 : decode b_Md_clear 110 = .ok (.lload_n 2, 1) := by decide +kernel
theorem d_Md_clear_111 : decode b_Md_clear 111 = .ok (.lsub, 1) := by decide +kernel
theorem d_Md_clear_112 : decode b_Md_clear 112 = .ok (.lastore, 1) := by decide +kernel
theorem d_Md_clear_113 : decode b_Md_clear 113 = .ok (.iload 4, 2) := by decide +kernel
theorem d_Md_clear_115 : decode b_Md_clear 115 = .ok (.ifCond .eq 15, 3) := by decide +kernel
theorem d_Md_clear_118 : decode b_Md_clear 118 = .ok (.aload_n 0, 1) := by decide +kernel
theorem d_Md_clear_119 : decode b_Md_clear 119 = .ok (.getfield 26, 3) := by decide +kernel
theorem d_Md_clear_122 : decode b_Md_clear 122 = .ok (.iload 5, 2) := by decide +kernel
theorem d_Md_clear_124 : decode b_Md_clear 124 = .ok (.laload, 1) := by decide +kernel
theorem d_Md_clear_125 : decode b_Md_clear 125 = .ok (.lconst 0, 1) := by decide +kernel
theorem d_Md_clear_126 : decode b_Md_clear 126 = .ok (.lcmp, 1) := by decide +kernel
theorem d_Md_clear_127 : decode b_Md_clear 127 = .ok (.ifCond .ne 9, 3) := by decide +kernel
theorem d_Md_clear_130 : decode b_Md_clear 130 = .ok (.aload_n 0, 1) := by decide +kernel
theorem d_Md_clear_131 : decode b_Md_clear 131 = .ok (.iload 5, 2) := by decide +kernel
theorem d_Md_clear_133 : decode b_Md_clear 133 = .ok (.invokevirtual 113, 3) := by decide +kernel
theorem d_Md_clear_136 : decode b_Md_clear 136 = .ok (.aload_n 0, 1) := by decide +kernel
theorem d_Md_clear_137 : decode b_Md_clear 137 = .ok (.getfield 26, 3) := by decide +kernel
theorem d_Md_clear_140 : decode b_Md_clear 140 = .ok (.iload 5, 2) := by decide +kernel
theorem d_Md_clear_142 : decode b_Md_clear 142 = .ok (.laload, 1) := by decide +kernel
theorem d_Md_clear_143 : decode b_Md_clear 143 = .ok (.lreturn, 1) := by decide +kernel
theorem d_Md_ends_0 : decode b_Md_ends 0 = .ok (.aload_n 0, 1) := by decide +kernel
theorem d_Md_ends_1 : decode b_Md_ends 1 = .ok (.getfield 29, 3) := by decide +kernel
theorem d_Md_ends_4 : decode b_Md_ends 4 = .ok (.iload_n 1, 1) := by decide +kernel
theorem d_Md_ends_5 : decode b_Md_ends 5 = .ok (.laload, 1) := by decide +kernel
theorem d_Md_ends_6 : decode b_Md_ends 6 = .ok (.lconst 0, 1) := by decide +kernel
theorem d_Md_ends_7 : decode b_Md_ends 7 = .ok (.lcmp, 1) := by decide +kernel
theorem d_Md_ends_8 : decode b_Md_ends 8 = .ok (.ifCond .le 7, 3) := by decide +kernel
theorem d_Md_ends_11 : decode b_Md_ends 11 = .ok (.iconst 1, 1) := by decide +kernel
theorem d_Md_ends_12 : decode b_Md_ends 12 = .ok (.goto 4, 3) := by decide +kernel
theorem d_Md_ends_15 : decode b_Md_ends 15 = .ok (.iconst 0, 1) := by decide +kernel
theorem d_Md_ends_16 : decode b_Md_ends 16 = .ok (.istore_n 2, 1) := by decide +kernel
theorem d_Md_ends_17 : decode b_Md_ends 17 = .ok (.aload_n 0, 1) := by decide +kernel
theorem d_Md_ends_18 : decode b_Md_ends 18 = .ok (.getfield 26, 3) := by decide +kernel
theorem d_Md_ends_21 : decode b_Md_ends 21 = .ok (.iload_n 1, 1) := by decide +kernel
theorem d_Md_ends_22 : decode b_Md_ends 22 = .ok (.lconst 0, 1) := by decide +kernel
theorem d_Md_ends_23 : decode b_Md_ends 23 = .ok (.lastore, 1) := by decide +kernel
theorem d_Md_ends_24 : decode b_Md_ends 24 = .ok (.aload_n 0, 1) := by decide +kernel
theorem d_Md_ends_25 : decode b_Md_ends 25 = .ok (.getfield 32, 3) := by decide +kernel
theorem d_Md_ends_28 : decode b_Md_ends 28 = .ok (.iload_n 1, 1) := by decide +kernel
theorem d_Md_ends_29 : decode b_Md_ends 29 = .ok (.iconst 0, 1) := by decide +kernel
theorem d_Md_ends_30 : decode b_Md_ends 30 = .ok (.iastore, 1) := by decide +kernel
theorem d_Md_ends_31 : decode b_Md_ends 31 = .ok (.aload_n 0, 1) := by decide +kernel
theorem d_Md_ends_32 : decode b_Md_ends 32 = .ok (.getfield 23, 3) := by decide +kernel
theorem d_Md_ends_35 : decode b_Md_ends 35 = .ok (.iload_n 1, 1) := by decide +kernel
theorem d_Md_ends_36 : decode b_Md_ends 36 = .ok (.iload_n 2, 1) := by decide +kernel
theorem d_Md_ends_37 : decode b_Md_ends 37 = .ok (.ifCond .eq 7, 3) := by decide +kernel
theorem d_Md_ends_40 : decode b_Md_ends 40 = .ok (.iconst 3, 1) := by decide +kernel
theorem d_Md_ends_41 : decode b_Md_ends 41 = .ok (.goto 4, 3) := by decide +kernel
theorem d_Md_ends_44 : decode b_Md_ends 44 = .ok (.iconst 2, 1) := by decide +kernel
theorem d_Md_ends_45 : decode b_Md_ends 45 = .ok (.iastore, 1) := by decide +kernel
theorem d_Md_ends_46 : decode b_Md_ends 46 = .ok (.aload_n 0, 1) := by decide +kernel
theorem d_Md_ends_47 : decode b_Md_ends 47 = .ok (.getfield 35, 3) := by decide +kernel
theorem d_Md_ends_50 : decode b_Md_ends 50 = .ok (.iload_n 1, 1) := by decide +kernel
theorem d_Md_ends_51 : decode b_Md_ends 51 = .ok (.iload_n 2, 1) := by decide +kernel
theorem d_Md_ends_52 : decode b_Md_ends 52 = .ok (.ifCond .eq 10, 3) := by decide +kernel
theorem d_Md_ends_55 : decode b_Md_ends 55 = .ok (.aload_n 0, 1) := by decide +kernel
theorem d_Md_ends_56 : decode b_Md_ends 56 = .ok (.getfield 104, 3) := by decide +kernel
theorem d_Md_ends_59 : decode b_Md_ends 59 = .ok (.goto 4, 3) := by decide +kernel
theorem d_Md_ends_62 : decode b_Md_ends 62 = .ok (.iconst (-1), 1) := by decide +kernel
theorem d_Md_ends_63 : decode b_Md_ends 63 = .ok (.iastore, 1) := by decide +kernel
theorem d_Md_ends_64 : decode b_Md_ends 64 = .ok (.return_, 1) := by decide +kernel
theorem d_Md_undo_0 : decode b_Md_undo 0 = .ok (.aload_n 0, 1) := by decide +kernel
theorem d_Md_undo_1 : decode b_Md_undo 1 = .ok (.iload_n 1, 1) := by decide +kernel
theorem d_Md_undo_2 : decode b_Md_undo 2 = .ok (.invokestatic 75, 3) := by decide +kernel
theorem d_Md_undo_5 : decode b_Md_undo 5 = .ok (.ifCond .eq 13, 3) := by decide +kernel
theorem d_Md_undo_8 : decode b_Md_undo 8 = .ok (.lload_n 2, 1) := by decide +kernel
theorem d_Md_undo_9 : decode b_Md_undo 9 = .ok (.lconst 0, 1) := by decide +kernel
theorem d_Md_undo_10 : decode b_Md_undo 10 = .ok (.lcmp, 1) := by decide +kernel
theorem d_Md_undo_11 : decode b_Md_undo 11 = .ok (.ifCond .lt 7, 3) := by decide +kernel
theorem d_Md_undo_14 : decode b_Md_undo 14 = .ok (.iconst 1, 1) := by decide +kernel
theorem d_Md_undo_15 : decode b_Md_undo 15 = .ok (.goto 4, 3) := by decide +kernel
theorem d_Md_undo_18 : decode b_Md_undo 18 = .ok (.iconst 0, 1) := by decide +kernel
theorem d_Md_undo_19 : decode b_Md_undo 19 = .ok (.invokevirtual 83, 3) := by decide +kernel
theorem d_Md_undo_22 : decode b_Md_undo 22 = .ok (.ifCond .ne 5, 3) := by decide +kernel
theorem d_Md_undo_25 : decode b_Md_undo 25 = .ok (.lconst 0, 1) := by decide +kernel
theorem d_Md_undo_26 : decode b_Md_undo 26 = .ok (.lreturn, 1) := by decide +kernel
theorem d_Md_undo_27 : decode b_Md_undo 27 = .ok (.aload_n 0, 1) := by decide +kernel
theorem d_Md_undo_28 : decode b_Md_undo 28 = .ok (.iload_n 1, 1) := by decide +kernel
theorem d_Md_undo_29 : decode b_Md_undo 29 = .ok (.invokevirtual 87, 3) := by decide +kernel
theorem d_Md_undo_32 : decode b_Md_undo 32 = .ok (.istore 5, 2) := by decide +kernel
theorem d_Md_undo_34 : decode b_Md_undo 34 = .ok (.iload 5, 2) := by decide +kernel
theorem d_Md_undo_36 : decode b_Md_undo 36 = .ok (.ifCond .ge 29, 3) := by decide +kernel
theorem d_Md_undo_39 : decode b_Md_undo 39 = .ok (.iload 4, 2) := by decide +kernel
theorem d_Md_undo_41 : decode b_Md_undo 41 = .ok (.ifCond .eq 20, 3) := by decide +kernel
theorem d_Md_undo_44 : decode b_Md_undo 44 = .ok (.aload_n 0, 1) := by decide +kernel
theorem d_Md_undo_45 : decode b_Md_undo 45 = .ok (.getfield 60, 3) := by decide +kernel
theorem d_Md_undo_48 : decode b_Md_undo 48 = .ok (.bipush 60, 2) := by decide +kernel
theorem d_Md_undo_50 : decode b_Md_undo 50 = .ok (.if_icmp .ge 11, 3) := by decide +kernel
theorem d_Md_undo_53 : decode b_Md_undo 53 = .ok (.aload_n 0, 1) := by decide +kernel
theorem d_Md_undo_54 : decode b_Md_undo 54 = .ok (.iload_n 1, 1) := by decide +kernel
theorem d_Md_undo_55 : decode b_Md_undo 55 = .ok (.iconst (-1), 1) := by decide +kernel
theorem d_Md_undo_56 : decode b_Md_undo 56 = .ok (.invokevirtual 100, 3) := by decide +kernel
theorem d_Md_undo_59 : decode b_Md_undo 59 = .ok (.istore 5, 2) := by decide +kernel
theorem d_Md_undo_61 : decode b_Md_undo 61 = .ok (.ldc2_w 107, 3) := by decide +kernel
theorem d_Md_undo_64 : decode b_Md_undo 64 = .ok (.lreturn, 1) := by decide +kernel
theorem d_Md_undo_65 : decode b_Md_undo 65 = .ok (.aload_n 0, 1) := by decide +kernel
theorem d_Md_undo_66 : decode b_Md_undo 66 = .ok (.getfield 23, 3) := by decide +kernel
theorem d_Md_undo_69 : decode b_Md_undo 69 = .ok (.iload 5, 2) := by decide +kernel
theorem d_Md_undo_71 : decode b_Md_undo 71 = .ok (.iaload, 1) := by decide +kernel
theorem d_Md_undo_72 : decode b_Md_undo 72 = .ok (.iconst 3, 1) := by decide +kernel
theorem d_Md_undo_73 : decode b_Md_undo 73 = .ok (.if_icmp .eq 15, 3) := by decide +kernel
theorem d_Md_undo_76 : decode b_Md_undo 76 = .ok (.aload_n 0, 1) := by decide +kernel
theorem d_Md_undo_77 : decode b_Md_undo 77 = .ok (.getfield 29, 3) := by decide +kernel
theorem d_Md_undo_80 : decode b_Md_undo 80 = .ok (.iload 5, 2) := by decide +kernel
theorem d_Md_undo_82 : decode b_Md_undo 82 = .ok (.laload, 1) := by decide +kernel
theorem d_Md_undo_83 : decode b_Md_undo 83 = .ok (.lconst 0, 1) := by decide +kernel
theorem d_Md_undo_84 : decode b_Md_undo 84 = .ok (.lcmp, 1) := by decide +kernel
theorem d_Md_undo_85 : decode b_Md_undo 85 = .ok (.ifCond .le 7, 3) := by decide +kernel
theorem d_Md_undo_88 : decode b_Md_undo 88 = .ok (.ldc2_w 109, 3) := by decide +kernel
theorem d_Md_undo_91 : decode b_Md_undo 91 = .ok (.lreturn, 1) := by decide +kernel
theorem d_Md_undo_92 : decode b_Md_undo 92 = .ok (.aload_n 0, 1) := by decide +kernel
theorem d_Md_undo_93 : decode b_Md_undo 93 = .ok (.getfield 23, 3) := by decide +kernel
theorem d_Md_undo_96 : decode b_Md_undo 96 = .ok (.iload 5, 2) := by decide +kernel
theorem d_Md_undo_98 : decode b_Md_undo 98 = .ok (.iaload, 1) := by decide +kernel
theorem d_Md_undo_99 : decode b_Md_undo 99 = .ok (.iconst 1, 1) := by decide +kernel
theorem d_Md_undo_100 : decode b_Md_undo 100 = .ok (.if_icmp .ne 38, 3) := by decide +kernel
theorem d_Md_undo_103 : decode b_Md_undo 103 = .ok (.lload_n 2, 1) := by decide +kernel
theorem d_Md_undo_104 : decode b_Md_undo 104 = .ok (.lconst 0, 1) := by decide +kernel
theorem d_Md_undo_105 : decode b_Md_undo 105 = .ok (.lcmp, 1) := by decide +kernel
theorem d_Md_undo_106 : decode b_Md_undo 106 = .ok (.ifCond .le 26, 3) := by decide +kernel
theorem d_Md_undo_109 : decode b_Md_undo 109 = .ok (.lload_n 2, 1) := by decide +kernel
theorem d_Md_undo_110 : decode b_Md_undo 110 = .ok (.aload_n 0, 1) := by decide +kernel
theorem d_Md_undo_111 : decode b_Md_undo 111 = .ok (.getfield 26, 3) := by decide +kernel
theorem d_Md_undo_114 : decode b_Md_undo 114 = .ok (.iload 5, 2) := by decide +kernel
theorem d_Md_undo_116 : decode b_Md_undo 116 = .ok (.laload, 1) := by decide +kernel
theorem d_Md_undo_117 : decode b_Md_undo 117 = .ok (.lcmp, 1) := by decide +kernel
theorem d_Md_undo_118 : decode b_Md_undo 118 = .ok (.ifCond .ge 14, 3) := by decide +kernel
theorem d_Md_undo_121 : decode b_Md_undo 121 = .ok (.aload_n 0, 1) := by decide +kernel
theorem d_Md_undo_122 : decode b_Md_undo 122 = .ok (.getfield 26, 3) := by decide +kernel
theorem d_Md_undo_125 : decode b_Md_undo 125 = .ok (.iload 5, 2) := by decide +kernel
theorem d_Md_undo_127 : decode b_Md_undo 127 = .ok (.lload_n 2, 1) := by decide +kernel
theorem d_Md_undo_128 : decode b_Md_undo 128 = .ok (.lastore, 1) := by decide +kernel
theorem d_Md_undo_129 : decode b_Md_undo 129 = .ok (.goto 9, 3) := by decide +kernel
theorem d_Md_undo_132 : decode b_Md_undo 132 = .ok (.aload_n 0, 1) := by decide +kernel
theorem d_Md_undo_133 : decode b_Md_undo 133 = .ok (.iload 5, 2) := by decide +kernel
theorem d_Md_undo_135 : decode b_Md_undo 135 = .ok (.invokevirtual 113, 3) := by decide +kernel
theorem d_Md_undo_138 : decode b_Md_undo 138 = .ok (.aload_n 0, 1) := by decide +kernel
theorem d_Md_undo_139 : decode b_Md_undo 139 = .ok (.getfield 26, 3) := by decide +kernel
theorem d_Md_undo_142 : decode b_Md_undo 142 = .ok (.iload 5, 2) := by decide +kernel
theorem d_Md_undo_144 : decode b_Md_undo 144 = .ok (.laload, 1) := by decide +kernel
theorem d_Md_undo_145 : decode b_Md_undo 145 = .ok (.lreturn, 1) := by decide +kernel
theorem d_Md_ticks_0 : decode b_Md_ticks 0 = .ok (.iload_n 1, 1) := by decide +kernel
theorem d_Md_ticks_1 : decode b_Md_ticks 1 = .ok (.iconst 1, 1) := by decide +kernel
theorem d_Md_ticks_2 : decode b_Md_ticks 2 = .ok (.if_icmp .lt 14, 3) := by decide +kernel
theorem d_Md_ticks_5 : decode b_Md_ticks 5 = .ok (.iload_n 1, 1) := by decide +kernel
theorem d_Md_ticks_6 : decode b_Md_ticks 6 = .ok (.sipush 1000, 3) := by decide +kernel
theorem d_Md_ticks_9 : decode b_Md_ticks 9 = .ok (.if_icmp .gt 7, 3) := by decide +kernel
theorem d_Md_ticks_12 : decode b_Md_ticks 12 = .ok (.iconst 1, 1) := by decide +kernel
theorem d_Md_ticks_13 : decode b_Md_ticks 13 = .ok (.goto 4, 3) := by decide +kernel
theorem d_Md_ticks_16 : decode b_Md_ticks 16 = .ok (.iconst 0, 1) := by decide +kernel
theorem d_Md_ticks_17 : decode b_Md_ticks 17 = .ok (.istore_n 2, 1) := by decide +kernel
theorem d_Md_ticks_18 : decode b_Md_ticks 18 = .ok (.aload_n 0, 1) := by decide +kernel
theorem d_Md_ticks_19 : decode b_Md_ticks 19 = .ok (.iload_n 2, 1) := by decide +kernel
theorem d_Md_ticks_20 : decode b_Md_ticks 20 = .ok (.ifCond .ne 7, 3) := by decide +kernel
theorem d_Md_ticks_23 : decode b_Md_ticks 23 = .ok (.iconst 1, 1) := by decide +kernel
theorem d_Md_ticks_24 : decode b_Md_ticks 24 = .ok (.goto 19, 3) := by decide +kernel
theorem d_Md_ticks_27 : decode b_Md_ticks 27 = .ok (.aload_n 0, 1) := by decide +kernel
theorem d_Md_ticks_28 : decode b_Md_ticks 28 = .ok (.getfield 104, 3) := by decide +kernel
theorem d_Md_ticks_31 : decode b_Md_ticks 31 = .ok (.iload_n 1, 1) := by decide +kernel
theorem d_Md_ticks_32 : decode b_Md_ticks 32 = .ok (.iadd, 1) := by decide +kernel
theorem d_Md_ticks_33 : decode b_Md_ticks 33 = .ok (.ldc 57, 2) := by decide +kernel
theorem d_Md_ticks_35 : decode b_Md_ticks 35 = .ok (.if_icmp .le 7, 3) := by decide +kernel
theorem d_Md_ticks_38 : decode b_Md_ticks 38 = .ok (.iconst 2, 1) := by decide +kernel
theorem d_Md_ticks_39 : decode b_Md_ticks 39 = .ok (.goto 4, 3) := by decide +kernel
theorem d_Md_ticks_42 : decode b_Md_ticks 42 = .ok (.iconst 0, 1) := by decide +kernel
theorem d_Md_ticks_43 : decode b_Md_ticks 43 = .ok (.putfield 54, 3) := by decide +kernel
theorem d_Md_ticks_46 : decode b_Md_ticks 46 = .ok (.aload_n 0, 1) := by decide +kernel
theorem d_Md_ticks_47 : decode b_Md_ticks 47 = .ok (.getfield 54, 3) := by decide +kernel
theorem d_Md_ticks_50 : decode b_Md_ticks 50 = .ok (.ifCond .le 5, 3) := by decide +kernel
theorem d_Md_ticks_53 : decode b_Md_ticks 53 = .ok (.iconst 0, 1) := by decide +kernel
theorem d_Md_ticks_54 : decode b_Md_ticks 54 = .ok (.ireturn, 1) := by decide +kernel
theorem d_Md_ticks_55 : decode b_Md_ticks 55 = .ok (.iconst 0, 1) := by decide +kernel
theorem d_Md_ticks_56 : decode b_Md_ticks 56 = .ok (.istore_n 3, 1) := by decide +kernel
theorem d_Md_ticks_57 : decode b_Md_ticks 57 = .ok (.iload_n 3, 1) := by decide +kernel
theorem d_Md_ticks_58 : decode b_Md_ticks 58 = .ok (.iload_n 1, 1) := by decide +kernel
theorem d_Md_ticks_59 : decode b_Md_ticks 59 = .ok (.if_icmp .ge 126, 3) := by decide +kernel
theorem d_Md_ticks_62 : decode b_Md_ticks 62 = .ok (.aload_n 0, 1) := by decide +kernel
theorem d_Md_ticks_63 : decode b_Md_ticks 63 = .ok (.dup, 1) := by decide +kernel
theorem d_Md_ticks_64 : decode b_Md_ticks 64 = .ok (.getfield 104, 3) := by decide +kernel
theorem d_Md_ticks_67 : decode b_Md_ticks 67 = .ok (.iconst 1, 1) := by decide +kernel
theorem d_Md_ticks_68 : decode b_Md_ticks 68 = .ok (.iadd, 1) := by decide +kernel
theorem d_Md_ticks_69 : decode b_Md_ticks 69 = .ok (.putfield 104, 3) := by decide +kernel
theorem d_Md_ticks_72 : decode b_Md_ticks 72 = .ok (.iconst 0, 1) := by decide +kernel
theorem d_Md_ticks_73 : decode b_Md_ticks 73 = .ok (.istore 4, 2) := by decide +kernel
theorem d_Md_ticks_75 : decode b_Md_ticks 75 = .ok (.iload 4, 2) := by decide +kernel
theorem d_Md_ticks_77 : decode b_Md_ticks 77 = .ok (.aload_n 0, 1) := by decide +kernel
theorem d_Md_ticks_78 : decode b_Md_ticks 78 = .ok (.getfield 60, 3) := by decide +kernel
theorem d_Md_ticks_81 : decode b_Md_ticks 81 = .ok (.if_icmp .ge 98, 3) := by decide +kernel
theorem d_Md_ticks_84 : decode b_Md_ticks 84 = .ok (.aload_n 0, 1) := by decide +kernel
theorem d_Md_ticks_85 : decode b_Md_ticks 85 = .ok (.getfield 23, 3) := by decide +kernel
theorem d_Md_ticks_88 : decode b_Md_ticks 88 = .ok (.iload 4, 2) := by decide +kernel
theorem d_Md_ticks_90 : decode b_Md_ticks 90 = .ok (.iaload, 1) := by decide +kernel
theorem d_Md_ticks_91 : decode b_Md_ticks 91 = .ok (.iconst 1, 1) := by decide +kernel
theorem d_Md_ticks_92 : decode b_Md_ticks 92 = .ok (.if_icmp .ne 23, 3) := by decide +kernel
theorem d_Md_ticks_95 : decode b_Md_ticks 95 = .ok (.aload_n 0, 1) := by decide +kernel
theorem d_Md_ticks_96 : decode b_Md_ticks 96 = .ok (.getfield 32, 3) := by decide +kernel
theorem d_Md_ticks_99 : decode b_Md_ticks 99 = .ok (.iload 4, 2) := by decide +kernel
theorem d_Md_ticks_101 : decode b_Md_ticks 101 = .ok (.iaload, 1) := by decide +kernel
theorem d_Md_ticks_102 : decode b_Md_ticks 102 = .ok (.aload_n 0, 1) := by decide +kernel
theorem d_Md_ticks_103 : decode b_Md_ticks 103 = .ok (.getfield 104, 3) := by decide +kernel
theorem d_Md_ticks_106 : decode b_Md_ticks 106 = .ok (.if_icmp .gt 9, 3) := by decide +kernel
theorem d_Md_ticks_109 : decode b_Md_ticks 109 = .ok (.aload_n 0, 1) := by decide +kernel
theorem d_Md_ticks_110 : decode b_Md_ticks 110 = .ok (.iload 4, 2) := by decide +kernel
theorem d_Md_ticks_112 : decode b_Md_ticks 112 = .ok (.invokevirtual 113, 3) := by decide +kernel
theorem d_Md_ticks_115 : decode b_Md_ticks 115 = .ok (.aload_n 0, 1) := by decide +kernel
theorem d_Md_ticks_116 : decode b_Md_ticks 116 = .ok (.getfield 38, 3) := by decide +kernel
theorem d_Md_ticks_119 : decode b_Md_ticks 119 = .ok (.iload 4, 2) := by decide +kernel
theorem d_Md_ticks_121 : decode b_Md_ticks 121 = .ok (.iaload, 1) := by decide +kernel
theorem d_Md_ticks_122 : decode b_Md_ticks 122 = .ok (.iconst 1, 1) := by decide +kernel
theorem d_Md_ticks_123 : decode b_Md_ticks 123 = .ok (.if_icmp .eq 14, 3) := by decide +kernel
theorem d_Md_ticks_126 : decode b_Md_ticks 126 = .ok (.aload_n 0, 1) := by decide +kernel
theorem d_Md_ticks_127 : decode b_Md_ticks 127 = .ok (.getfield 38, 3) := by decide +kernel
theorem d_Md_ticks_130 : decode b_Md_ticks 130 = .ok (.iload 4, 2) := by decide +kernel
theorem d_Md_ticks_132 : decode b_Md_ticks 132 = .ok (.iaload, 1) := by decide +kernel
theorem d_Md_ticks_133 : decode b_Md_ticks 133 = .ok (.iconst 2, 1) := by decide +kernel
theorem d_Md_ticks_134 : decode b_Md_ticks 134 = .ok (.if_icmp .ne 39, 3) := by decide +kernel
theorem d_Md_ticks_137 : decode b_Md_ticks 137 = .ok (.aload_n 0, 1) := by decide +kernel
theorem d_Md_ticks_138 : decode b_Md_ticks 138 = .ok (.getfield 44, 3) := by decide +kernel
theorem d_Md_ticks_141 : decode b_Md_ticks 141 = .ok (.iload 4, 2) := by decide +kernel
theorem d_Md_ticks_143 : decode b_Md_ticks 143 = .ok (.iaload, 1) := by decide +kernel
theorem d_Md_ticks_144 : decode b_Md_ticks 144 = .ok (.aload_n 0, 1) := by decide +kernel
theorem d_Md_ticks_145 : decode b_Md_ticks 145 = .ok (.getfield 104, 3) := by decide +kernel
theorem d_Md_ticks_148 : decode b_Md_ticks 148 = .ok (.if_icmp .ge 25, 3) := by decide +kernel
theorem d_Md_ticks_151 : decode b_Md_ticks 151 = .ok (.aload_n 0, 1) := by decide +kernel
theorem d_Md_ticks_152 : decode b_Md_ticks 152 = .ok (.iload 4, 2) := by decide +kernel
theorem d_Md_ticks_154 : decode b_Md_ticks 154 = .ok (.aload_n 0, 1) := by decide +kernel
theorem d_Md_ticks_155 : decode b_Md_ticks 155 = .ok (.getfield 38, 3) := by decide +kernel
theorem d_Md_ticks_158 : decode b_Md_ticks 158 = .ok (.iload 4, 2) := by decide +kernel
theorem d_Md_ticks_160 : decode b_Md_ticks 160 = .ok (.iaload, 1) := by decide +kernel
theorem d_Md_ticks_161 : decode b_Md_ticks 161 = .ok (.iconst 1, 1) := by decide +kernel
theorem d_Md_ticks_162 : decode b_Md_ticks 162 = .ok (.if_icmp .ne 7, 3) := by decide +kernel
theorem d_Md_ticks_165 : decode b_Md_ticks 165 = .ok (.iconst 1, 1) := by decide +kernel
theorem d_Md_ticks_166 : decode b_Md_ticks 166 = .ok (.goto 4, 3) := by decide +kernel
theorem d_Md_ticks_169 : decode b_Md_ticks 169 = .ok (.iconst 0, 1) := by decide +kernel
theorem d_Md_ticks_170 : decode b_Md_ticks 170 = .ok (.invokevirtual 117, 3) := by decide +kernel
theorem d_Md_ticks_173 : decode b_Md_ticks 173 = .ok (.iinc 4 1, 3) := by decide +kernel
theorem d_Md_ticks_176 : decode b_Md_ticks 176 = .ok (.goto (-101), 3) := by decide +kernel
theorem d_Md_ticks_179 : decode b_Md_ticks 179 = .ok (.iinc 3 1, 3) := by decide +kernel
theorem d_Md_ticks_182 : decode b_Md_ticks 182 = .ok (.goto (-125), 3) := by decide +kernel
theorem d_Md_ticks_185 : decode b_Md_ticks 185 = .ok (.aload_n 0, 1) := by decide +kernel
theorem d_Md_ticks_186 : decode b_Md_ticks 186 = .ok (.getfield 104, 3) := by decide +kernel
theorem d_Md_ticks_189 : decode b_Md_ticks 189 = .ok (.ireturn, 1) := by decide +kernel
theorem d_Md_closes_0 : decode b_Md_closes 0 = .ok (.aload_n 0, 1) := by decide +kernel
theorem d_Md_closes_1 : decode b_Md_closes 1 = .ok (.getfield 7, 3) := by decide +kernel
theorem d_Md_closes_4 : decode b_Md_closes 4 = .ok (.aload_n 0, 1) := by decide +kernel
theorem d_Md_closes_5 : decode b_Md_closes 5 = .ok (.getfield 20, 3) := by decide +kernel
theorem d_Md_closes_8 : decode b_Md_closes 8 = .ok (.iload_n 1, 1) := by decide +kernel
theorem d_Md_closes_9 : decode b_Md_closes 9 = .ok (.iaload, 1) := by decide +kernel
theorem d_Md_closes_10 : decode b_Md_closes 10 = .ok (.dup2, 1) := by decide +kernel
theorem d_Md_closes_11 : decode b_Md_closes 11 = .ok (.laload, 1) := by decide +kernel
theorem d_Md_closes_12 : decode b_Md_closes 12 = .ok (.iload_n 2, 1) := by decide +kernel
theorem d_Md_closes_13 : decode b_Md_closes 13 = .ok (.ifCond .eq 7, 3) := by decide +kernel
theorem d_Md_closes_16 : decode b_Md_closes 16 = .ok (.lconst 0, 1) := by decide +kernel
theorem d_Md_closes_17 : decode b_Md_closes 17 = .ok (.goto 9, 3) := by decide +kernel
theorem d_Md_closes_20 : decode b_Md_closes 20 = .ok (.aload_n 0, 1) := by decide +kernel
theorem d_Md_closes_21 : decode b_Md_closes 21 = .ok (.getfield 41, 3) := by decide +kernel
theorem d_Md_closes_24 : decode b_Md_closes 24 = .ok (.iload_n 1, 1) := by decide +kernel
theorem d_Md_closes_25 : decode b_Md_closes 25 = .ok (.laload, 1) := by decide +kernel
theorem d_Md_closes_26 : decode b_Md_closes 26 = .ok (.lsub, 1) := by decide +kernel
theorem d_Md_closes_27 : decode b_Md_closes 27 = .ok (.lastore, 1) := by decide +kernel
theorem d_Md_closes_28 : decode b_Md_closes 28 = .ok (.aload_n 0, 1) := by decide +kernel
theorem d_Md_closes_29 : decode b_Md_closes 29 = .ok (.getfield 38, 3) := by decide +kernel
theorem d_Md_closes_32 : decode b_Md_closes 32 = .ok (.iload_n 1, 1) := by decide +kernel
theorem d_Md_closes_33 : decode b_Md_closes 33 = .ok (.iload_n 2, 1) := by decide +kernel
theorem d_Md_closes_34 : decode b_Md_closes 34 = .ok (.ifCond .eq 7, 3) := by decide +kernel
theorem d_Md_closes_37 : decode b_Md_closes 37 = .ok (.iconst 3, 1) := by decide +kernel
theorem d_Md_closes_38 : decode b_Md_closes 38 = .ok (.goto 4, 3) := by decide +kernel
theorem d_Md_closes_41 : decode b_Md_closes 41 = .ok (.iconst 4, 1) := by decide +kernel
theorem d_Md_closes_42 : decode b_Md_closes 42 = .ok (.iastore, 1) := by decide +kernel
theorem d_Md_closes_43 : decode b_Md_closes 43 = .ok (.aload_n 0, 1) := by decide +kernel
theorem d_Md_closes_44 : decode b_Md_closes 44 = .ok (.getfield 44, 3) := by decide +kernel
theorem d_Md_closes_47 : decode b_Md_closes 47 = .ok (.iload_n 1, 1) := by decide +kernel
theorem d_Md_closes_48 : decode b_Md_closes 48 = .ok (.iconst (-1), 1) := by decide +kernel
theorem d_Md_closes_49 : decode b_Md_closes 49 = .ok (.iastore, 1) := by decide +kernel
theorem d_Md_closes_50 : decode b_Md_closes 50 = .ok (.return_, 1) := by decide +kernel
theorem d_Md_charge_0 : decode b_Md_charge 0 = .ok (.aload_n 0, 1) := by decide +kernel
theorem d_Md_charge_1 : decode b_Md_charge 1 = .ok (.iload_n 1, 1) := by decide +kernel
theorem d_Md_charge_2 : decode b_Md_charge 2 = .ok (.invokestatic 75, 3) := by decide +kernel
theorem d_Md_charge_5 : decode b_Md_charge 5 = .ok (.ifCond .eq 13, 3) := by decide +kernel
theorem d_Md_charge_8 : decode b_Md_charge 8 = .ok (.lload_n 2, 1) := by decide +kernel
theorem d_Md_charge_9 : decode b_Md_charge 9 = .ok (.lconst 1, 1) := by decide +kernel
theorem d_Md_charge_10 : decode b_Md_charge 10 = .ok (.lcmp, 1) := by decide +kernel
theorem d_Md_charge_11 : decode b_Md_charge 11 = .ok (.ifCond .lt 7, 3) := by decide +kernel
theorem d_Md_charge_14 : decode b_Md_charge 14 = .ok (.iconst 1, 1) := by decide +kernel
theorem d_Md_charge_15 : decode b_Md_charge 15 = .ok (.goto 4, 3) := by decide +kernel
theorem d_Md_charge_18 : decode b_Md_charge 18 = .ok (.iconst 0, 1) := by decide +kernel
theorem d_Md_charge_19 : decode b_Md_charge 19 = .ok (.invokevirtual 83, 3) := by decide +kernel
theorem d_Md_charge_22 : decode b_Md_charge 22 = .ok (.ifCond .ne 5, 3) := by decide +kernel
theorem d_Md_charge_25 : decode b_Md_charge 25 = .ok (.iconst 0, 1) := by decide +kernel
theorem d_Md_charge_26 : decode b_Md_charge 26 = .ok (.ireturn, 1) := by decide +kernel
theorem d_Md_charge_27 : decode b_Md_charge 27 = .ok (.aload_n 0, 1) := by decide +kernel
theorem d_Md_charge_28 : decode b_Md_charge 28 = .ok (.iload_n 1, 1) := by decide +kernel
theorem d_Md_charge_29 : decode b_Md_charge 29 = .ok (.invokevirtual 87, 3) := by decide +kernel
theorem d_Md_charge_32 : decode b_Md_charge 32 = .ok (.istore 4, 2) := by decide +kernel
theorem d_Md_charge_34 : decode b_Md_charge 34 = .ok (.iload 4, 2) := by decide +kernel
theorem d_Md_charge_36 : decode b_Md_charge 36 = .ok (.ifCond .ge 6, 3) := by decide +kernel
theorem d_Md_charge_39 : decode b_Md_charge 39 = .ok (.bipush (-6), 2) := by decide +kernel
theorem d_Md_charge_41 : decode b_Md_charge 41 = .ok (.ireturn, 1) := by decide +kernel
theorem d_Md_charge_42 : decode b_Md_charge 42 = .ok (.aload_n 0, 1) := by decide +kernel
theorem d_Md_charge_43 : decode b_Md_charge 43 = .ok (.getfield 23, 3) := by decide +kernel
theorem d_Md_charge_46 : decode b_Md_charge 46 = .ok (.iload 4, 2) := by decide +kernel
theorem d_Md_charge_48 : decode b_Md_charge 48 = .ok (.iaload, 1) := by decide +kernel
theorem d_Md_charge_49 : decode b_Md_charge 49 = .ok (.iconst 3, 1) := by decide +kernel
theorem d_Md_charge_50 : decode b_Md_charge 50 = .ok (.if_icmp .ne 13, 3) := by decide +kernel
theorem d_Md_charge_53 : decode b_Md_charge 53 = .ok (.aload_n 0, 1) := by decide +kernel
theorem d_Md_charge_54 : decode b_Md_charge 54 = .ok (.getfield 38, 3) := by decide +kernel
theorem d_Md_charge_57 : decode b_Md_charge 57 = .ok (.iload 4, 2) := by decide +kernel
theorem d_Md_charge_59 : decode b_Md_charge 59 = .ok (.iaload, 1) := by decide +kernel
theorem d_Md_charge_60 : decode b_Md_charge 60 = .ok (.ifCond .eq 6, 3) := by decide +kernel
theorem d_Md_charge_63 : decode b_Md_charge 63 = .ok (.bipush (-9), 2) := by decide +kernel
theorem d_Md_charge_65 : decode b_Md_charge 65 = .ok (.ireturn, 1) := by decide +kernel
theorem d_Md_charge_66 : decode b_Md_charge 66 = .ok (.aload_n 0, 1) := by decide +kernel
theorem d_Md_charge_67 : decode b_Md_charge 67 = .ok (.getfield 104, 3) := by decide +kernel
theorem d_Md_charge_70 : decode b_Md_charge 70 = .ok (.aload_n 0, 1) := by decide +kernel
theorem d_Md_charge_71 : decode b_Md_charge 71 = .ok (.getfield 35, 3) := by decide +kernel
theorem d_Md_charge_74 : decode b_Md_charge 74 = .ok (.iload 4, 2) := by decide +kernel
theorem d_Md_charge_76 : decode b_Md_charge 76 = .ok (.iaload, 1) := by decide +kernel
theorem d_Md_charge_77 : decode b_Md_charge 77 = .ok (.aload_n 0, 1) := by decide +kernel
theorem d_Md_charge_78 : decode b_Md_charge 78 = .ok (.getfield 51, 3) := by decide +kernel
theorem d_Md_charge_81 : decode b_Md_charge 81 = .ok (.iadd, 1) := by decide +kernel
theorem d_Md_charge_82 : decode b_Md_charge 82 = .ok (.if_icmp .le 6, 3) := by decide +kernel
theorem d_Md_charge_85 : decode b_Md_charge 85 = .ok (.bipush (-10), 2) := by decide +kernel
theorem d_Md_charge_87 : decode b_Md_charge 87 = .ok (.ireturn, 1) := by decide +kernel
theorem d_Md_charge_88 : decode b_Md_charge 88 = .ok (.lload_n 2, 1) := by decide +kernel
theorem d_Md_charge_89 : decode b_Md_charge 89 = .ok (.aload_n 0, 1) := by decide +kernel
theorem d_Md_charge_90 : decode b_Md_charge 90 = .ok (.getfield 29, 3) := by decide +kernel
theorem d_Md_charge_93 : decode b_Md_charge 93 = .ok (.iload 4, 2) := by decide +kernel
theorem d_Md_charge_95 : decode b_Md_charge 95 = .ok (.laload, 1) := by decide +kernel
theorem d_Md_charge_96 : decode b_Md_charge 96 = .ok (.lcmp, 1) := by decide +kernel
theorem d_Md_charge_97 : decode b_Md_charge 97 = .ok (.ifCond .le 6, 3) := by decide +kernel
theorem d_Md_charge_100 : decode b_Md_charge 100 = .ok (.bipush (-11), 2) := by decide +kernel
theorem d_Md_charge_102 : decode b_Md_charge 102 = .ok (.ireturn, 1) := by decide +kernel
theorem d_Md_charge_103 : decode b_Md_charge 103 = .ok (.aload_n 0, 1) := by decide +kernel
theorem d_Md_charge_104 : decode b_Md_charge 104 = .ok (.getfield 38, 3) := by decide +kernel
theorem d_Md_charge_107 : decode b_Md_charge 107 = .ok (.iload 4, 2) := by decide +kernel
theorem d_Md_charge_109 : decode b_Md_charge 109 = .ok (.iconst 1, 1) := by decide +kernel
theorem d_Md_charge_110 : decode b_Md_charge 110 = .ok (.iastore, 1) := by decide +kernel
theorem d_Md_charge_111 : decode b_Md_charge 111 = .ok (.aload_n 0, 1) := by decide +kernel
theorem d_Md_charge_112 : decode b_Md_charge 112 = .ok (.getfield 41, 3) := by decide +kernel
theorem d_Md_charge_115 : decode b_Md_charge 115 = .ok (.iload 4, 2) := by decide +kernel
theorem d_Md_charge_117 : decode b_Md_charge 117 = .ok (.lload_n 2, 1) := by decide +kernel
theorem d_Md_charge_118 : decode b_Md_charge 118 = .ok (.lastore, 1) := by decide +kernel
theorem d_Md_charge_119 : decode b_Md_charge 119 = .ok (.aload_n 0, 1) := by decide +kernel
theorem d_Md_charge_120 : decode b_Md_charge 120 = .ok (.getfield 44, 3) := by decide +kernel
theorem d_Md_charge_123 : decode b_Md_charge 123 = .ok (.iload 4, 2) := by decide +kernel
theorem d_Md_charge_125 : decode b_Md_charge 125 = .ok (.aload_n 0, 1) := by decide +kernel
theorem d_Md_charge_126 : decode b_Md_charge 126 = .ok (.getfield 104, 3) := by decide +kernel
theorem d_Md_charge_129 : decode b_Md_charge 129 = .ok (.aload_n 0, 1) := by decide +kernel
theorem d_Md_charge_130 : decode b_Md_charge 130 = .ok (.getfield 51, 3) := by decide +kernel
theorem d_Md_charge_133 : decode b_Md_charge 133 = .ok (.iadd, 1) := by decide +kernel
theorem d_Md_charge_134 : decode b_Md_charge 134 = .ok (.iastore, 1) := by decide +kernel
theorem d_Md_charge_135 : decode b_Md_charge 135 = .ok (.aload_n 0, 1) := by decide +kernel
theorem d_Md_charge_136 : decode b_Md_charge 136 = .ok (.getfield 7, 3) := by decide +kernel
theorem d_Md_charge_139 : decode b_Md_charge 139 = .ok (.aload_n 0, 1) := by decide +kernel
theorem d_Md_charge_140 : decode b_Md_charge 140 = .ok (.getfield 20, 3) := by decide +kernel
theorem d_Md_charge_143 : decode b_Md_charge 143 = .ok (.iload 4, 2) := by decide +kernel
theorem d_Md_charge_145 : decode b_Md_charge 145 = .ok (.iaload, 1) := by decide +kernel
theorem d_Md_charge_146 : decode b_Md_charge 146 = .ok (.dup2, 1) := by decide +kernel
theorem d_Md_charge_147 : decode b_Md_charge 147 = .ok (.laload, 1) := by decide +kernel
theorem d_Md_charge_148 : decode b_Md_charge 148 = .ok (.lload_n 2, 1) := by decide +kernel
theorem d_Md_charge_149 : decode b_Md_charge 149 = .ok (.ladd, 1) := by decide +kernel
theorem d_Md_charge_150 : decode b_Md_charge 150 = .ok (.lastore, 1) := by decide +kernel
theorem d_Md_charge_151 : decode b_Md_charge 151 = .ok (.iconst 1, 1) := by decide +kernel
theorem d_Md_charge_152 : decode b_Md_charge 152 = .ok (.ireturn, 1) := by decide +kernel
theorem d_Md_represent_0 : decode b_Md_represent 0 = .ok (.aload_n 0, 1) := by decide +kernel
theorem d_Md_represent_1 : decode b_Md_represent 1 = .ok (.iload_n 1, 1) := by decide +kernel
theorem d_Md_represent_2 : decode b_Md_represent 2 = .ok (.invokestatic 75, 3) := by decide +kernel
theorem d_Md_represent_5 : decode b_Md_represent 5 = .ok (.invokevirtual 83, 3) := by decide +kernel
theorem d_Md_represent_8 : decode b_Md_represent 8 = .ok (.ifCond .ne 5, 3) := by decide +kernel
theorem d_Md_represent_11 : decode b_Md_represent 11 = .ok (.iconst 0, 1) := by decide +kernel
theorem d_Md_represent_12 : decode b_Md_represent 12 = .ok (.ireturn, 1) := by decide +kernel
theorem d_Md_represent_13 : decode b_Md_represent 13 = .ok (.aload_n 0, 1) := by decide +kernel
theorem d_Md_represent_14 : decode b_Md_represent 14 = .ok (.iload_n 1, 1) := by decide +kernel
theorem d_Md_represent_15 : decode b_Md_represent 15 = .ok (.invokevirtual 87, 3) := by decide +kernel
theorem d_Md_represent_18 : decode b_Md_represent 18 = .ok (.istore_n 2, 1) := by decide +kernel
theorem d_Md_represent_19 : decode b_Md_represent 19 = .ok (.iload_n 2, 1) := by decide +kernel
theorem d_Md_represent_20 : decode b_Md_represent 20 = .ok (.ifCond .lt 13, 3) := by decide +kernel
theorem d_Md_represent_23 : decode b_Md_represent 23 = .ok (.aload_n 0, 1) := by decide +kernel
theorem d_Md_represent_24 : decode b_Md_represent 24 = .ok (.getfield 38, 3) := by decide +kernel
theorem d_Md_represent_27 : decode b_Md_represent 27 = .ok (.iload_n 2, 1) := by decide +kernel
theorem d_Md_represent_28 : decode b_Md_represent 28 = .ok (.iaload, 1) := by decide +kernel
theorem d_Md_represent_29 : decode b_Md_represent 29 = .ok (.iconst 1, 1) := by decide +kernel
theorem d_Md_represent_30 : decode b_Md_represent 30 = .ok (.if_icmp .eq 15, 3) := by decide +kernel
theorem d_Md_represent_33 : decode b_Md_represent 33 = .ok (.iload_n 2, 1) := by decide +kernel
theorem d_Md_represent_34 : decode b_Md_represent 34 = .ok (.ifCond .ge 8, 3) := by decide +kernel
theorem d_Md_represent_37 : decode b_Md_represent 37 = .ok (.bipush (-6), 2) := by decide +kernel
theorem d_Md_represent_39 : decode b_Md_represent 39 = .ok (.goto 5, 3) := by decide +kernel
theorem d_Md_represent_42 : decode b_Md_represent 42 = .ok (.bipush (-9), 2) := by decide +kernel
theorem d_Md_represent_44 : decode b_Md_represent 44 = .ok (.ireturn, 1) := by decide +kernel
theorem d_Md_represent_45 : decode b_Md_represent 45 = .ok (.aload_n 0, 1) := by decide +kernel
theorem d_Md_represent_46 : decode b_Md_represent 46 = .ok (.getfield 38, 3) := by decide +kernel
theorem d_Md_represent_49 : decode b_Md_represent 49 = .ok (.iload_n 2, 1) := by decide +kernel
theorem d_Md_represent_50 : decode b_Md_represent 50 = .ok (.iconst 2, 1) := by decide +kernel
theorem d_Md_represent_51 : decode b_Md_represent 51 = .ok (.iastore, 1) := by decide +kernel
theorem d_Md_represent_52 : decode b_Md_represent 52 = .ok (.aload_n 0, 1) := by decide +kernel
theorem d_Md_represent_53 : decode b_Md_represent 53 = .ok (.getfield 44, 3) := by decide +kernel
theorem d_Md_represent_56 : decode b_Md_represent 56 = .ok (.iload_n 2, 1) := by decide +kernel
theorem d_Md_represent_57 : decode b_Md_represent 57 = .ok (.aload_n 0, 1) := by decide +kernel
theorem d_Md_represent_58 : decode b_Md_represent 58 = .ok (.getfield 104, 3) := by decide +kernel
theorem d_Md_represent_61 : decode b_Md_represent 61 = .ok (.aload_n 0, 1) := by decide +kernel
theorem d_Md_represent_62 : decode b_Md_represent 62 = .ok (.getfield 51, 3) := by decide +kernel
theorem d_Md_represent_65 : decode b_Md_represent 65 = .ok (.iadd, 1) := by decide +kernel
theorem d_Md_represent_66 : decode b_Md_represent 66 = .ok (.iastore, 1) := by decide +kernel
theorem d_Md_represent_67 : decode b_Md_represent 67 = .ok (.iconst 1, 1) := by decide +kernel
theorem d_Md_represent_68 : decode b_Md_represent 68 = .ok (.ireturn, 1) := by decide +kernel
theorem d_Md_decide_0 : decode b_Md_decide 0 = .ok (.aload_n 0, 1) := by decide +kernel
theorem d_Md_decide_1 : decode b_Md_decide 1 = .ok (.iload_n 1, 1) := by decide +kernel
theorem d_Md_decide_2 : decode b_Md_decide 2 = .ok (.invokestatic 75, 3) := by decide +kernel
theorem d_Md_decide_5 : decode b_Md_decide 5 = .ok (.invokevirtual 83, 3) := by decide +kernel
theorem d_Md_decide_8 : decode b_Md_decide 8 = .ok (.ifCond .ne 5, 3) := by decide +kernel
theorem d_Md_decide_11 : decode b_Md_decide 11 = .ok (.iconst 0, 1) := by decide +kernel
theorem d_Md_decide_12 : decode b_Md_decide 12 = .ok (.ireturn, 1) := by decide +kernel
theorem d_Md_decide_13 : decode b_Md_decide 13 = .ok (.aload_n 0, 1) := by decide +kernel
theorem d_Md_decide_14 : decode b_Md_decide 14 = .ok (.iload_n 1, 1) := by decide +kernel
theorem d_Md_decide_15 : decode b_Md_decide 15 = .ok (.invokevirtual 87, 3) := by decide +kernel
theorem d_Md_decide_18 : decode b_Md_decide 18 = .ok (.istore_n 3, 1) := by decide +kernel
theorem d_Md_decide_19 : decode b_Md_decide 19 = .ok (.iload_n 3, 1) := by decide +kernel
theorem d_Md_decide_20 : decode b_Md_decide 20 = .ok (.ifCond .lt 13, 3) := by decide +kernel
theorem d_Md_decide_23 : decode b_Md_decide 23 = .ok (.aload_n 0, 1) := by decide +kernel
theorem d_Md_decide_24 : decode b_Md_decide 24 = .ok (.getfield 38, 3) := by decide +kernel
theorem d_Md_decide_27 : decode b_Md_decide 27 = .ok (.iload_n 3, 1) := by decide +kernel
theorem d_Md_decide_28 : decode b_Md_decide 28 = .ok (.iaload, 1) := by decide +kernel
theorem d_Md_decide_29 : decode b_Md_decide 29 = .ok (.iconst 2, 1) := by decide +kernel
theorem d_Md_decide_30 : decode b_Md_decide 30 = .ok (.if_icmp .eq 15, 3) := by decide +kernel
theorem d_Md_decide_33 : decode b_Md_decide 33 = .ok (.iload_n 3, 1) := by decide +kernel
theorem d_Md_decide_34 : decode b_Md_decide 34 = .ok (.ifCond .ge 8, 3) := by decide +kernel
theorem d_Md_decide_37 : decode b_Md_decide 37 = .ok (.bipush (-6), 2) := by decide +kernel
theorem d_Md_decide_39 : decode b_Md_decide 39 = .ok (.goto 5, 3) := by decide +kernel
theorem d_Md_decide_42 : decode b_Md_decide 42 = .ok (.bipush (-9), 2) := by decide +kernel
theorem d_Md_decide_44 : decode b_Md_decide 44 = .ok (.ireturn, 1) := by decide +kernel
theorem d_Md_decide_45 : decode b_Md_decide 45 = .ok (.aload_n 0, 1) := by decide +kernel
theorem d_Md_decide_46 : decode b_Md_decide 46 = .ok (.iload_n 3, 1) := by decide +kernel
theorem d_Md_decide_47 : decode b_Md_decide 47 = .ok (.iload_n 2, 1) := by decide +kernel
theorem d_Md_decide_48 : decode b_Md_decide 48 = .ok (.invokevirtual 117, 3) := by decide +kernel
theorem d_Md_decide_51 : decode b_Md_decide 51 = .ok (.iconst 1, 1) := by decide +kernel
theorem d_Md_decide_52 : decode b_Md_decide 52 = .ok (.ireturn, 1) := by decide +kernel
theorem d_Md_forget_0 : decode b_Md_forget 0 = .ok (.aload_n 0, 1) := by decide +kernel
theorem d_Md_forget_1 : decode b_Md_forget 1 = .ok (.iconst 0, 1) := by decide +kernel
theorem d_Md_forget_2 : decode b_Md_forget 2 = .ok (.putfield 54, 3) := by decide +kernel
theorem d_Md_forget_5 : decode b_Md_forget 5 = .ok (.iconst 0, 1) := by decide +kernel
theorem d_Md_forget_6 : decode b_Md_forget 6 = .ok (.istore_n 1, 1) := by decide +kernel
theorem d_Md_forget_7 : decode b_Md_forget 7 = .ok (.iconst 0, 1) := by decide +kernel
theorem d_Md_forget_8 : decode b_Md_forget 8 = .ok (.istore_n 2, 1) := by decide +kernel
theorem d_Md_forget_9 : decode b_Md_forget 9 = .ok (.iload_n 2, 1) := by decide +kernel
theorem d_Md_forget_10 : decode b_Md_forget 10 = .ok (.aload_n 0, 1) := by decide +kernel
theorem d_Md_forget_11 : decode b_Md_forget 11 = .ok (.getfield 60, 3) := by decide +kernel
theorem d_Md_forget_14 : decode b_Md_forget 14 = .ok (.if_icmp .ge 140, 3) := by decide +kernel
theorem d_Md_forget_17 : decode b_Md_forget 17 = .ok (.aload_n 0, 1) := by decide +kernel
theorem d_Md_forget_18 : decode b_Md_forget 18 = .ok (.iload_n 2, 1) := by decide +kernel
theorem d_Md_forget_19 : decode b_Md_forget 19 = .ok (.invokevirtual 121, 3) := by decide +kernel
theorem d_Md_forget_22 : decode b_Md_forget 22 = .ok (.ifCond .eq 126, 3) := by decide +kernel
theorem d_Md_forget_25 : decode b_Md_forget 25 = .ok (.aload_n 0, 1) := by decide +kernel
theorem d_Md_forget_26 : decode b_Md_forget 26 = .ok (.getfield 16, 3) := by decide +kernel
theorem d_Md_forget_29 : decode b_Md_forget 29 = .ok (.iload_n 1, 1) := by decide +kernel
theorem d_Md_forget_30 : decode b_Md_forget 30 = .ok (.aload_n 0, 1) := by decide +kernel
theorem d_Md_forget_31 : decode b_Md_forget 31 = .ok (.getfield 16, 3) := by decide +kernel
theorem d_Md_forget_34 : decode b_Md_forget 34 = .ok (.iload_n 2, 1) := by decide +kernel
theorem d_Md_forget_35 : decode b_Md_forget 35 = .ok (.iaload, 1) := by decide +kernel
theorem d_Md_forget_36 : decode b_Md_forget 36 = .ok (.iastore, 1) := by decide +kernel
theorem d_Md_forget_37 : decode b_Md_forget 37 = .ok (.aload_n 0, 1) := by decide +kernel
theorem d_Md_forget_38 : decode b_Md_forget 38 = .ok (.getfield 20, 3) := by decide +kernel
theorem d_Md_forget_41 : decode b_Md_forget 41 = .ok (.iload_n 1, 1) := by decide +kernel
theorem d_Md_forget_42 : decode b_Md_forget 42 = .ok (.aload_n 0, 1) := by decide +kernel
theorem d_Md_forget_43 : decode b_Md_forget 43 = .ok (.getfield 20, 3) := by decide +kernel
theorem d_Md_forget_46 : decode b_Md_forget 46 = .ok (.iload_n 2, 1) := by decide +kernel
theorem d_Md_forget_47 : decode b_Md_forget 47 = .ok (.iaload, 1) := by decide +kernel
theorem d_Md_forget_48 : decode b_Md_forget 48 = .ok (.iastore, 1) := by decide +kernel
theorem d_Md_forget_49 : decode b_Md_forget 49 = .ok (.aload_n 0, 1) := by decide +kernel
theorem d_Md_forget_50 : decode b_Md_forget 50 = .ok (.getfield 23, 3) := by decide +kernel
theorem d_Md_forget_53 : decode b_Md_forget 53 = .ok (.iload_n 1, 1) := by decide +kernel
theorem d_Md_forget_54 : decode b_Md_forget 54 = .ok (.aload_n 0, 1) := by decide +kernel
theorem d_Md_forget_55 : decode b_Md_forget 55 = .ok (.getfield 23, 3) := by decide +kernel
theorem d_Md_forget_58 : decode b_Md_forget 58 = .ok (.iload_n 2, 1) := by decide +kernel
theorem d_Md_forget_59 : decode b_Md_forget 59 = .ok (.iaload, 1) := by decide +kernel
theorem d_Md_forget_60 : decode b_Md_forget 60 = .ok (.iastore, 1) := by decide +kernel
theorem d_Md_forget_61 : decode b_Md_forget 61 = .ok (.aload_n 0, 1) := by decide +kernel
theorem d_Md_forget_62 : decode b_Md_forget 62 = .ok (.getfield 26, 3) := by decide +kernel
theorem d_Md_forget_65 : decode b_Md_forget 65 = .ok (.iload_n 1, 1) := by decide +kernel
theorem d_Md_forget_66 : decode b_Md_forget 66 = .ok (.aload_n 0, 1) := by decide +kernel
theorem d_Md_forget_67 : decode b_Md_forget 67 = .ok (.getfield 26, 3) := by decide +kernel
theorem d_Md_forget_70 : decode b_Md_forget 70 = .ok (.iload_n 2, 1) := by decide +kernel
theorem d_Md_forget_71 : decode b_Md_forget 71 = .ok (.laload, 1) := by decide +kernel
theorem d_Md_forget_72 : decode b_Md_forget 72 = .ok (.lastore, 1) := by decide +kernel
theorem d_Md_forget_73 : decode b_Md_forget 73 = .ok (.aload_n 0, 1) := by decide +kernel
theorem d_Md_forget_74 : decode b_Md_forget 74 = .ok (.getfield 29, 3) := by decide +kernel
theorem d_Md_forget_77 : decode b_Md_forget 77 = .ok (.iload_n 1, 1) := by decide +kernel
theorem d_Md_forget_78 : decode b_Md_forget 78 = .ok (.aload_n 0, 1) := by decide +kernel
theorem d_Md_forget_79 : decode b_Md_forget 79 = .ok (.getfield 29, 3) := by decide +kernel
theorem d_Md_forget_82 : decode b_Md_forget 82 = .ok (.iload_n 2, 1) := by decide +kernel
theorem d_Md_forget_83 : decode b_Md_forget 83 = .ok (.laload, 1) := by decide +kernel
theorem d_Md_forget_84 : decode b_Md_forget 84 = .ok (.lastore, 1) := by decide +kernel
theorem d_Md_forget_85 : decode b_Md_forget 85 = .ok (.aload_n 0, 1) := by decide +kernel
theorem d_Md_forget_86 : decode b_Md_forget 86 = .ok (.getfield 32, 3) := by decide +kernel
theorem d_Md_forget_89 : decode b_Md_forget 89 = .ok (.iload_n 1, 1) := by decide +kernel
theorem d_Md_forget_90 : decode b_Md_forget 90 = .ok (.aload_n 0, 1) := by decide +kernel
theorem d_Md_forget_91 : decode b_Md_forget 91 = .ok (.getfield 32, 3) := by decide +kernel
theorem d_Md_forget_94 : decode b_Md_forget 94 = .ok (.iload_n 2, 1) := by decide +kernel
theorem d_Md_forget_95 : decode b_Md_forget 95 = .ok (.iaload, 1) := by decide +kernel
theorem d_Md_forget_96 : decode b_Md_forget 96 = .ok (.iastore, 1) := by decide +kernel
theorem d_Md_forget_97 : decode b_Md_forget 97 = .ok (.aload_n 0, 1) := by decide +kernel
theorem d_Md_forget_98 : decode b_Md_forget 98 = .ok (.getfield 35, 3) := by decide +kernel
theorem d_Md_forget_101 : decode b_Md_forget 101 = .ok (.iload_n 1, 1) := by decide +kernel
theorem d_Md_forget_102 : decode b_Md_forget 102 = .ok (.aload_n 0, 1) := by decide +kernel
theorem d_Md_forget_103 : decode b_Md_forget 103 = .ok (.getfield 35, 3) := by decide +kernel
theorem d_Md_forget_106 : decode b_Md_forget 106 = .ok (.iload_n 2, 1) := by decide +kernel
theorem d_Md_forget_107 : decode b_Md_forget 107 = .ok (.iaload, 1) := by decide +kernel
theorem d_Md_forget_108 : decode b_Md_forget 108 = .ok (.iastore, 1) := by decide +kernel
theorem d_Md_forget_109 : decode b_Md_forget 109 = .ok (.aload_n 0, 1) := by decide +kernel
theorem d_Md_forget_110 : decode b_Md_forget 110 = .ok (.getfield 38, 3) := by decide +kernel
theorem d_Md_forget_113 : decode b_Md_forget 113 = .ok (.iload_n 1, 1) := by decide +kernel
theorem d_Md_forget_114 : decode b_Md_forget 114 = .ok (.aload_n 0, 1) := by decide +kernel
theorem d_Md_forget_115 : decode b_Md_forget 115 = .ok (.getfield 38, 3) := by decide +kernel
theorem d_Md_forget_118 : decode b_Md_forget 118 = .ok (.iload_n 2, 1) := by decide +kernel
theorem d_Md_forget_119 : decode b_Md_forget 119 = .ok (.iaload, 1) := by decide +kernel
theorem d_Md_forget_120 : decode b_Md_forget 120 = .ok (.iastore, 1) := by decide +kernel
theorem d_Md_forget_121 : decode b_Md_forget 121 = .ok (.aload_n 0, 1) := by decide +kernel
theorem d_Md_forget_122 : decode b_Md_forget 122 = .ok (.getfield 41, 3) := by decide +kernel
theorem d_Md_forget_125 : decode b_Md_forget 125 = .ok (.iload_n 1, 1) := by decide +kernel
theorem d_Md_forget_126 : decode b_Md_forget 126 = .ok (.aload_n 0, 1) := by decide +kernel
theorem d_Md_forget_127 : decode b_Md_forget 127 = .ok (.getfield 41, 3) := by decide +kernel
theorem d_Md_forget_130 : decode b_Md_forget 130 = .ok (.iload_n 2, 1) := by decide +kernel
theorem d_Md_forget_131 : decode b_Md_forget 131 = .ok (.laload, 1) := by decide +kernel
theorem d_Md_forget_132 : decode b_Md_forget 132 = .ok (.lastore, 1) := by decide +kernel
theorem d_Md_forget_133 : decode b_Md_forget 133 = .ok (.aload_n 0, 1) := by decide +kernel
theorem d_Md_forget_134 : decode b_Md_forget 134 = .ok (.getfield 44, 3) := by decide +kernel
theorem d_Md_forget_137 : decode b_Md_forget 137 = .ok (.iload_n 1, 1) := by decide +kernel
theorem d_Md_forget_138 : decode b_Md_forget 138 = .ok (.aload_n 0, 1) := by decide +kernel
theorem d_Md_forget_139 : decode b_Md_forget 139 = .ok (.getfield 44, 3) := by decide +kernel
theorem d_Md_forget_142 : decode b_Md_forget 142 = .ok (.iload_n 2, 1) := by decide +kernel
theorem d_Md_forget_143 : decode b_Md_forget 143 = .ok (.iaload, 1) := by decide +kernel
theorem d_Md_forget_144 : decode b_Md_forget 144 = .ok (.iastore, 1) := by decide +kernel
theorem d_Md_forget_145 : decode b_Md_forget 145 = .ok (.iinc 1 1, 3) := by decide +kernel
theorem d_Md_forget_148 : decode b_Md_forget 148 = .ok (.iinc 2 1, 3) := by decide +kernel
theorem d_Md_forget_151 : decode b_Md_forget 151 = .ok (.goto (-142), 3) := by decide +kernel
theorem d_Md_forget_154 : decode b_Md_forget 154 = .ok (.aload_n 0, 1) := by decide +kernel
theorem d_Md_forget_155 : decode b_Md_forget 155 = .ok (.getfield 60, 3) := by decide +kernel
theorem d_Md_forget_158 : decode b_Md_forget 158 = .ok (.iload_n 1, 1) := by decide +kernel
theorem d_Md_forget_159 : decode b_Md_forget 159 = .ok (.isub, 1) := by decide +kernel
theorem d_Md_forget_160 : decode b_Md_forget 160 = .ok (.istore_n 2, 1) := by decide +kernel
theorem d_Md_forget_161 : decode b_Md_forget 161 = .ok (.aload_n 0, 1) := by decide +kernel
theorem d_Md_forget_162 : decode b_Md_forget 162 = .ok (.iload_n 1, 1) := by decide +kernel
theorem d_Md_forget_163 : decode b_Md_forget 163 = .ok (.putfield 60, 3) := by decide +kernel
theorem d_Md_forget_166 : decode b_Md_forget 166 = .ok (.iload_n 2, 1) := by decide +kernel
theorem d_Md_forget_167 : decode b_Md_forget 167 = .ok (.ireturn, 1) := by decide +kernel
theorem d_Md_stays_0 : decode b_Md_stays 0 = .ok (.aload_n 0, 1) := by decide +kernel
theorem d_Md_stays_1 : decode b_Md_stays 1 = .ok (.getfield 23, 3) := by decide +kernel
theorem d_Md_stays_4 : decode b_Md_stays 4 = .ok (.iload_n 1, 1) := by decide +kernel
theorem d_Md_stays_5 : decode b_Md_stays 5 = .ok (.iaload, 1) := by decide +kernel
theorem d_Md_stays_6 : decode b_Md_stays 6 = .ok (.iconst 3, 1) := by decide +kernel
theorem d_Md_stays_7 : decode b_Md_stays 7 = .ok (.if_icmp .ne 36, 3) := by decide +kernel
theorem d_Md_stays_10 : decode b_Md_stays 10 = .ok (.aload_n 0, 1) := by decide +kernel
theorem d_Md_stays_11 : decode b_Md_stays 11 = .ok (.getfield 38, 3) := by decide +kernel
theorem d_Md_stays_14 : decode b_Md_stays 14 = .ok (.iload_n 1, 1) := by decide +kernel
theorem d_Md_stays_15 : decode b_Md_stays 15 = .ok (.iaload, 1) := by decide +kernel
theorem d_Md_stays_16 : decode b_Md_stays 16 = .ok (.ifCond .ne 27, 3) := by decide +kernel
theorem d_Md_stays_19 : decode b_Md_stays 19 = .ok (.aload_n 0, 1) := by decide +kernel
theorem d_Md_stays_20 : decode b_Md_stays 20 = .ok (.getfield 104, 3) := by decide +kernel
theorem d_Md_stays_23 : decode b_Md_stays 23 = .ok (.aload_n 0, 1) := by decide +kernel
theorem d_Md_stays_24 : decode b_Md_stays 24 = .ok (.getfield 35, 3) := by decide +kernel
theorem d_Md_stays_27 : decode b_Md_stays 27 = .ok (.iload_n 1, 1) := by decide +kernel
theorem d_Md_stays_28 : decode b_Md_stays 28 = .ok (.iaload, 1) := by decide +kernel
theorem d_Md_stays_29 : decode b_Md_stays 29 = .ok (.aload_n 0, 1) := by decide +kernel
theorem d_Md_stays_30 : decode b_Md_stays 30 = .ok (.getfield 51, 3) := by decide +kernel
theorem d_Md_stays_33 : decode b_Md_stays 33 = .ok (.iadd, 1) := by decide +kernel
theorem d_Md_stays_34 : decode b_Md_stays 34 = .ok (.if_icmp .gt 7, 3) := by decide +kernel
theorem d_Md_stays_37 : decode b_Md_stays 37 = .ok (.iconst 1, 1) := by decide +kernel
theorem d_Md_stays_38 : decode b_Md_stays 38 = .ok (.goto 4, 3) := by decide +kernel
theorem d_Md_stays_41 : decode b_Md_stays 41 = .ok (.iconst 0, 1) := by decide +kernel
theorem d_Md_stays_42 : decode b_Md_stays 42 = .ok (.ireturn, 1) := by decide +kernel
theorem d_Md_stays_43 : decode b_Md_stays 43 = .ok (.aload_n 0, 1) := by decide +kernel
theorem d_Md_stays_44 : decode b_Md_stays 44 = .ok (.getfield 23, 3) := by decide +kernel
theorem d_Md_stays_47 : decode b_Md_stays 47 = .ok (.iload_n 1, 1) := by decide +kernel
theorem d_Md_stays_48 : decode b_Md_stays 48 = .ok (.iaload, 1) := by decide +kernel
theorem d_Md_stays_49 : decode b_Md_stays 49 = .ok (.iconst 1, 1) := by decide +kernel
theorem d_Md_stays_50 : decode b_Md_stays 50 = .ok (.if_icmp .eq 23, 3) := by decide +kernel
theorem d_Md_stays_53 : decode b_Md_stays 53 = .ok (.aload_n 0, 1) := by decide +kernel
theorem d_Md_stays_54 : decode b_Md_stays 54 = .ok (.getfield 38, 3) := by decide +kernel
theorem d_Md_stays_57 : decode b_Md_stays 57 = .ok (.iload_n 1, 1) := by decide +kernel
theorem d_Md_stays_58 : decode b_Md_stays 58 = .ok (.iaload, 1) := by decide +kernel
theorem d_Md_stays_59 : decode b_Md_stays 59 = .ok (.iconst 1, 1) := by decide +kernel
theorem d_Md_stays_60 : decode b_Md_stays 60 = .ok (.if_icmp .eq 13, 3) := by decide +kernel
theorem d_Md_stays_63 : decode b_Md_stays 63 = .ok (.aload_n 0, 1) := by decide +kernel
theorem d_Md_stays_64 : decode b_Md_stays 64 = .ok (.getfield 38, 3) := by decide +kernel
theorem d_Md_stays_67 : decode b_Md_stays 67 = .ok (.iload_n 1, 1) := by decide +kernel
theorem d_Md_stays_68 : decode b_Md_stays 68 = .ok (.iaload, 1) := by decide +kernel
theorem d_Md_stays_69 : decode b_Md_stays 69 = .ok (.iconst 2, 1) := by decide +kernel
theorem d_Md_stays_70 : decode b_Md_stays 70 = .ok (.if_icmp .ne 7, 3) := by decide +kernel
theorem d_Md_stays_73 : decode b_Md_stays 73 = .ok (.iconst 1, 1) := by decide +kernel
theorem d_Md_stays_74 : decode b_Md_stays 74 = .ok (.goto 4, 3) := by decide +kernel
theorem d_Md_stays_77 : decode b_Md_stays 77 = .ok (.iconst 0, 1) := by decide +kernel
theorem d_Md_stays_78 : decode b_Md_stays 78 = .ok (.ireturn, 1) := by decide +kernel
theorem d_Md_funds_0 : decode b_Md_funds 0 = .ok (.aload_n 0, 1) := by decide +kernel
theorem d_Md_funds_1 : decode b_Md_funds 1 = .ok (.iload_n 1, 1) := by decide +kernel
theorem d_Md_funds_2 : decode b_Md_funds 2 = .ok (.ifCond .lt 24, 3) := by decide +kernel
theorem d_Md_funds_5 : decode b_Md_funds 5 = .ok (.iload_n 1, 1) := by decide +kernel
theorem d_Md_funds_6 : decode b_Md_funds 6 = .ok (.aload_n 0, 1) := by decide +kernel
theorem d_Md_funds_7 : decode b_Md_funds 7 = .ok (.getfield 72, 3) := by decide +kernel
theorem d_Md_funds_10 : decode b_Md_funds 10 = .ok (.if_icmp .ge 16, 3) := by decide +kernel
theorem d_Md_funds_13 : decode b_Md_funds 13 = .ok (.iload_n 2, 1) := by decide +kernel
theorem d_Md_funds_14 : decode b_Md_funds 14 = .ok (.ifCond .lt 12, 3) := by decide +kernel
theorem d_Md_funds_17 : decode b_Md_funds 17 = .ok (.iload_n 2, 1) := by decide +kernel
theorem d_Md_funds_18 : decode b_Md_funds 18 = .ok (.iconst 3, 1) := by decide +kernel
theorem d_Md_funds_19 : decode b_Md_funds 19 = .ok (.if_icmp .gt 7, 3) := by decide +kernel
theorem d_Md_funds_22 : decode b_Md_funds 22 = .ok (.iconst 1, 1) := by decide +kernel
theorem d_Md_funds_23 : decode b_Md_funds 23 = .ok (.goto 4, 3) := by decide +kernel
theorem d_Md_funds_26 : decode b_Md_funds 26 = .ok (.iconst 0, 1) := by decide +kernel
theorem d_Md_funds_27 : decode b_Md_funds 27 = .ok (.invokevirtual 83, 3) := by decide +kernel
theorem d_Md_funds_30 : decode b_Md_funds 30 = .ok (.ifCond .ne 5, 3) := by decide +kernel
theorem d_Md_funds_33 : decode b_Md_funds 33 = .ok (.lconst 0, 1) := by decide +kernel
theorem d_Md_funds_34 : decode b_Md_funds 34 = .ok (.lreturn, 1) := by decide +kernel
theorem d_Md_funds_35 : decode b_Md_funds 35 = .ok (.iload_n 2, 1) := by decide +kernel
theorem d_Md_funds_36 : decode b_Md_funds 36 = .ok (.ifCond .ne 12, 3) := by decide +kernel
theorem d_Md_funds_39 : decode b_Md_funds 39 = .ok (.aload_n 0, 1) := by decide +kernel
theorem d_Md_funds_40 : decode b_Md_funds 40 = .ok (.getfield 7, 3) := by decide +kernel
theorem d_Md_funds_43 : decode b_Md_funds 43 = .ok (.iload_n 1, 1) := by decide +kernel
theorem d_Md_funds_44 : decode b_Md_funds 44 = .ok (.laload, 1) := by decide +kernel
theorem d_Md_funds_45 : decode b_Md_funds 45 = .ok (.goto 34, 3) := by decide +kernel
theorem d_Md_funds_48 : decode b_Md_funds 48 = .ok (.iload_n 2, 1) := by decide +kernel
theorem d_Md_funds_49 : decode b_Md_funds 49 = .ok (.iconst 1, 1) := by decide +kernel
theorem d_Md_funds_50 : decode b_Md_funds 50 = .ok (.if_icmp .ne 11, 3) := by decide +kernel
theorem d_Md_funds_53 : decode b_Md_funds 53 = .ok (.aload_n 0, 1) := by decide +kernel
theorem d_Md_funds_54 : decode b_Md_funds 54 = .ok (.iload_n 1, 1) := by decide +kernel
theorem d_Md_funds_55 : decode b_Md_funds 55 = .ok (.invokevirtual 63, 3) := by decide +kernel
theorem d_Md_funds_58 : decode b_Md_funds 58 = .ok (.goto 21, 3) := by decide +kernel
theorem d_Md_funds_61 : decode b_Md_funds 61 = .ok (.iload_n 2, 1) := by decide +kernel
theorem d_Md_funds_62 : decode b_Md_funds 62 = .ok (.iconst 2, 1) := by decide +kernel
theorem d_Md_funds_63 : decode b_Md_funds 63 = .ok (.if_icmp .ne 11, 3) := by decide +kernel
theorem d_Md_funds_66 : decode b_Md_funds 66 = .ok (.aload_n 0, 1) := by decide +kernel
theorem d_Md_funds_67 : decode b_Md_funds 67 = .ok (.iload_n 1, 1) := by decide +kernel
theorem d_Md_funds_68 : decode b_Md_funds 68 = .ok (.invokevirtual 67, 3) := by decide +kernel
theorem d_Md_funds_71 : decode b_Md_funds 71 = .ok (.goto 8, 3) := by decide +kernel
theorem d_Md_funds_74 : decode b_Md_funds 74 = .ok (.aload_n 0, 1) := by decide +kernel
theorem d_Md_funds_75 : decode b_Md_funds 75 = .ok (.iload_n 1, 1) := by decide +kernel
theorem d_Md_funds_76 : decode b_Md_funds 76 = .ok (.invokevirtual 95, 3) := by decide +kernel
theorem d_Md_funds_79 : decode b_Md_funds 79 = .ok (.lreturn, 1) := by decide +kernel
theorem d_Md_payment_0 : decode b_Md_payment 0 = .ok (.aload_n 0, 1) := by decide +kernel
theorem d_Md_payment_1 : decode b_Md_payment 1 = .ok (.iload_n 1, 1) := by decide +kernel
theorem d_Md_payment_2 : decode b_Md_payment 2 = .ok (.invokestatic 75, 3) := by decide +kernel
theorem d_Md_payment_5 : decode b_Md_payment 5 = .ok (.ifCond .eq 17, 3) := by decide +kernel
theorem d_Md_payment_8 : decode b_Md_payment 8 = .ok (.iload_n 2, 1) := by decide +kernel
theorem d_Md_payment_9 : decode b_Md_payment 9 = .ok (.ifCond .lt 13, 3) := by decide +kernel
theorem d_Md_payment_12 : decode b_Md_payment 12 = .ok (.iload_n 2, 1) := by decide +kernel
theorem d_Md_payment_13 : decode b_Md_payment 13 = .ok (.bipush 8, 2) := by decide +kernel
theorem d_Md_payment_15 : decode b_Md_payment 15 = .ok (.if_icmp .gt 7, 3) := by decide +kernel
theorem d_Md_payment_18 : decode b_Md_payment 18 = .ok (.iconst 1, 1) := by decide +kernel
theorem d_Md_payment_19 : decode b_Md_payment 19 = .ok (.goto 4, 3) := by decide +kernel
theorem d_Md_payment_22 : decode b_Md_payment 22 = .ok (.iconst 0, 1) := by decide +kernel
theorem d_Md_payment_23 : decode b_Md_payment 23 = .ok (.invokevirtual 83, 3) := by decide +kernel
theorem d_Md_payment_26 : decode b_Md_payment 26 = .ok (.ifCond .ne 5, 3) := by decide +kernel
theorem d_Md_payment_29 : decode b_Md_payment 29 = .ok (.lconst 0, 1) := by decide +kernel
theorem d_Md_payment_30 : decode b_Md_payment 30 = .ok (.lreturn, 1) := by decide +kernel
theorem d_Md_payment_31 : decode b_Md_payment 31 = .ok (.aload_n 0, 1) := by decide +kernel
theorem d_Md_payment_32 : decode b_Md_payment 32 = .ok (.iload_n 1, 1) := by decide +kernel
theorem d_Md_payment_33 : decode b_Md_payment 33 = .ok (.invokevirtual 87, 3) := by decide +kernel
theorem d_Md_payment_36 : decode b_Md_payment 36 = .ok (.istore_n 3, 1) := by decide +kernel
theorem d_Md_payment_37 : decode b_Md_payment 37 = .ok (.iload_n 3, 1) := by decide +kernel
theorem d_Md_payment_38 : decode b_Md_payment 38 = .ok (.ifCond .ge 15, 3) := by decide +kernel
theorem d_Md_payment_41 : decode b_Md_payment 41 = .ok (.iload_n 2, 1) := by decide +kernel
theorem d_Md_payment_42 : decode b_Md_payment 42 = .ok (.ifCond .ne 7, 3) := by decide +kernel
theorem d_Md_payment_45 : decode b_Md_payment 45 = .ok (.lconst 0, 1) := by decide +kernel
theorem d_Md_payment_46 : decode b_Md_payment 46 = .ok (.goto 6, 3) := by decide +kernel
theorem d_Md_payment_49 : decode b_Md_payment 49 = .ok (.ldc2_w 124, 3) := by decide +kernel
theorem d_Md_payment_52 : decode b_Md_payment 52 = .ok (.lreturn, 1) := by decide +kernel
theorem d_Md_payment_53 : decode b_Md_payment 53 = .ok (.iload_n 2, 1) := by decide +kernel
theorem d_Md_payment_54 : decode b_Md_payment 54 = .ok (.tableswitch 107 0 7 #[46, 54, 61, 68, 76, 84, 92, 100], 46) := by decide +kernel
theorem d_Md_payment_100 : decode b_Md_payment 100 = .ok (.aload_n 0, 1) := by decide +kernel
theorem d_Md_payment_101 : decode b_Md_payment 101 = .ok (.getfield 23, 3) := by decide +kernel
theorem d_Md_payment_104 : decode b_Md_payment 104 = .ok (.iload_n 3, 1) := by decide +kernel
theorem d_Md_payment_105 : decode b_Md_payment 105 = .ok (.iaload, 1) := by decide +kernel
theorem d_Md_payment_106 : decode b_Md_payment 106 = .ok (.i2l, 1) := by decide +kernel
theorem d_Md_payment_107 : decode b_Md_payment 107 = .ok (.lreturn, 1) := by decide +kernel
theorem d_Md_payment_108 : decode b_Md_payment 108 = .ok (.aload_n 0, 1) := by decide +kernel
theorem d_Md_payment_109 : decode b_Md_payment 109 = .ok (.getfield 26, 3) := by decide +kernel
theorem d_Md_payment_112 : decode b_Md_payment 112 = .ok (.iload_n 3, 1) := by decide +kernel
theorem d_Md_payment_113 : decode b_Md_payment 113 = .ok (.laload, 1) := by decide +kernel
theorem d_Md_payment_114 : decode b_Md_payment 114 = .ok (.lreturn, 1) := by decide +kernel
theorem d_Md_payment_115 : decode b_Md_payment 115 = .ok (.aload_n 0, 1) := by decide +kernel
theorem d_Md_payment_116 : decode b_Md_payment 116 = .ok (.getfield 29, 3) := by decide +kernel
theorem d_Md_payment_119 : decode b_Md_payment 119 = .ok (.iload_n 3, 1) := by decide +kernel
theorem d_Md_payment_120 : decode b_Md_payment 120 = .ok (.laload, 1) := by decide +kernel
theorem d_Md_payment_121 : decode b_Md_payment 121 = .ok (.lreturn, 1) := by decide +kernel
theorem d_Md_payment_122 : decode b_Md_payment 122 = .ok (.aload_n 0, 1) := by decide +kernel
theorem d_Md_payment_123 : decode b_Md_payment 123 = .ok (.getfield 32, 3) := by decide +kernel
theorem d_Md_payment_126 : decode b_Md_payment 126 = .ok (.iload_n 3, 1) := by decide +kernel
theorem d_Md_payment_127 : decode b_Md_payment 127 = .ok (.iaload, 1) := by decide +kernel
theorem d_Md_payment_128 : decode b_Md_payment 128 = .ok (.i2l, 1) := by decide +kernel
theorem d_Md_payment_129 : decode b_Md_payment 129 = .ok (.lreturn, 1) := by decide +kernel
theorem d_Md_payment_130 : decode b_Md_payment 130 = .ok (.aload_n 0, 1) := by decide +kernel
theorem d_Md_payment_131 : decode b_Md_payment 131 = .ok (.getfield 35, 3) := by decide +kernel
theorem d_Md_payment_134 : decode b_Md_payment 134 = .ok (.iload_n 3, 1) := by decide +kernel
theorem d_Md_payment_135 : decode b_Md_payment 135 = .ok (.iaload, 1) := by decide +kernel
theorem d_Md_payment_136 : decode b_Md_payment 136 = .ok (.i2l, 1) := by decide +kernel
theorem d_Md_payment_137 : decode b_Md_payment 137 = .ok (.lreturn, 1) := by decide +kernel
theorem d_Md_payment_138 : decode b_Md_payment 138 = .ok (.aload_n 0, 1) := by decide +kernel
theorem d_Md_payment_139 : decode b_Md_payment 139 = .ok (.getfield 20, 3) := by decide +kernel
theorem d_Md_payment_142 : decode b_Md_payment 142 = .ok (.iload_n 3, 1) := by decide +kernel
theorem d_Md_payment_143 : decode b_Md_payment 143 = .ok (.iaload, 1) := by decide +kernel
theorem d_Md_payment_144 : decode b_Md_payment 144 = .ok (.i2l, 1) := by decide +kernel
theorem d_Md_payment_145 : decode b_Md_payment 145 = .ok (.lreturn, 1) := by decide +kernel
theorem d_Md_payment_146 : decode b_Md_payment 146 = .ok (.aload_n 0, 1) := by decide +kernel
theorem d_Md_payment_147 : decode b_Md_payment 147 = .ok (.getfield 38, 3) := by decide +kernel
theorem d_Md_payment_150 : decode b_Md_payment 150 = .ok (.iload_n 3, 1) := by decide +kernel
theorem d_Md_payment_151 : decode b_Md_payment 151 = .ok (.iaload, 1) := by decide +kernel
theorem d_Md_payment_152 : decode b_Md_payment 152 = .ok (.i2l, 1) := by decide +kernel
theorem d_Md_payment_153 : decode b_Md_payment 153 = .ok (.lreturn, 1) := by decide +kernel
theorem d_Md_payment_154 : decode b_Md_payment 154 = .ok (.aload_n 0, 1) := by decide +kernel
theorem d_Md_payment_155 : decode b_Md_payment 155 = .ok (.getfield 41, 3) := by decide +kernel
theorem d_Md_payment_158 : decode b_Md_payment 158 = .ok (.iload_n 3, 1) := by decide +kernel
theorem d_Md_payment_159 : decode b_Md_payment 159 = .ok (.laload, 1) := by decide +kernel
theorem d_Md_payment_160 : decode b_Md_payment 160 = .ok (.lreturn, 1) := by decide +kernel
theorem d_Md_payment_161 : decode b_Md_payment 161 = .ok (.aload_n 0, 1) := by decide +kernel
theorem d_Md_payment_162 : decode b_Md_payment 162 = .ok (.getfield 44, 3) := by decide +kernel
theorem d_Md_payment_165 : decode b_Md_payment 165 = .ok (.iload_n 3, 1) := by decide +kernel
theorem d_Md_payment_166 : decode b_Md_payment 166 = .ok (.iaload, 1) := by decide +kernel
theorem d_Md_payment_167 : decode b_Md_payment 167 = .ok (.i2l, 1) := by decide +kernel
theorem d_Md_payment_168 : decode b_Md_payment 168 = .ok (.lreturn, 1) := by decide +kernel
theorem d_Md_key_0 : decode b_Md_key 0 = .ok (.aload_n 0, 1) := by decide +kernel
theorem d_Md_key_1 : decode b_Md_key 1 = .ok (.iload_n 1, 1) := by decide +kernel
theorem d_Md_key_2 : decode b_Md_key 2 = .ok (.ifCond .lt 7, 3) := by decide +kernel
theorem d_Md_key_5 : decode b_Md_key 5 = .ok (.iconst 1, 1) := by decide +kernel
theorem d_Md_key_6 : decode b_Md_key 6 = .ok (.goto 4, 3) := by decide +kernel
theorem d_Md_key_9 : decode b_Md_key 9 = .ok (.iconst 0, 1) := by decide +kernel
theorem d_Md_key_10 : decode b_Md_key 10 = .ok (.invokevirtual 83, 3) := by decide +kernel
theorem d_Md_key_13 : decode b_Md_key 13 = .ok (.ifCond .ne 5, 3) := by decide +kernel
theorem d_Md_key_16 : decode b_Md_key 16 = .ok (.iconst 0, 1) := by decide +kernel
theorem d_Md_key_17 : decode b_Md_key 17 = .ok (.ireturn, 1) := by decide +kernel
theorem d_Md_key_18 : decode b_Md_key 18 = .ok (.iconst 0, 1) := by decide +kernel
theorem d_Md_key_19 : decode b_Md_key 19 = .ok (.istore_n 2, 1) := by decide +kernel
theorem d_Md_key_20 : decode b_Md_key 20 = .ok (.iload_n 2, 1) := by decide +kernel
theorem d_Md_key_21 : decode b_Md_key 21 = .ok (.aload_n 0, 1) := by decide +kernel
theorem d_Md_key_22 : decode b_Md_key 22 = .ok (.getfield 60, 3) := by decide +kernel
theorem d_Md_key_25 : decode b_Md_key 25 = .ok (.if_icmp .ge 65, 3) := by decide +kernel
theorem d_Md_key_28 : decode b_Md_key 28 = .ok (.iconst 0, 1) := by decide +kernel
theorem d_Md_key_29 : decode b_Md_key 29 = .ok (.istore_n 3, 1) := by decide +kernel
theorem d_Md_key_30 : decode b_Md_key 30 = .ok (.iconst 0, 1) := by decide +kernel
theorem d_Md_key_31 : decode b_Md_key 31 = .ok (.istore 4, 2) := by decide +kernel
theorem d_Md_key_33 : decode b_Md_key 33 = .ok (.iload 4, 2) := by decide +kernel
theorem d_Md_key_35 : decode b_Md_key 35 = .ok (.aload_n 0, 1) := by decide +kernel
theorem d_Md_key_36 : decode b_Md_key 36 = .ok (.getfield 60, 3) := by decide +kernel
theorem d_Md_key_39 : decode b_Md_key 39 = .ok (.if_icmp .ge 33, 3) := by decide +kernel
theorem d_Md_key_42 : decode b_Md_key 42 = .ok (.iload_n 3, 1) := by decide +kernel
theorem d_Md_key_43 : decode b_Md_key 43 = .ok (.aload_n 0, 1) := by decide +kernel
theorem d_Md_key_44 : decode b_Md_key 44 = .ok (.getfield 16, 3) := by decide +kernel
theorem d_Md_key_47 : decode b_Md_key 47 = .ok (.iload 4, 2) := by decide +kernel
theorem d_Md_key_49 : decode b_Md_key 49 = .ok (.iaload, 1) := by decide +kernel
theorem d_Md_key_50 : decode b_Md_key 50 = .ok (.aload_n 0, 1) := by decide +kernel
theorem d_Md_key_51 : decode b_Md_key 51 = .ok (.getfield 16, 3) := by decide +kernel
theorem d_Md_key_54 : decode b_Md_key 54 = .ok (.iload_n 2, 1) := by decide +kernel
theorem d_Md_key_55 : decode b_Md_key 55 = .ok (.iaload, 1) := by decide +kernel
theorem d_Md_key_56 : decode b_Md_key 56 = .ok (.if_icmp .ge 7, 3) := by decide +kernel
theorem d_Md_key_59 : decode b_Md_key 59 = .ok (.iconst 1, 1) := by decide +kernel
theorem d_Md_key_60 : decode b_Md_key 60 = .ok (.goto 4, 3) := by decide +kernel
theorem d_Md_key_63 : decode b_Md_key 63 = .ok (.iconst 0, 1) := by decide +kernel
theorem d_Md_key_64 : decode b_Md_key 64 = .ok (.iadd, 1) := by decide +kernel
theorem d_Md_key_65 : decode b_Md_key 65 = .ok (.istore_n 3, 1) := by decide +kernel
theorem d_Md_key_66 : decode b_Md_key 66 = .ok (.iinc 4 1, 3) := by decide +kernel
theorem d_Md_key_69 : decode b_Md_key 69 = .ok (.goto (-36), 3) := by decide +kernel
theorem d_Md_key_72 : decode b_Md_key 72 = .ok (.iload_n 3, 1) := by decide +kernel
theorem d_Md_key_73 : decode b_Md_key 73 = .ok (.iload_n 1, 1) := by decide +kernel
theorem d_Md_key_74 : decode b_Md_key 74 = .ok (.if_icmp .ne 10, 3) := by decide +kernel
theorem d_Md_key_77 : decode b_Md_key 77 = .ok (.aload_n 0, 1) := by decide +kernel
theorem d_Md_key_78 : decode b_Md_key 78 = .ok (.getfield 16, 3) := by decide +kernel
theorem d_Md_key_81 : decode b_Md_key 81 = .ok (.iload_n 2, 1) := by decide +kernel
theorem d_Md_key_82 : decode b_Md_key 82 = .ok (.iaload, 1) := by decide +kernel
theorem d_Md_key_83 : decode b_Md_key 83 = .ok (.ireturn, 1) := by decide +kernel
theorem d_Md_key_84 : decode b_Md_key 84 = .ok (.iinc 2 1, 3) := by decide +kernel
theorem d_Md_key_87 : decode b_Md_key 87 = .ok (.goto (-67), 3) := by decide +kernel
theorem d_Md_key_90 : decode b_Md_key 90 = .ok (.iconst (-1), 1) := by decide +kernel
theorem d_Md_key_91 : decode b_Md_key 91 = .ok (.ireturn, 1) := by decide +kernel
theorem d_Md_payments_0 : decode b_Md_payments 0 = .ok (.aload_n 0, 1) := by decide +kernel
theorem d_Md_payments_1 : decode b_Md_payments 1 = .ok (.iconst 0, 1) := by decide +kernel
theorem d_Md_payments_2 : decode b_Md_payments 2 = .ok (.putfield 54, 3) := by decide +kernel
theorem d_Md_payments_5 : decode b_Md_payments 5 = .ok (.aload_n 0, 1) := by decide +kernel
theorem d_Md_payments_6 : decode b_Md_payments 6 = .ok (.getfield 60, 3) := by decide +kernel
theorem d_Md_payments_9 : decode b_Md_payments 9 = .ok (.ireturn, 1) := by decide +kernel
theorem d_Md_audit_0 : decode b_Md_audit 0 = .ok (.aload_n 0, 1) := by decide +kernel
theorem d_Md_audit_1 : decode b_Md_audit 1 = .ok (.iconst 0, 1) := by decide +kernel
theorem d_Md_audit_2 : decode b_Md_audit 2 = .ok (.putfield 54, 3) := by decide +kernel
theorem d_Md_audit_5 : decode b_Md_audit 5 = .ok (.iconst 0, 1) := by decide +kernel
theorem d_Md_audit_6 : decode b_Md_audit 6 = .ok (.ireturn, 1) := by decide +kernel
end
section
/-! WHAT HOLDS AT THE LAW'S FIRST STATE s0, and stays -/
def hb_tb2 : List Cond := [.castable "HoldBook$Payment" "java/lang/Object", .castable "HoldBook$Account" "java/lang/Object", .castable "java/lang/IllegalArgumentException" "java/lang/IllegalArgumentException", .castable "java/lang/IllegalStateException" "java/lang/IllegalStateException", .declares ⟨"java/lang/RuntimeException", "<init>", "(Ljava/lang/String;)V"⟩, .declares ⟨"java/lang/Exception", "<init>", "(Ljava/lang/String;)V"⟩, .declares ⟨"java/lang/Throwable", "<init>", "(Ljava/lang/String;)V"⟩]
def hb_str (s0 : State) : Prop := ∀ k tx, Cond.stringRef "HoldBook" k tx ∈ lw_tbl → ∃ q, vk_R "HoldBook" k tx q s0
def hb_E (l : Launch) (s0 : State) (D : va_G) (cI cJ cO : ClassId) (e0 mi : Nat) : Prop :=
  l.stackTraces = false ∧ (∀ w ∈ hb_tbl, w.before #[] s0 = true) ∧ va_K D hb_cl [(cI, .int), (cJ, .long), (cO, .object "java/lang/Object")] s0 ∧
  va_Z "java/util/ArrayList" "DEFAULTCAPACITY_EMPTY_ELEMENTDATA" "[Ljava/lang/Object;" (.ref e0) (fun q => s0.heap.size ≤ q) s0 s0.heap ∧ va_T (.object "java/lang/Object") e0 0 (fun _ => .null) (fun q => s0.heap.size ≤ q) s0 s0.heap ∧
  va_AO "java/lang/Object" s0 ∧ va_Mi "[Ljava/lang/Object;" mi s0 ∧ va_Dc s0 ∧ (∀ w ∈ hb_tb2, va_Nw w s0) ∧
  vx_Zq "java/lang/Throwable" "UNASSIGNED_STACK" "[Ljava/lang/StackTraceElement;" (fun q => s0.heap.size ≤ q) s0 s0.heap ∧ vx_Zq "java/lang/Throwable" "SUPPRESSED_SENTINEL" "Ljava/util/List;" (fun q => s0.heap.size ≤ q) s0 s0.heap ∧
  hb_str s0 ∧ va_Nc "java/lang/IllegalArgumentException" "java/lang/IllegalStateException" s0 ∧ va_Nc "java/lang/IllegalStateException" "java/lang/IllegalArgumentException" s0
section ENV
variable {l : Launch} {s0 s : State} {D : va_G} {cI cJ cO : ClassId} {e0 mi : Nat}
theorem hb_E.ts (hE : hb_E l s0 D cI cJ cO e0 mi) (hG : hb_G s0 s) (args : Array Value) : ∀ w ∈ hb_tbl, w.before args s = true := fun w hw => word_at hG.1 (good_of_word (hb_gd w hw)) (hE.2.1 w hw)
theorem hb_E.kn (hE : hb_E l s0 D cI cJ cO e0 mi) (hG : hb_G s0 s) : va_K D hb_cl [(cI, .int), (cJ, .long), (cO, .object "java/lang/Object")] s := va_K.moved hG.1.alike hE.2.2.1
end ENV
section LCMP
variable {p : Program} {l : Launch} {e : Env} {R : Room} {s : State} {m : MethodId} {args : Array Value} {below : List Frame} {meth : Method} {c : Code} {H : Heap} {locs : List Loc} {cells slots : Nat} {Q : State → Prop} {cc : ByteArray} {pc : Nat} {ls : Array Slot} {rest : List Value}
theorem hb_lc_lt (hx : p.tables.exec = Jvm.exec) (hb : c.code = cc) {x y : Int64} {off : Int} {tgt : Nat} (d1 : decode cc pc = .ok (.lcmp, 1)) (d2 : decode cc (pc + 1) = .ok (.ifCond .lt off, 3)) (ht : ((pc + 1 : Nat) : Int) + off = (tgt : Int)) (kt : x < y → W p l e R s m args below meth c H locs cells slots Q (F0 m tgt ls rest)) (kf : ¬ x < y → W p l e R s m args below meth c H locs cells slots Q (F0 m (pc + 1 + 3) ls rest)) : W p l e R s m args below meth c H locs cells slots Q (F0 m pc ls (.long y :: .long x :: rest)) :=
  W.lcmp hx hb d1 (lv_if_lt hx hb d2 ht (fun h => kt ((lg_cmp_lt x y).mp h)) (fun h => kf (fun h2 => h ((lg_cmp_lt x y).mpr h2))))
theorem hb_lc_ge (hx : p.tables.exec = Jvm.exec) (hb : c.code = cc) {x y : Int64} {off : Int} {tgt : Nat} (d1 : decode cc pc = .ok (.lcmp, 1)) (d2 : decode cc (pc + 1) = .ok (.ifCond .ge off, 3)) (ht : ((pc + 1 : Nat) : Int) + off = (tgt : Int)) (kt : y ≤ x → W p l e R s m args below meth c H locs cells slots Q (F0 m tgt ls rest)) (kf : ¬ y ≤ x → W p l e R s m args below meth c H locs cells slots Q (F0 m (pc + 1 + 3) ls rest)) : W p l e R s m args below meth c H locs cells slots Q (F0 m pc ls (.long y :: .long x :: rest)) :=
  W.lcmp hx hb d1 (lv_if_ge hx hb d2 ht (fun h => kt ((lg_cmp_ge x y).mp h)) (fun h => kf (fun h2 => h ((lg_cmp_ge x y).mpr h2))))
theorem hb_lc_gt (hx : p.tables.exec = Jvm.exec) (hb : c.code = cc) {x y : Int64} {off : Int} {tgt : Nat} (d1 : decode cc pc = .ok (.lcmp, 1)) (d2 : decode cc (pc + 1) = .ok (.ifCond .gt off, 3)) (ht : ((pc + 1 : Nat) : Int) + off = (tgt : Int)) (kt : y < x → W p l e R s m args below meth c H locs cells slots Q (F0 m tgt ls rest)) (kf : ¬ y < x → W p l e R s m args below meth c H locs cells slots Q (F0 m (pc + 1 + 3) ls rest)) : W p l e R s m args below meth c H locs cells slots Q (F0 m pc ls (.long y :: .long x :: rest)) :=
  W.lcmp hx hb d1 (lv_if_gt hx hb d2 ht (fun h => kt ((lg_cmp_gt x y).mp h)) (fun h => kf (fun h2 => h ((lg_cmp_gt x y).mpr h2))))
theorem hb_lc_le (hx : p.tables.exec = Jvm.exec) (hb : c.code = cc) {x y : Int64} {off : Int} {tgt : Nat} (d1 : decode cc pc = .ok (.lcmp, 1)) (d2 : decode cc (pc + 1) = .ok (.ifCond .le off, 3)) (ht : ((pc + 1 : Nat) : Int) + off = (tgt : Int)) (kt : x ≤ y → W p l e R s m args below meth c H locs cells slots Q (F0 m tgt ls rest)) (kf : ¬ x ≤ y → W p l e R s m args below meth c H locs cells slots Q (F0 m (pc + 1 + 3) ls rest)) : W p l e R s m args below meth c H locs cells slots Q (F0 m pc ls (.long y :: .long x :: rest)) :=
  W.lcmp hx hb d1 (lv_if_le hx hb d2 ht (fun h => kt ((lg_cmp_le x y).mp h)) (fun h => kf (fun h2 => h ((lg_cmp_le x y).mpr h2))))
theorem hb_lc_eq (hx : p.tables.exec = Jvm.exec) (hb : c.code = cc) {x y : Int64} {off : Int} {tgt : Nat} (d1 : decode cc pc = .ok (.lcmp, 1)) (d2 : decode cc (pc + 1) = .ok (.ifCond .eq off, 3)) (ht : ((pc + 1 : Nat) : Int) + off = (tgt : Int)) (kt : x = y → W p l e R s m args below meth c H locs cells slots Q (F0 m tgt ls rest)) (kf : ¬ x = y → W p l e R s m args below meth c H locs cells slots Q (F0 m (pc + 1 + 3) ls rest)) : W p l e R s m args below meth c H locs cells slots Q (F0 m pc ls (.long y :: .long x :: rest)) :=
  W.lcmp hx hb d1 (lv_if_eq hx hb d2 ht (fun h => kt ((lg_cmp_eq x y).mp h)) (fun h => kf (fun h2 => h ((lg_cmp_eq x y).mpr h2))))
theorem hb_lc_ne (hx : p.tables.exec = Jvm.exec) (hb : c.code = cc) {x y : Int64} {off : Int} {tgt : Nat} (d1 : decode cc pc = .ok (.lcmp, 1)) (d2 : decode cc (pc + 1) = .ok (.ifCond .ne off, 3)) (ht : ((pc + 1 : Nat) : Int) + off = (tgt : Int)) (kt : ¬ x = y → W p l e R s m args below meth c H locs cells slots Q (F0 m tgt ls rest)) (kf : x = y → W p l e R s m args below meth c H locs cells slots Q (F0 m (pc + 1 + 3) ls rest)) : W p l e R s m args below meth c H locs cells slots Q (F0 m pc ls (.long y :: .long x :: rest)) :=
  W.lcmp hx hb d1 (lv_if_ne hx hb d2 ht (fun h => kt (fun h2 => h ((lg_cmp_eq x y).mpr h2))) (fun h => kf ((lg_cmp_eq x y).mp h)))
end LCMP
/-! maps that agree but at some addresses -/
def hb_off (L : List Nat) (M M1 : hb_M) : Prop := ∀ q, q ∉ L → M1 q = M q
theorem hb_off.rf {L : List Nat} {M : hb_M} : hb_off L M M := fun _ _ => rfl
theorem hb_off.up {L : List Nat} {M M1 M2 : hb_M} {a : Nat} {e : va_E} (h : hb_off L M M1) (ha : a ∈ L) (h2 : M2 = hb_up M1 a e) : hb_off L M M2 := by
  intro q hq
  have hne : q ≠ a := fun z => hq (by rw [z]; exact ha)
  rw [h2, hb_up_ne hne]
  exact h q hq
theorem hb_off.tr {L L1 : List Nat} {M M1 M2 : hb_M} (h : hb_off L M M1) (h1 : hb_off L1 M1 M2) (hs : ∀ q, q ∈ L1 → q ∈ L) : hb_off L M M2 := fun q hq => by
  rw [h1 q (fun z => hq (hs q z))]
  exact h q hq
theorem hb_off.at {L : List Nat} {M M1 : hb_M} {b : Nat} {o : Option va_E} (h : hb_off L M M1) (hb : b ∉ L) (e : M b = o) : M1 b = o := by rw [h b hb]; exact e
theorem hb_n1 {a b : Nat} (h : b ≠ a) : b ∉ [a] := by simp [h]
theorem hb_n2 {a a' b : Nat} (h : b ≠ a) (h' : b ≠ a') : b ∉ [a, a'] := by simp [h, h']
theorem hb_n3 {a a' a'' b : Nat} (h : b ≠ a) (h' : b ≠ a') (h'' : b ≠ a'') : b ∉ [a, a', a''] := by simp [h, h', h'']
theorem hb_gt {x y : Int64} (h : ¬ x ≤ y) : y < x := by
  rw [Int64.lt_iff_toInt_lt]
  rw [Int64.le_iff_toInt_le] at h
  omega
theorem hb_ngt {x y : Int64} (h : x ≤ y) : ¬ y < x := by
  rw [Int64.lt_iff_toInt_lt]
  rw [Int64.le_iff_toInt_le] at h
  omega
theorem hb_gti {x y : Int32} (h : ¬ x ≤ y) : y < x := by
  rw [Int32.lt_iff_toInt_lt]
  rw [Int32.le_iff_toInt_le] at h
  omega
theorem hb_ngti {x y : Int32} (h : x ≤ y) : ¬ y < x := by
  rw [Int32.lt_iff_toInt_lt]
  rw [Int32.le_iff_toInt_le] at h
  omega
end
section
/-! ACCOUNT AND PAYMENT: contracts, by the walker -/
set_option maxHeartbeats 4000000 in
set_option maxRecDepth 100000 in
/-- Account.free() -/
theorem c_Acc_free {l : Launch} {s0 : State} {D : va_G} {cI cJ cO : ClassId} {e0 mi : Nat} (hE : hb_E l s0 D cI cJ cO e0 mi) (M : hb_M) (a : Nat) (an : Int32) (am af ab ah al : Int64) (ha : M a = some (.inr (0, [.int an, .long am, .long af, .long ab, .long ah, .long al]))) : hb_Met l D hb_cl s0 y_Acc_free b_Acc_free 1 (some .long) { frames := 0, cells := 0, slots := 0, locals := 0 } [.ref a] M (fun v M1 => v = some (.long (ab - am - ah - al)) ∧ M1 = M) := by
  refine hb_Met.of (by decide) (Nat.le_of_ble_eq_true rfl) ?_
  intro p e s m below meth c A hAe hX hz hP hD hA hS ls hl
  obtain ⟨hx, hb, hr, hml, hown, hlocks, hnm, hG, hnh⟩ := id hX
  have hown : s.vm.findClass "HoldBook$Account" = some m.cls := hown
  have hts := hE.ts hG ([.ref a] : List Value).toArray
  have hK := hE.kn hG
  have hl : lv_has ls 1 [(0, .ref a)] := hl
  refine lv_aload_n hx hb d_Acc_free_0 rfl (lv_at hl 0 rfl) ?_
  refine hb_get hx hb hts hown hC_Acc hK hP ha 3 (by decide) rfl fl_Acc_20 rfl d_Acc_free_1 ?_
  refine lv_aload_n hx hb d_Acc_free_4 rfl (lv_at hl 0 rfl) ?_
  refine hb_get hx hb hts hown hC_Acc hK hP ha 1 (by decide) rfl fl_Acc_23 rfl d_Acc_free_5 ?_
  refine lv_lsub hx hb d_Acc_free_8 ?_
  refine lv_aload_n hx hb d_Acc_free_9 rfl (lv_at hl 0 rfl) ?_
  refine hb_get hx hb hts hown hC_Acc hK hP ha 4 (by decide) rfl fl_Acc_7 rfl d_Acc_free_10 ?_
  refine lv_lsub hx hb d_Acc_free_13 ?_
  refine lv_aload_n hx hb d_Acc_free_14 rfl (lv_at hl 0 rfl) ?_
  refine hb_get hx hb hts hown hC_Acc hK hP ha 5 (by decide) rfl fl_Acc_13 rfl d_Acc_free_15 ?_
  refine lv_lsub hx hb d_Acc_free_18 ?_
  exact hb_lret hAe hx hb hr hlocks hP hD hS (Nat.le_of_ble_eq_true rfl) (Nat.le_of_ble_eq_true rfl) (⟨rfl, rfl⟩) d_Acc_free_19
set_option maxHeartbeats 4000000 in
set_option maxRecDepth 100000 in
/-- Account(number, balance, minimum) -/
theorem c_Acc_init {l : Launch} {s0 : State} {D : va_G} {cI cJ cO : ClassId} {e0 mi : Nat} (hE : hb_E l s0 D cI cJ cO e0 mi) (M : hb_M) (a : Nat) (n : Int32) (b mn : Int64) (ha : M a = some (.inr (0, [.int 0, .long 0, .long 0, .long 0, .long 0, .long 0]))) : hb_Met l D hb_cl s0 y_Acc_init b_Acc_init 6 none { frames := 1, cells := 0, slots := 0, locals := 12 } [.ref a, .int n, .long b, .long mn] M (fun v M1 => v = none ∧ M1 a = some (.inr (0, [.int n, .long mn, .long (b - mn), .long b, .long 0, .long 0])) ∧ hb_off [a] M M1) := by
  refine hb_Met.of (by decide) (Nat.le_of_ble_eq_true rfl) ?_
  intro p e s m below meth c A hAe hX hz hP hD hA hS ls hl
  obtain ⟨hx, hb, hr, hml, hown, hlocks, hnm, hG, hnh⟩ := id hX
  have hown : s.vm.findClass "HoldBook$Account" = some m.cls := hown
  have hts := hE.ts hG ([.ref a, .int n, .long b, .long mn] : List Value).toArray
  have hK := hE.kn hG
  have hl : lv_has ls 6 [(0, .ref a), (1, .int n), (2, .long b), (4, .long mn)] := hl
  refine lv_aload_n hx hb d_Acc_init_0 rfl (lv_at hl 0 rfl) ?_
  refine W.objInit hx hb hown (hts _ ml_Acc_1) (hts _ im_Ob_init) (hts _ cd_Ob_init) rfl (by rw [hml]; exact hl.1) rfl d_Acc_init_1 (Nat.le_of_ble_eq_true rfl) (Nat.le_of_ble_eq_true rfl) ?_
  refine W.eq (g2 := F0 m 4 ls []) rfl ?_
  refine lv_aload_n hx hb d_Acc_init_4 rfl (lv_at hl 0 rfl) ?_
  refine lv_lconst (v := 0) hx hb d_Acc_init_5 (by decide) ?_
  refine hb_put (ty := .long) hx hb hts hown hC_Acc hK hP hD hS ha 4 (by decide) rfl fl_Acc_7 rfl rfl rfl rfl (Nat.le_of_ble_eq_true rfl) d_Acc_init_6 (fun M1 H locs eM2 hP hD hS => ?_)
  have f3 : M1 a = some (.inr (0, [.int 0, .long 0, .long 0, .long 0, .long 0, .long 0])) := by rw [eM2]; exact hb_up_self
  refine lv_aload_n hx hb d_Acc_init_9 rfl (lv_at hl 0 rfl) ?_
  refine lv_lconst (v := 0) hx hb d_Acc_init_10 (by decide) ?_
  refine hb_put (ty := .long) hx hb hts hown hC_Acc hK hP hD hS f3 5 (by decide) rfl fl_Acc_13 rfl rfl rfl rfl (Nat.le_of_ble_eq_true rfl) d_Acc_init_11 (fun M4 H locs eM5 hP hD hS => ?_)
  have f6 : M4 a = some (.inr (0, [.int 0, .long 0, .long 0, .long 0, .long 0, .long 0])) := by rw [eM5]; exact hb_up_self
  refine lv_aload_n hx hb d_Acc_init_14 rfl (lv_at hl 0 rfl) ?_
  refine lv_iload_n hx hb d_Acc_init_15 rfl (lv_at hl 1 rfl) ?_
  refine hb_putF (ty := .int) hx hb hts hown hC_Acc hK hP hD hS f6 0 (by decide) rfl fl_Acc_16 rfl hnm rfl rfl rfl rfl (Nat.le_of_ble_eq_true rfl) d_Acc_init_16 (fun M7 H locs eM8 hP hD hS => ?_)
  have f9 : M7 a = some (.inr (0, [.int n, .long 0, .long 0, .long 0, .long 0, .long 0])) := by rw [eM8]; exact hb_up_self
  refine lv_aload_n hx hb d_Acc_init_19 rfl (lv_at hl 0 rfl) ?_
  refine lv_lload_n hx hb d_Acc_init_20 rfl (lv_at hl 2 rfl) ?_
  refine hb_put (ty := .long) hx hb hts hown hC_Acc hK hP hD hS f9 3 (by decide) rfl fl_Acc_20 rfl rfl rfl rfl (Nat.le_of_ble_eq_true rfl) d_Acc_init_21 (fun M10 H locs eM11 hP hD hS => ?_)
  have f12 : M10 a = some (.inr (0, [.int n, .long 0, .long 0, .long b, .long 0, .long 0])) := by rw [eM11]; exact hb_up_self
  refine lv_aload_n hx hb d_Acc_init_24 rfl (lv_at hl 0 rfl) ?_
  refine lv_lload hx hb d_Acc_init_25 (lv_at hl 3 rfl) ?_
  refine hb_putF (ty := .long) hx hb hts hown hC_Acc hK hP hD hS f12 1 (by decide) rfl fl_Acc_23 rfl hnm rfl rfl rfl rfl (Nat.le_of_ble_eq_true rfl) d_Acc_init_27 (fun M13 H locs eM14 hP hD hS => ?_)
  have f15 : M13 a = some (.inr (0, [.int n, .long mn, .long 0, .long b, .long 0, .long 0])) := by rw [eM14]; exact hb_up_self
  refine lv_aload_n hx hb d_Acc_init_30 rfl (lv_at hl 0 rfl) ?_
  refine lv_lload_n hx hb d_Acc_init_31 rfl (lv_at hl 2 rfl) ?_
  refine lv_lload hx hb d_Acc_init_32 (lv_at hl 3 rfl) ?_
  refine lv_lsub hx hb d_Acc_init_34 ?_
  refine hb_putF (ty := .long) hx hb hts hown hC_Acc hK hP hD hS f15 2 (by decide) rfl fl_Acc_26 rfl hnm rfl rfl rfl rfl (Nat.le_of_ble_eq_true rfl) d_Acc_init_35 (fun M16 H locs eM17 hP hD hS => ?_)
  have f18 : M16 a = some (.inr (0, [.int n, .long mn, .long (b - mn), .long b, .long 0, .long 0])) := by rw [eM17]; exact hb_up_self
  exact hb_vret hAe hx hb hr hlocks hP hD hS (Nat.le_of_ble_eq_true rfl) (Nat.le_of_ble_eq_true rfl) (⟨rfl, f18, ((((((hb_off.rf.up (by simp) eM2).up (by simp) eM5).up (by simp) eM8).up (by simp) eM11).up (by simp) eM14).up (by simp) eM17)⟩) d_Acc_init_38
set_option maxHeartbeats 4000000 in
set_option maxRecDepth 100000 in
/-- Account.isOverdrawn() -/
theorem c_Acc_isOverdrawn {l : Launch} {s0 : State} {D : va_G} {cI cJ cO : ClassId} {e0 mi : Nat} (hE : hb_E l s0 D cI cJ cO e0 mi) (M : hb_M) (a : Nat) (an : Int32) (am af ab ah al : Int64) (ha : M a = some (.inr (0, [.int an, .long am, .long af, .long ab, .long ah, .long al]))) : hb_Met l D hb_cl s0 y_Acc_isOverdrawn b_Acc_isOverdrawn 3 (some .boolean) { frames := 1, cells := 0, slots := 0, locals := 20 } [.ref a] M (fun v M1 => v = some (.int (if (ab - am - ah - al) < 0 ∧ (ab - am - ah - al) < af then 1 else 0)) ∧ M1 = M) := by
  refine hb_Met.of (by decide) (Nat.le_of_ble_eq_true rfl) ?_
  intro p e s m below meth c A hAe hX hz hP hD hA hS ls hl
  obtain ⟨hx, hb, hr, hml, hown, hlocks, hnm, hG, hnh⟩ := id hX
  have hown : s.vm.findClass "HoldBook$Account" = some m.cls := hown
  have hts := hE.ts hG ([.ref a] : List Value).toArray
  have hK := hE.kn hG
  have hl : lv_has ls 3 [(0, .ref a)] := hl
  refine lv_aload_n hx hb d_Acc_isOverdrawn_0 rfl (lv_at hl 0 rfl) ?_
  refine hb_callV (rest := []) hX hts hb_gd Y_Acc_free (c_Acc_free hE M a an am af ab ah al ha) ml_Acc_29 im_Acc_free se_Acc_free hK ha hC_Acc.1 hz hP hD hS hA rfl hl.1 rfl (Nat.le_of_ble_eq_true rfl) ⟨Nat.le_of_ble_eq_true rfl, Nat.le_of_ble_eq_true rfl⟩ ⟨Nat.le_of_ble_eq_true rfl, Nat.le_of_ble_eq_true rfl⟩ d_Acc_isOverdrawn_1 (fun v3 M1 H locs hq2 hP hD hS _ hkp => ?_)
  obtain ⟨ev4, eM5⟩ := hq2
  subst ev4
  rw [eM5] at hP hD
  refine W.eq (g2 := F0 m 4 ls [.long (ab - am - ah - al)]) rfl ?_
  refine lv_lstore_n (lv' := [(1, .long (ab - am - ah - al)), (0, .ref a)]) hx hb d_Acc_isOverdrawn_4 rfl hl (by decide) rfl (fun ls hl => ?_)
  refine lv_lload_n hx hb d_Acc_isOverdrawn_5 rfl (lv_at hl 0 rfl) ?_
  refine lv_lconst (v := 0) hx hb d_Acc_isOverdrawn_6 (by decide) ?_
  refine hb_lc_ge (tgt := 24) hx hb d_Acc_isOverdrawn_7 d_Acc_isOverdrawn_8 (by decide) (fun c6 => ?_) (fun c6 => ?_)
  · skip
    have c6n := hb_ngt c6
    refine lv_iconst (v := 0) hx hb d_Acc_isOverdrawn_24 (by decide) ?_
    exact hb_zret hAe hx hb hr (by decide) hlocks hP hD hS (Nat.le_of_ble_eq_true rfl) (Nat.le_of_ble_eq_true rfl) (⟨by first | (rw [if_pos ⟨by assumption, by assumption⟩]) | (rw [if_neg (fun h => absurd h.1 (by assumption))]) | (rw [if_neg (fun h => absurd h.2 (by assumption))]), rfl⟩) d_Acc_isOverdrawn_25
  · skip
    have c6n := hb_gt c6
    refine lv_lload_n hx hb d_Acc_isOverdrawn_11 rfl (lv_at hl 0 rfl) ?_
    refine lv_aload_n hx hb d_Acc_isOverdrawn_12 rfl (lv_at hl 1 rfl) ?_
    refine hb_get hx hb hts hown hC_Acc hK hP ha 2 (by decide) rfl fl_Acc_26 rfl d_Acc_isOverdrawn_13 ?_
    refine hb_lc_ge (tgt := 24) hx hb d_Acc_isOverdrawn_16 d_Acc_isOverdrawn_17 (by decide) (fun c7 => ?_) (fun c7 => ?_)
    · skip
      have c7n := hb_ngt c7
      refine lv_iconst (v := 0) hx hb d_Acc_isOverdrawn_24 (by decide) ?_
      exact hb_zret hAe hx hb hr (by decide) hlocks hP hD hS (Nat.le_of_ble_eq_true rfl) (Nat.le_of_ble_eq_true rfl) (⟨by first | (rw [if_pos ⟨by assumption, by assumption⟩]) | (rw [if_neg (fun h => absurd h.1 (by assumption))]) | (rw [if_neg (fun h => absurd h.2 (by assumption))]), rfl⟩) d_Acc_isOverdrawn_25
    · skip
      have c7n := hb_gt c7
      refine lv_iconst (v := 1) hx hb d_Acc_isOverdrawn_20 (by decide) ?_
      refine lv_goto (tgt := 25) hx hb d_Acc_isOverdrawn_21 (by decide) ?_
      exact hb_zret hAe hx hb hr (by decide) hlocks hP hD hS (Nat.le_of_ble_eq_true rfl) (Nat.le_of_ble_eq_true rfl) (⟨by first | (rw [if_pos ⟨by assumption, by assumption⟩]) | (rw [if_neg (fun h => absurd h.1 (by assumption))]) | (rw [if_neg (fun h => absurd h.2 (by assumption))]), rfl⟩) d_Acc_isOverdrawn_25
set_option maxHeartbeats 4000000 in
set_option maxRecDepth 100000 in
/-- Payment(key, account) -/
theorem c_Pay_init {l : Launch} {s0 : State} {D : va_G} {cI cJ cO : ClassId} {e0 mi : Nat} (hE : hb_E l s0 D cI cJ cO e0 mi) (M : hb_M) (p0 a : Nat) (k : Int32) (hp : M p0 = some (.inr (1, [.int 0, .null, .int 0, .long 0, .long 0, .int 0, .int 0, .int 0, .long 0, .int 0]))) : hb_Met l D hb_cl s0 y_Pay_init b_Pay_init 3 none { frames := 1, cells := 0, slots := 0, locals := 12 } [.ref p0, .int k, .ref a] M (fun v M1 => v = none ∧ M1 p0 = some (.inr (1, [.int k, .ref a, .int 2, .long 0, .long 0, .int 0, .int (-1), .int 0, .long 0, .int (-1)])) ∧ hb_off [p0] M M1) := by
  refine hb_Met.of (by decide) (Nat.le_of_ble_eq_true rfl) ?_
  intro p e s m below meth c A hAe hX hz hP hD hA hS ls hl
  obtain ⟨hx, hb, hr, hml, hown, hlocks, hnm, hG, hnh⟩ := id hX
  have hown : s.vm.findClass "HoldBook$Payment" = some m.cls := hown
  have hts := hE.ts hG ([.ref p0, .int k, .ref a] : List Value).toArray
  have hK := hE.kn hG
  have hl : lv_has ls 3 [(0, .ref p0), (1, .int k), (2, .ref a)] := hl
  refine lv_aload_n hx hb d_Pay_init_0 rfl (lv_at hl 0 rfl) ?_
  refine W.objInit hx hb hown (hts _ ml_Pay_3) (hts _ im_Ob_init) (hts _ cd_Ob_init) rfl (by rw [hml]; exact hl.1) rfl d_Pay_init_1 (Nat.le_of_ble_eq_true rfl) (Nat.le_of_ble_eq_true rfl) ?_
  refine W.eq (g2 := F0 m 4 ls []) rfl ?_
  refine lv_aload_n hx hb d_Pay_init_4 rfl (lv_at hl 0 rfl) ?_
  refine lv_iconst (v := 2) hx hb d_Pay_init_5 (by decide) ?_
  refine hb_put (ty := .int) hx hb hts hown hC_Pay hK hP hD hS hp 2 (by decide) rfl fl_Pay_11 rfl rfl rfl rfl (Nat.le_of_ble_eq_true rfl) d_Pay_init_6 (fun M1 H locs eM2 hP hD hS => ?_)
  have f3 : M1 p0 = some (.inr (1, [.int 0, .null, .int 2, .long 0, .long 0, .int 0, .int 0, .int 0, .long 0, .int 0])) := by rw [eM2]; exact hb_up_self
  refine lv_aload_n hx hb d_Pay_init_9 rfl (lv_at hl 0 rfl) ?_
  refine lv_lconst (v := 0) hx hb d_Pay_init_10 (by decide) ?_
  refine hb_put (ty := .long) hx hb hts hown hC_Pay hK hP hD hS f3 3 (by decide) rfl fl_Pay_15 rfl rfl rfl rfl (Nat.le_of_ble_eq_true rfl) d_Pay_init_11 (fun M4 H locs eM5 hP hD hS => ?_)
  have f6 : M4 p0 = some (.inr (1, [.int 0, .null, .int 2, .long 0, .long 0, .int 0, .int 0, .int 0, .long 0, .int 0])) := by rw [eM5]; exact hb_up_self
  refine lv_aload_n hx hb d_Pay_init_14 rfl (lv_at hl 0 rfl) ?_
  refine lv_lconst (v := 0) hx hb d_Pay_init_15 (by decide) ?_
  refine hb_put (ty := .long) hx hb hts hown hC_Pay hK hP hD hS f6 4 (by decide) rfl fl_Pay_19 rfl rfl rfl rfl (Nat.le_of_ble_eq_true rfl) d_Pay_init_16 (fun M7 H locs eM8 hP hD hS => ?_)
  have f9 : M7 p0 = some (.inr (1, [.int 0, .null, .int 2, .long 0, .long 0, .int 0, .int 0, .int 0, .long 0, .int 0])) := by rw [eM8]; exact hb_up_self
  refine lv_aload_n hx hb d_Pay_init_19 rfl (lv_at hl 0 rfl) ?_
  refine lv_iconst (v := 0) hx hb d_Pay_init_20 (by decide) ?_
  refine hb_put (ty := .int) hx hb hts hown hC_Pay hK hP hD hS f9 5 (by decide) rfl fl_Pay_22 rfl rfl rfl rfl (Nat.le_of_ble_eq_true rfl) d_Pay_init_21 (fun M10 H locs eM11 hP hD hS => ?_)
  have f12 : M10 p0 = some (.inr (1, [.int 0, .null, .int 2, .long 0, .long 0, .int 0, .int 0, .int 0, .long 0, .int 0])) := by rw [eM11]; exact hb_up_self
  refine lv_aload_n hx hb d_Pay_init_24 rfl (lv_at hl 0 rfl) ?_
  refine lv_iconst (v := (-1)) hx hb d_Pay_init_25 (by decide) ?_
  refine hb_put (ty := .int) hx hb hts hown hC_Pay hK hP hD hS f12 6 (by decide) rfl fl_Pay_25 rfl rfl rfl rfl (Nat.le_of_ble_eq_true rfl) d_Pay_init_26 (fun M13 H locs eM14 hP hD hS => ?_)
  have f15 : M13 p0 = some (.inr (1, [.int 0, .null, .int 2, .long 0, .long 0, .int 0, .int (-1), .int 0, .long 0, .int 0])) := by rw [eM14]; exact hb_up_self
  refine lv_aload_n hx hb d_Pay_init_29 rfl (lv_at hl 0 rfl) ?_
  refine lv_iconst (v := 0) hx hb d_Pay_init_30 (by decide) ?_
  refine hb_put (ty := .int) hx hb hts hown hC_Pay hK hP hD hS f15 7 (by decide) rfl fl_Pay_28 rfl rfl rfl rfl (Nat.le_of_ble_eq_true rfl) d_Pay_init_31 (fun M16 H locs eM17 hP hD hS => ?_)
  have f18 : M16 p0 = some (.inr (1, [.int 0, .null, .int 2, .long 0, .long 0, .int 0, .int (-1), .int 0, .long 0, .int 0])) := by rw [eM17]; exact hb_up_self
  refine lv_aload_n hx hb d_Pay_init_34 rfl (lv_at hl 0 rfl) ?_
  refine lv_lconst (v := 0) hx hb d_Pay_init_35 (by decide) ?_
  refine hb_put (ty := .long) hx hb hts hown hC_Pay hK hP hD hS f18 8 (by decide) rfl fl_Pay_31 rfl rfl rfl rfl (Nat.le_of_ble_eq_true rfl) d_Pay_init_36 (fun M19 H locs eM20 hP hD hS => ?_)
  have f21 : M19 p0 = some (.inr (1, [.int 0, .null, .int 2, .long 0, .long 0, .int 0, .int (-1), .int 0, .long 0, .int 0])) := by rw [eM20]; exact hb_up_self
  refine lv_aload_n hx hb d_Pay_init_39 rfl (lv_at hl 0 rfl) ?_
  refine lv_iconst (v := (-1)) hx hb d_Pay_init_40 (by decide) ?_
  refine hb_put (ty := .int) hx hb hts hown hC_Pay hK hP hD hS f21 9 (by decide) rfl fl_Pay_34 rfl rfl rfl rfl (Nat.le_of_ble_eq_true rfl) d_Pay_init_41 (fun M22 H locs eM23 hP hD hS => ?_)
  have f24 : M22 p0 = some (.inr (1, [.int 0, .null, .int 2, .long 0, .long 0, .int 0, .int (-1), .int 0, .long 0, .int (-1)])) := by rw [eM23]; exact hb_up_self
  refine lv_aload_n hx hb d_Pay_init_44 rfl (lv_at hl 0 rfl) ?_
  refine lv_iload_n hx hb d_Pay_init_45 rfl (lv_at hl 1 rfl) ?_
  refine hb_putF (ty := .int) hx hb hts hown hC_Pay hK hP hD hS f24 0 (by decide) rfl fl_Pay_37 rfl hnm rfl rfl rfl rfl (Nat.le_of_ble_eq_true rfl) d_Pay_init_46 (fun M25 H locs eM26 hP hD hS => ?_)
  have f27 : M25 p0 = some (.inr (1, [.int k, .null, .int 2, .long 0, .long 0, .int 0, .int (-1), .int 0, .long 0, .int (-1)])) := by rw [eM26]; exact hb_up_self
  refine lv_aload_n hx hb d_Pay_init_49 rfl (lv_at hl 0 rfl) ?_
  refine lv_aload_n hx hb d_Pay_init_50 rfl (lv_at hl 2 rfl) ?_
  refine hb_putF (ty := .object "HoldBook$Account") hx hb hts hown hC_Pay hK hP hD hS f27 1 (by decide) rfl fl_Pay_40 rfl hnm rfl rfl rfl rfl (Nat.le_of_ble_eq_true rfl) d_Pay_init_51 (fun M28 H locs eM29 hP hD hS => ?_)
  have f30 : M28 p0 = some (.inr (1, [.int k, .ref a, .int 2, .long 0, .long 0, .int 0, .int (-1), .int 0, .long 0, .int (-1)])) := by rw [eM29]; exact hb_up_self
  exact hb_vret hAe hx hb hr hlocks hP hD hS (Nat.le_of_ble_eq_true rfl) (Nat.le_of_ble_eq_true rfl) (⟨rfl, f30, ((((((((((hb_off.rf.up (by simp) eM2).up (by simp) eM5).up (by simp) eM8).up (by simp) eM11).up (by simp) eM14).up (by simp) eM17).up (by simp) eM20).up (by simp) eM23).up (by simp) eM26).up (by simp) eM29)⟩) d_Pay_init_54
set_option maxHeartbeats 4000000 in
set_option maxRecDepth 100000 in
/-- Payment.keepHeld(x) -/
theorem c_Pay_keepHeld {l : Launch} {s0 : State} {D : va_G} {cI cJ cO : ClassId} {e0 mi : Nat} (hE : hb_E l s0 D cI cJ cO e0 mi) (M : hb_M) (p0 a : Nat) (an : Int32) (am af ab ah al : Int64) (pk ps pu pn pd pt : Int32) (ph pc pa : Int64) (ha : M a = some (.inr (0, [.int an, .long am, .long af, .long ab, .long ah, .long al]))) (hp : M p0 = some (.inr (1, [.int pk, .ref a, .int ps, .long ph, .long pc, .int pu, .int pn, .int pd, .long pa, .int pt]))) (x : Int64) : hb_Met l D hb_cl s0 y_Pay_keepHeld b_Pay_keepHeld 3 none { frames := 0, cells := 0, slots := 0, locals := 0 } [.ref p0, .long x] M (fun v M1 => v = none ∧ M1 a = some (.inr (0, [.int an, .long am, .long af, .long ab, .long (ah + (x - ph)), .long al])) ∧ M1 p0 = some (.inr (1, [.int pk, .ref a, .int ps, .long x, .long pc, .int pu, .int pn, .int pd, .long pa, .int pt])) ∧ hb_off [a, p0] M M1) := by
  refine hb_Met.of (by decide) (Nat.le_of_ble_eq_true rfl) ?_
  intro p e s m below meth c A hAe hX hz hP hD hA hS ls hl
  obtain ⟨hx, hb, hr, hml, hown, hlocks, hnm, hG, hnh⟩ := id hX
  have hown : s.vm.findClass "HoldBook$Payment" = some m.cls := hown
  have hts := hE.ts hG ([.ref p0, .long x] : List Value).toArray
  have hK := hE.kn hG
  have hl : lv_has ls 3 [(0, .ref p0), (1, .long x)] := hl
  refine lv_aload_n hx hb d_Pay_keepHeld_0 rfl (lv_at hl 0 rfl) ?_
  refine hb_get hx hb hts hown hC_Pay hK hP hp 1 (by decide) rfl fl_Pay_40 rfl d_Pay_keepHeld_1 ?_
  refine lv_dup hx hb d_Pay_keepHeld_4 rfl ?_
  refine hb_get hx hb hts hown hC_Acc hK hP ha 4 (by decide) rfl fl_Pay_48 rfl d_Pay_keepHeld_5 ?_
  refine lv_lload_n hx hb d_Pay_keepHeld_8 rfl (lv_at hl 1 rfl) ?_
  refine lv_aload_n hx hb d_Pay_keepHeld_9 rfl (lv_at hl 0 rfl) ?_
  refine hb_get hx hb hts hown hC_Pay hK hP hp 3 (by decide) rfl fl_Pay_15 rfl d_Pay_keepHeld_10 ?_
  refine lv_lsub hx hb d_Pay_keepHeld_13 ?_
  refine lv_ladd hx hb d_Pay_keepHeld_14 ?_
  refine hb_put (ty := .long) hx hb hts hown hC_Acc hK hP hD hS ha 4 (by decide) rfl fl_Pay_48 rfl rfl rfl rfl (Nat.le_of_ble_eq_true rfl) d_Pay_keepHeld_15 (fun M1 H locs eM2 hP hD hS => ?_)
  have f3 : M1 a = some (.inr (0, [.int an, .long am, .long af, .long ab, .long (ah + (x - ph)), .long al])) := by rw [eM2]; exact hb_up_self
  have f4 : M1 p0 = some (.inr (1, [.int pk, .ref a, .int ps, .long ph, .long pc, .int pu, .int pn, .int pd, .long pa, .int pt])) := by rw [eM2, hb_up_ne (fun q9 => by rw [q9, ha] at hp; cases hp)]; exact hp
  refine lv_aload_n hx hb d_Pay_keepHeld_18 rfl (lv_at hl 0 rfl) ?_
  refine lv_lload_n hx hb d_Pay_keepHeld_19 rfl (lv_at hl 1 rfl) ?_
  refine hb_put (ty := .long) hx hb hts hown hC_Pay hK hP hD hS f4 3 (by decide) rfl fl_Pay_15 rfl rfl rfl rfl (Nat.le_of_ble_eq_true rfl) d_Pay_keepHeld_20 (fun M5 H locs eM6 hP hD hS => ?_)
  have f7 : M5 p0 = some (.inr (1, [.int pk, .ref a, .int ps, .long x, .long pc, .int pu, .int pn, .int pd, .long pa, .int pt])) := by rw [eM6]; exact hb_up_self
  have f8 : M5 a = some (.inr (0, [.int an, .long am, .long af, .long ab, .long (ah + (x - ph)), .long al])) := by rw [eM6, hb_up_ne (fun q9 => by rw [q9, f4] at f3; cases f3)]; exact f3
  exact hb_vret hAe hx hb hr hlocks hP hD hS (Nat.le_of_ble_eq_true rfl) (Nat.le_of_ble_eq_true rfl) (⟨rfl, f8, f7, ((hb_off.rf.up (by simp) eM2).up (by simp) eM6)⟩) d_Pay_keepHeld_23
set_option maxHeartbeats 4000000 in
set_option maxRecDepth 100000 in
/-- Payment.holdUntil(x, e) -/
theorem c_Pay_holdUntil {l : Launch} {s0 : State} {D : va_G} {cI cJ cO : ClassId} {e0 mi : Nat} (hE : hb_E l s0 D cI cJ cO e0 mi) (M : hb_M) (p0 a : Nat) (an : Int32) (am af ab ah al : Int64) (pk ps pu pn pd pt : Int32) (ph pc pa : Int64) (ha : M a = some (.inr (0, [.int an, .long am, .long af, .long ab, .long ah, .long al]))) (hp : M p0 = some (.inr (1, [.int pk, .ref a, .int ps, .long ph, .long pc, .int pu, .int pn, .int pd, .long pa, .int pt]))) (x : Int64) (en : Int32) : hb_Met l D hb_cl s0 y_Pay_holdUntil b_Pay_holdUntil 4 none { frames := 1, cells := 0, slots := 0, locals := 22 } [.ref p0, .long x, .int en] M (fun v M1 => v = none ∧ M1 a = some (.inr (0, [.int an, .long am, .long af, .long ab, .long (ah + (x - ph)), .long al])) ∧ M1 p0 = some (.inr (1, [.int pk, .ref a, .int 1, .long x, .long pc, .int en, .int pn, .int pd, .long pa, .int pt])) ∧ hb_off [a, p0] M M1) := by
  refine hb_Met.of (by decide) (Nat.le_of_ble_eq_true rfl) ?_
  intro p e s m below meth c A hAe hX hz hP hD hA hS ls hl
  obtain ⟨hx, hb, hr, hml, hown, hlocks, hnm, hG, hnh⟩ := id hX
  have hown : s.vm.findClass "HoldBook$Payment" = some m.cls := hown
  have hts := hE.ts hG ([.ref p0, .long x, .int en] : List Value).toArray
  have hK := hE.kn hG
  have hl : lv_has ls 4 [(0, .ref p0), (1, .long x), (3, .int en)] := hl
  refine lv_aload_n hx hb d_Pay_holdUntil_0 rfl (lv_at hl 0 rfl) ?_
  refine lv_iconst (v := 1) hx hb d_Pay_holdUntil_1 (by decide) ?_
  refine hb_put (ty := .int) hx hb hts hown hC_Pay hK hP hD hS hp 2 (by decide) rfl fl_Pay_11 rfl rfl rfl rfl (Nat.le_of_ble_eq_true rfl) d_Pay_holdUntil_2 (fun M1 H locs eM2 hP hD hS => ?_)
  have f3 : M1 p0 = some (.inr (1, [.int pk, .ref a, .int 1, .long ph, .long pc, .int pu, .int pn, .int pd, .long pa, .int pt])) := by rw [eM2]; exact hb_up_self
  have f4 : M1 a = some (.inr (0, [.int an, .long am, .long af, .long ab, .long ah, .long al])) := by rw [eM2, hb_up_ne (fun q9 => by rw [q9, hp] at ha; cases ha)]; exact ha
  refine lv_aload_n hx hb d_Pay_holdUntil_5 rfl (lv_at hl 0 rfl) ?_
  refine lv_iload_n hx hb d_Pay_holdUntil_6 rfl (lv_at hl 2 rfl) ?_
  refine hb_put (ty := .int) hx hb hts hown hC_Pay hK hP hD hS f3 5 (by decide) rfl fl_Pay_22 rfl rfl rfl rfl (Nat.le_of_ble_eq_true rfl) d_Pay_holdUntil_7 (fun M5 H locs eM6 hP hD hS => ?_)
  have f7 : M5 p0 = some (.inr (1, [.int pk, .ref a, .int 1, .long ph, .long pc, .int en, .int pn, .int pd, .long pa, .int pt])) := by rw [eM6]; exact hb_up_self
  have f8 : M5 a = some (.inr (0, [.int an, .long am, .long af, .long ab, .long ah, .long al])) := by rw [eM6, hb_up_ne (fun q9 => by rw [q9, f3] at f4; cases f4)]; exact f4
  refine lv_aload_n hx hb d_Pay_holdUntil_10 rfl (lv_at hl 0 rfl) ?_
  refine lv_lload_n hx hb d_Pay_holdUntil_11 rfl (lv_at hl 1 rfl) ?_
  refine hb_callV (rest := []) hX hts hb_gd Y_Pay_keepHeld (c_Pay_keepHeld hE M5 p0 a an am af ab ah al pk 1 en pn pd pt ph pc pa f8 f7 x) ml_Pay_44 im_Pay_keepHeld se_Pay_keepHeld hK f7 hC_Pay.1 hz hP hD hS hA rfl hl.1 rfl (Nat.le_of_ble_eq_true rfl) ⟨Nat.le_of_ble_eq_true rfl, Nat.le_of_ble_eq_true rfl⟩ ⟨Nat.le_of_ble_eq_true rfl, Nat.le_of_ble_eq_true rfl⟩ d_Pay_holdUntil_12 (fun v11 M9 H locs hq10 hP hD hS _ hkp => ?_)
  obtain ⟨ev15, f12, f13, ho14⟩ := hq10
  subst ev15
  refine W.eq (g2 := F0 m 15 ls []) rfl ?_
  exact hb_vret hAe hx hb hr hlocks hP hD hS (Nat.le_of_ble_eq_true rfl) (Nat.le_of_ble_eq_true rfl) (⟨rfl, f12, f13, (((hb_off.rf.up (by simp) eM2).up (by simp) eM6).tr ho14 (by simp))⟩) d_Pay_holdUntil_15
set_option maxHeartbeats 4000000 in
set_option maxRecDepth 100000 in
/-- Payment.take(x) -/
theorem c_Pay_take {l : Launch} {s0 : State} {D : va_G} {cI cJ cO : ClassId} {e0 mi : Nat} (hE : hb_E l s0 D cI cJ cO e0 mi) (M : hb_M) (p0 a : Nat) (an : Int32) (am af ab ah al : Int64) (pk ps pu pn pd pt : Int32) (ph pc pa : Int64) (ha : M a = some (.inr (0, [.int an, .long am, .long af, .long ab, .long ah, .long al]))) (hp : M p0 = some (.inr (1, [.int pk, .ref a, .int ps, .long ph, .long pc, .int pu, .int pn, .int pd, .long pa, .int pt]))) (x : Int64) : hb_Met l D hb_cl s0 y_Pay_take b_Pay_take 3 none { frames := 1, cells := 0, slots := 0, locals := 22 } [.ref p0, .long x] M (fun v M1 => v = none ∧ M1 a = some (.inr (0, [.int an, .long am, .long af, .long (ab - x), .long (ah + ((ph - x) - ph)), .long al])) ∧ M1 p0 = some (.inr (1, [.int pk, .ref a, .int ps, .long (ph - x), .long (pc + x), .int pu, .int pn, .int pd, .long pa, .int pt])) ∧ hb_off [a, p0] M M1) := by
  refine hb_Met.of (by decide) (Nat.le_of_ble_eq_true rfl) ?_
  intro p e s m below meth c A hAe hX hz hP hD hA hS ls hl
  obtain ⟨hx, hb, hr, hml, hown, hlocks, hnm, hG, hnh⟩ := id hX
  have hown : s.vm.findClass "HoldBook$Payment" = some m.cls := hown
  have hts := hE.ts hG ([.ref p0, .long x] : List Value).toArray
  have hK := hE.kn hG
  have hl : lv_has ls 3 [(0, .ref p0), (1, .long x)] := hl
  refine lv_aload_n hx hb d_Pay_take_0 rfl (lv_at hl 0 rfl) ?_
  refine lv_aload_n hx hb d_Pay_take_1 rfl (lv_at hl 0 rfl) ?_
  refine hb_get hx hb hts hown hC_Pay hK hP hp 3 (by decide) rfl fl_Pay_15 rfl d_Pay_take_2 ?_
  refine lv_lload_n hx hb d_Pay_take_5 rfl (lv_at hl 1 rfl) ?_
  refine lv_lsub hx hb d_Pay_take_6 ?_
  refine hb_callV (rest := []) hX hts hb_gd Y_Pay_keepHeld (c_Pay_keepHeld hE M p0 a an am af ab ah al pk ps pu pn pd pt ph pc pa ha hp (ph - x)) ml_Pay_44 im_Pay_keepHeld se_Pay_keepHeld hK hp hC_Pay.1 hz hP hD hS hA rfl hl.1 rfl (Nat.le_of_ble_eq_true rfl) ⟨Nat.le_of_ble_eq_true rfl, Nat.le_of_ble_eq_true rfl⟩ ⟨Nat.le_of_ble_eq_true rfl, Nat.le_of_ble_eq_true rfl⟩ d_Pay_take_7 (fun v3 M1 H locs hq2 hP hD hS _ hkp => ?_)
  obtain ⟨ev7, f4, f5, ho6⟩ := hq2
  subst ev7
  refine W.eq (g2 := F0 m 10 ls []) rfl ?_
  refine lv_aload_n hx hb d_Pay_take_10 rfl (lv_at hl 0 rfl) ?_
  refine lv_dup hx hb d_Pay_take_11 rfl ?_
  refine hb_get hx hb hts hown hC_Pay hK hP f5 4 (by decide) rfl fl_Pay_19 rfl d_Pay_take_12 ?_
  refine lv_lload_n hx hb d_Pay_take_15 rfl (lv_at hl 1 rfl) ?_
  refine lv_ladd hx hb d_Pay_take_16 ?_
  refine hb_put (ty := .long) hx hb hts hown hC_Pay hK hP hD hS f5 4 (by decide) rfl fl_Pay_19 rfl rfl rfl rfl (Nat.le_of_ble_eq_true rfl) d_Pay_take_17 (fun M8 H locs eM9 hP hD hS => ?_)
  have f10 : M8 p0 = some (.inr (1, [.int pk, .ref a, .int ps, .long (ph - x), .long (pc + x), .int pu, .int pn, .int pd, .long pa, .int pt])) := by rw [eM9]; exact hb_up_self
  have f11 : M8 a = some (.inr (0, [.int an, .long am, .long af, .long ab, .long (ah + ((ph - x) - ph)), .long al])) := by rw [eM9, hb_up_ne (fun q9 => by rw [q9, f5] at f4; cases f4)]; exact f4
  refine lv_aload_n hx hb d_Pay_take_20 rfl (lv_at hl 0 rfl) ?_
  refine hb_get hx hb hts hown hC_Pay hK hP f10 1 (by decide) rfl fl_Pay_40 rfl d_Pay_take_21 ?_
  refine lv_dup hx hb d_Pay_take_24 rfl ?_
  refine hb_get hx hb hts hown hC_Acc hK hP f11 3 (by decide) rfl fl_Pay_51 rfl d_Pay_take_25 ?_
  refine lv_lload_n hx hb d_Pay_take_28 rfl (lv_at hl 1 rfl) ?_
  refine lv_lsub hx hb d_Pay_take_29 ?_
  refine hb_put (ty := .long) hx hb hts hown hC_Acc hK hP hD hS f11 3 (by decide) rfl fl_Pay_51 rfl rfl rfl rfl (Nat.le_of_ble_eq_true rfl) d_Pay_take_30 (fun M12 H locs eM13 hP hD hS => ?_)
  have f14 : M12 a = some (.inr (0, [.int an, .long am, .long af, .long (ab - x), .long (ah + ((ph - x) - ph)), .long al])) := by rw [eM13]; exact hb_up_self
  have f15 : M12 p0 = some (.inr (1, [.int pk, .ref a, .int ps, .long (ph - x), .long (pc + x), .int pu, .int pn, .int pd, .long pa, .int pt])) := by rw [eM13, hb_up_ne (fun q9 => by rw [q9, f11] at f10; cases f10)]; exact f10
  exact hb_vret hAe hx hb hr hlocks hP hD hS (Nat.le_of_ble_eq_true rfl) (Nat.le_of_ble_eq_true rfl) (⟨rfl, f14, f15, (((hb_off.rf.tr ho6 (by simp)).up (by simp) eM9).up (by simp) eM13)⟩) d_Pay_take_33
set_option maxHeartbeats 4000000 in
set_option maxRecDepth 100000 in
/-- Payment.endHold(n) -/
theorem c_Pay_endHold {l : Launch} {s0 : State} {D : va_G} {cI cJ cO : ClassId} {e0 mi : Nat} (hE : hb_E l s0 D cI cJ cO e0 mi) (M : hb_M) (p0 a : Nat) (an : Int32) (am af ab ah al : Int64) (pk ps pu pn pd pt : Int32) (ph pc pa : Int64) (ha : M a = some (.inr (0, [.int an, .long am, .long af, .long ab, .long ah, .long al]))) (hp : M p0 = some (.inr (1, [.int pk, .ref a, .int ps, .long ph, .long pc, .int pu, .int pn, .int pd, .long pa, .int pt]))) (n : Int32) : hb_Met l D hb_cl s0 y_Pay_endHold b_Pay_endHold 2 none { frames := 1, cells := 0, slots := 0, locals := 22 } [.ref p0, .int n] M (fun v M1 => v = none ∧ M1 a = some (.inr (0, [.int an, .long am, .long af, .long ab, .long (ah + (0 - ph)), .long al])) ∧ M1 p0 = some (.inr (1, [.int pk, .ref a, .int (if 0 < pc then 3 else 2), .long 0, .long pc, .int 0, .int (if 0 < pc then n else pn), .int pd, .long pa, .int pt])) ∧ hb_off [a, p0] M M1) := by
  refine hb_Met.of (by decide) (Nat.le_of_ble_eq_true rfl) ?_
  intro p e s m below meth c A hAe hX hz hP hD hA hS ls hl
  obtain ⟨hx, hb, hr, hml, hown, hlocks, hnm, hG, hnh⟩ := id hX
  have hown : s.vm.findClass "HoldBook$Payment" = some m.cls := hown
  have hts := hE.ts hG ([.ref p0, .int n] : List Value).toArray
  have hK := hE.kn hG
  have hl : lv_has ls 2 [(0, .ref p0), (1, .int n)] := hl
  refine lv_aload_n hx hb d_Pay_endHold_0 rfl (lv_at hl 0 rfl) ?_
  refine lv_lconst (v := 0) hx hb d_Pay_endHold_1 (by decide) ?_
  refine hb_callV (rest := []) hX hts hb_gd Y_Pay_keepHeld (c_Pay_keepHeld hE M p0 a an am af ab ah al pk ps pu pn pd pt ph pc pa ha hp 0) ml_Pay_44 im_Pay_keepHeld se_Pay_keepHeld hK hp hC_Pay.1 hz hP hD hS hA rfl hl.1 rfl (Nat.le_of_ble_eq_true rfl) ⟨Nat.le_of_ble_eq_true rfl, Nat.le_of_ble_eq_true rfl⟩ ⟨Nat.le_of_ble_eq_true rfl, Nat.le_of_ble_eq_true rfl⟩ d_Pay_endHold_2 (fun v3 M1 H locs hq2 hP hD hS _ hkp => ?_)
  obtain ⟨ev7, f4, f5, ho6⟩ := hq2
  subst ev7
  refine W.eq (g2 := F0 m 5 ls []) rfl ?_
  refine lv_aload_n hx hb d_Pay_endHold_5 rfl (lv_at hl 0 rfl) ?_
  refine lv_iconst (v := 0) hx hb d_Pay_endHold_6 (by decide) ?_
  refine hb_put (ty := .int) hx hb hts hown hC_Pay hK hP hD hS f5 5 (by decide) rfl fl_Pay_22 rfl rfl rfl rfl (Nat.le_of_ble_eq_true rfl) d_Pay_endHold_7 (fun M8 H locs eM9 hP hD hS => ?_)
  have f10 : M8 p0 = some (.inr (1, [.int pk, .ref a, .int ps, .long 0, .long pc, .int 0, .int pn, .int pd, .long pa, .int pt])) := by rw [eM9]; exact hb_up_self
  have f11 : M8 a = some (.inr (0, [.int an, .long am, .long af, .long ab, .long (ah + (0 - ph)), .long al])) := by rw [eM9, hb_up_ne (fun q9 => by rw [q9, f5] at f4; cases f4)]; exact f4
  refine lv_aload_n hx hb d_Pay_endHold_10 rfl (lv_at hl 0 rfl) ?_
  refine hb_get hx hb hts hown hC_Pay hK hP f10 4 (by decide) rfl fl_Pay_19 rfl d_Pay_endHold_11 ?_
  refine lv_lconst (v := 0) hx hb d_Pay_endHold_14 (by decide) ?_
  refine hb_lc_le (tgt := 32) hx hb d_Pay_endHold_15 d_Pay_endHold_16 (by decide) (fun c12 => ?_) (fun c12 => ?_)
  · skip
    have c12n := hb_ngt c12
    have w_c := c12n
    refine lv_aload_n hx hb d_Pay_endHold_32 rfl (lv_at hl 0 rfl) ?_
    refine lv_iconst (v := 2) hx hb d_Pay_endHold_33 (by decide) ?_
    refine hb_put (ty := .int) hx hb hts hown hC_Pay hK hP hD hS f10 2 (by decide) rfl fl_Pay_11 rfl rfl rfl rfl (Nat.le_of_ble_eq_true rfl) d_Pay_endHold_34 (fun M13 H locs eM14 hP hD hS => ?_)
    have f15 : M13 p0 = some (.inr (1, [.int pk, .ref a, .int 2, .long 0, .long pc, .int 0, .int pn, .int pd, .long pa, .int pt])) := by rw [eM14]; exact hb_up_self
    have f16 : M13 a = some (.inr (0, [.int an, .long am, .long af, .long ab, .long (ah + (0 - ph)), .long al])) := by rw [eM14, hb_up_ne (fun q9 => by rw [q9, f10] at f11; cases f11)]; exact f11
    exact hb_vret hAe hx hb hr hlocks hP hD hS (Nat.le_of_ble_eq_true rfl) (Nat.le_of_ble_eq_true rfl) (⟨rfl, f16, by first | (rw [if_pos w_c, if_pos w_c]; exact f15) | (rw [if_neg w_c, if_neg w_c]; exact f15), (((hb_off.rf.tr ho6 (by simp)).up (by simp) eM9).up (by simp) eM14)⟩) d_Pay_endHold_37
  · skip
    have c12n := hb_gt c12
    have w_c := c12n
    refine lv_aload_n hx hb d_Pay_endHold_19 rfl (lv_at hl 0 rfl) ?_
    refine lv_iconst (v := 3) hx hb d_Pay_endHold_20 (by decide) ?_
    refine hb_put (ty := .int) hx hb hts hown hC_Pay hK hP hD hS f10 2 (by decide) rfl fl_Pay_11 rfl rfl rfl rfl (Nat.le_of_ble_eq_true rfl) d_Pay_endHold_21 (fun M17 H locs eM18 hP hD hS => ?_)
    have f19 : M17 p0 = some (.inr (1, [.int pk, .ref a, .int 3, .long 0, .long pc, .int 0, .int pn, .int pd, .long pa, .int pt])) := by rw [eM18]; exact hb_up_self
    have f20 : M17 a = some (.inr (0, [.int an, .long am, .long af, .long ab, .long (ah + (0 - ph)), .long al])) := by rw [eM18, hb_up_ne (fun q9 => by rw [q9, f10] at f11; cases f11)]; exact f11
    refine lv_aload_n hx hb d_Pay_endHold_24 rfl (lv_at hl 0 rfl) ?_
    refine lv_iload_n hx hb d_Pay_endHold_25 rfl (lv_at hl 1 rfl) ?_
    refine hb_put (ty := .int) hx hb hts hown hC_Pay hK hP hD hS f19 6 (by decide) rfl fl_Pay_25 rfl rfl rfl rfl (Nat.le_of_ble_eq_true rfl) d_Pay_endHold_26 (fun M21 H locs eM22 hP hD hS => ?_)
    have f23 : M21 p0 = some (.inr (1, [.int pk, .ref a, .int 3, .long 0, .long pc, .int 0, .int n, .int pd, .long pa, .int pt])) := by rw [eM22]; exact hb_up_self
    have f24 : M21 a = some (.inr (0, [.int an, .long am, .long af, .long ab, .long (ah + (0 - ph)), .long al])) := by rw [eM22, hb_up_ne (fun q9 => by rw [q9, f19] at f20; cases f20)]; exact f20
    refine lv_goto (tgt := 37) hx hb d_Pay_endHold_29 (by decide) ?_
    exact hb_vret hAe hx hb hr hlocks hP hD hS (Nat.le_of_ble_eq_true rfl) (Nat.le_of_ble_eq_true rfl) (⟨rfl, f24, by first | (rw [if_pos w_c, if_pos w_c]; exact f23) | (rw [if_neg w_c, if_neg w_c]; exact f23), ((((hb_off.rf.tr ho6 (by simp)).up (by simp) eM9).up (by simp) eM18).up (by simp) eM22)⟩) d_Pay_endHold_37
set_option maxHeartbeats 4000000 in
set_option maxRecDepth 100000 in
/-- Payment.openDispute(x, e) -/
theorem c_Pay_openDispute {l : Launch} {s0 : State} {D : va_G} {cI cJ cO : ClassId} {e0 mi : Nat} (hE : hb_E l s0 D cI cJ cO e0 mi) (M : hb_M) (p0 a : Nat) (an : Int32) (am af ab ah al : Int64) (pk ps pu pn pd pt : Int32) (ph pc pa : Int64) (ha : M a = some (.inr (0, [.int an, .long am, .long af, .long ab, .long ah, .long al]))) (hp : M p0 = some (.inr (1, [.int pk, .ref a, .int ps, .long ph, .long pc, .int pu, .int pn, .int pd, .long pa, .int pt]))) (x : Int64) (en : Int32) : hb_Met l D hb_cl s0 y_Pay_openDispute b_Pay_openDispute 4 none { frames := 0, cells := 0, slots := 0, locals := 0 } [.ref p0, .long x, .int en] M (fun v M1 => v = none ∧ M1 a = some (.inr (0, [.int an, .long am, .long af, .long (ab + x), .long ah, .long (al + x)])) ∧ M1 p0 = some (.inr (1, [.int pk, .ref a, .int ps, .long ph, .long pc, .int pu, .int pn, .int 1, .long x, .int en])) ∧ hb_off [a, p0] M M1) := by
  refine hb_Met.of (by decide) (Nat.le_of_ble_eq_true rfl) ?_
  intro p e s m below meth c A hAe hX hz hP hD hA hS ls hl
  obtain ⟨hx, hb, hr, hml, hown, hlocks, hnm, hG, hnh⟩ := id hX
  have hown : s.vm.findClass "HoldBook$Payment" = some m.cls := hown
  have hts := hE.ts hG ([.ref p0, .long x, .int en] : List Value).toArray
  have hK := hE.kn hG
  have hl : lv_has ls 4 [(0, .ref p0), (1, .long x), (3, .int en)] := hl
  refine lv_aload_n hx hb d_Pay_openDispute_0 rfl (lv_at hl 0 rfl) ?_
  refine lv_iconst (v := 1) hx hb d_Pay_openDispute_1 (by decide) ?_
  refine hb_put (ty := .int) hx hb hts hown hC_Pay hK hP hD hS hp 7 (by decide) rfl fl_Pay_28 rfl rfl rfl rfl (Nat.le_of_ble_eq_true rfl) d_Pay_openDispute_2 (fun M1 H locs eM2 hP hD hS => ?_)
  have f3 : M1 p0 = some (.inr (1, [.int pk, .ref a, .int ps, .long ph, .long pc, .int pu, .int pn, .int 1, .long pa, .int pt])) := by rw [eM2]; exact hb_up_self
  have f4 : M1 a = some (.inr (0, [.int an, .long am, .long af, .long ab, .long ah, .long al])) := by rw [eM2, hb_up_ne (fun q9 => by rw [q9, hp] at ha; cases ha)]; exact ha
  refine lv_aload_n hx hb d_Pay_openDispute_5 rfl (lv_at hl 0 rfl) ?_
  refine lv_lload_n hx hb d_Pay_openDispute_6 rfl (lv_at hl 1 rfl) ?_
  refine hb_put (ty := .long) hx hb hts hown hC_Pay hK hP hD hS f3 8 (by decide) rfl fl_Pay_31 rfl rfl rfl rfl (Nat.le_of_ble_eq_true rfl) d_Pay_openDispute_7 (fun M5 H locs eM6 hP hD hS => ?_)
  have f7 : M5 p0 = some (.inr (1, [.int pk, .ref a, .int ps, .long ph, .long pc, .int pu, .int pn, .int 1, .long x, .int pt])) := by rw [eM6]; exact hb_up_self
  have f8 : M5 a = some (.inr (0, [.int an, .long am, .long af, .long ab, .long ah, .long al])) := by rw [eM6, hb_up_ne (fun q9 => by rw [q9, f3] at f4; cases f4)]; exact f4
  refine lv_aload_n hx hb d_Pay_openDispute_10 rfl (lv_at hl 0 rfl) ?_
  refine lv_iload_n hx hb d_Pay_openDispute_11 rfl (lv_at hl 2 rfl) ?_
  refine hb_put (ty := .int) hx hb hts hown hC_Pay hK hP hD hS f7 9 (by decide) rfl fl_Pay_34 rfl rfl rfl rfl (Nat.le_of_ble_eq_true rfl) d_Pay_openDispute_12 (fun M9 H locs eM10 hP hD hS => ?_)
  have f11 : M9 p0 = some (.inr (1, [.int pk, .ref a, .int ps, .long ph, .long pc, .int pu, .int pn, .int 1, .long x, .int en])) := by rw [eM10]; exact hb_up_self
  have f12 : M9 a = some (.inr (0, [.int an, .long am, .long af, .long ab, .long ah, .long al])) := by rw [eM10, hb_up_ne (fun q9 => by rw [q9, f7] at f8; cases f8)]; exact f8
  refine lv_aload_n hx hb d_Pay_openDispute_15 rfl (lv_at hl 0 rfl) ?_
  refine hb_get hx hb hts hown hC_Pay hK hP f11 1 (by decide) rfl fl_Pay_40 rfl d_Pay_openDispute_16 ?_
  refine lv_dup hx hb d_Pay_openDispute_19 rfl ?_
  refine hb_get hx hb hts hown hC_Acc hK hP f12 3 (by decide) rfl fl_Pay_51 rfl d_Pay_openDispute_20 ?_
  refine lv_lload_n hx hb d_Pay_openDispute_23 rfl (lv_at hl 1 rfl) ?_
  refine lv_ladd hx hb d_Pay_openDispute_24 ?_
  refine hb_put (ty := .long) hx hb hts hown hC_Acc hK hP hD hS f12 3 (by decide) rfl fl_Pay_51 rfl rfl rfl rfl (Nat.le_of_ble_eq_true rfl) d_Pay_openDispute_25 (fun M13 H locs eM14 hP hD hS => ?_)
  have f15 : M13 a = some (.inr (0, [.int an, .long am, .long af, .long (ab + x), .long ah, .long al])) := by rw [eM14]; exact hb_up_self
  have f16 : M13 p0 = some (.inr (1, [.int pk, .ref a, .int ps, .long ph, .long pc, .int pu, .int pn, .int 1, .long x, .int en])) := by rw [eM14, hb_up_ne (fun q9 => by rw [q9, f12] at f11; cases f11)]; exact f11
  refine lv_aload_n hx hb d_Pay_openDispute_28 rfl (lv_at hl 0 rfl) ?_
  refine hb_get hx hb hts hown hC_Pay hK hP f16 1 (by decide) rfl fl_Pay_40 rfl d_Pay_openDispute_29 ?_
  refine lv_dup hx hb d_Pay_openDispute_32 rfl ?_
  refine hb_get hx hb hts hown hC_Acc hK hP f15 5 (by decide) rfl fl_Pay_54 rfl d_Pay_openDispute_33 ?_
  refine lv_lload_n hx hb d_Pay_openDispute_36 rfl (lv_at hl 1 rfl) ?_
  refine lv_ladd hx hb d_Pay_openDispute_37 ?_
  refine hb_put (ty := .long) hx hb hts hown hC_Acc hK hP hD hS f15 5 (by decide) rfl fl_Pay_54 rfl rfl rfl rfl (Nat.le_of_ble_eq_true rfl) d_Pay_openDispute_38 (fun M17 H locs eM18 hP hD hS => ?_)
  have f19 : M17 a = some (.inr (0, [.int an, .long am, .long af, .long (ab + x), .long ah, .long (al + x)])) := by rw [eM18]; exact hb_up_self
  have f20 : M17 p0 = some (.inr (1, [.int pk, .ref a, .int ps, .long ph, .long pc, .int pu, .int pn, .int 1, .long x, .int en])) := by rw [eM18, hb_up_ne (fun q9 => by rw [q9, f15] at f16; cases f16)]; exact f16
  exact hb_vret hAe hx hb hr hlocks hP hD hS (Nat.le_of_ble_eq_true rfl) (Nat.le_of_ble_eq_true rfl) (⟨rfl, f19, f20, (((((hb_off.rf.up (by simp) eM2).up (by simp) eM6).up (by simp) eM10).up (by simp) eM14).up (by simp) eM18)⟩) d_Pay_openDispute_41
set_option maxHeartbeats 4000000 in
set_option maxRecDepth 100000 in
/-- Payment.answerDispute(e) -/
theorem c_Pay_answerDispute {l : Launch} {s0 : State} {D : va_G} {cI cJ cO : ClassId} {e0 mi : Nat} (hE : hb_E l s0 D cI cJ cO e0 mi) (M : hb_M) (p0 a : Nat) (pk ps pu pn pd pt : Int32) (ph pc pa : Int64) (hp : M p0 = some (.inr (1, [.int pk, .ref a, .int ps, .long ph, .long pc, .int pu, .int pn, .int pd, .long pa, .int pt]))) (en : Int32) : hb_Met l D hb_cl s0 y_Pay_answerDispute b_Pay_answerDispute 2 none { frames := 0, cells := 0, slots := 0, locals := 0 } [.ref p0, .int en] M (fun v M1 => v = none ∧ M1 p0 = some (.inr (1, [.int pk, .ref a, .int ps, .long ph, .long pc, .int pu, .int pn, .int 2, .long pa, .int en])) ∧ hb_off [p0] M M1) := by
  refine hb_Met.of (by decide) (Nat.le_of_ble_eq_true rfl) ?_
  intro p e s m below meth c A hAe hX hz hP hD hA hS ls hl
  obtain ⟨hx, hb, hr, hml, hown, hlocks, hnm, hG, hnh⟩ := id hX
  have hown : s.vm.findClass "HoldBook$Payment" = some m.cls := hown
  have hts := hE.ts hG ([.ref p0, .int en] : List Value).toArray
  have hK := hE.kn hG
  have hl : lv_has ls 2 [(0, .ref p0), (1, .int en)] := hl
  refine lv_aload_n hx hb d_Pay_answerDispute_0 rfl (lv_at hl 0 rfl) ?_
  refine lv_iconst (v := 2) hx hb d_Pay_answerDispute_1 (by decide) ?_
  refine hb_put (ty := .int) hx hb hts hown hC_Pay hK hP hD hS hp 7 (by decide) rfl fl_Pay_28 rfl rfl rfl rfl (Nat.le_of_ble_eq_true rfl) d_Pay_answerDispute_2 (fun M1 H locs eM2 hP hD hS => ?_)
  have f3 : M1 p0 = some (.inr (1, [.int pk, .ref a, .int ps, .long ph, .long pc, .int pu, .int pn, .int 2, .long pa, .int pt])) := by rw [eM2]; exact hb_up_self
  refine lv_aload_n hx hb d_Pay_answerDispute_5 rfl (lv_at hl 0 rfl) ?_
  refine lv_iload_n hx hb d_Pay_answerDispute_6 rfl (lv_at hl 1 rfl) ?_
  refine hb_put (ty := .int) hx hb hts hown hC_Pay hK hP hD hS f3 9 (by decide) rfl fl_Pay_34 rfl rfl rfl rfl (Nat.le_of_ble_eq_true rfl) d_Pay_answerDispute_7 (fun M4 H locs eM5 hP hD hS => ?_)
  have f6 : M4 p0 = some (.inr (1, [.int pk, .ref a, .int ps, .long ph, .long pc, .int pu, .int pn, .int 2, .long pa, .int en])) := by rw [eM5]; exact hb_up_self
  exact hb_vret hAe hx hb hr hlocks hP hD hS (Nat.le_of_ble_eq_true rfl) (Nat.le_of_ble_eq_true rfl) (⟨rfl, f6, ((hb_off.rf.up (by simp) eM2).up (by simp) eM5)⟩) d_Pay_answerDispute_10
set_option maxHeartbeats 4000000 in
set_option maxRecDepth 100000 in
/-- Payment.endDispute(w) -/
theorem c_Pay_endDispute {l : Launch} {s0 : State} {D : va_G} {cI cJ cO : ClassId} {e0 mi : Nat} (hE : hb_E l s0 D cI cJ cO e0 mi) (M : hb_M) (p0 a : Nat) (an : Int32) (am af ab ah al : Int64) (pk ps pu pn pd pt : Int32) (ph pc pa : Int64) (ha : M a = some (.inr (0, [.int an, .long am, .long af, .long ab, .long ah, .long al]))) (hp : M p0 = some (.inr (1, [.int pk, .ref a, .int ps, .long ph, .long pc, .int pu, .int pn, .int pd, .long pa, .int pt]))) (w : Int32) : hb_Met l D hb_cl s0 y_Pay_endDispute b_Pay_endDispute 2 none { frames := 0, cells := 0, slots := 0, locals := 0 } [.ref p0, .int w] M (fun v M1 => v = none ∧ M1 a = some (.inr (0, [.int an, .long am, .long af, .long (if w = 0 then ab - pa else ab), .long ah, .long (al - pa)])) ∧ M1 p0 = some (.inr (1, [.int pk, .ref a, .int ps, .long ph, .long pc, .int pu, .int pn, .int (if w = 0 then 4 else 3), .long pa, .int (-1)])) ∧ hb_off [a, p0] M M1) := by
  refine hb_Met.of (by decide) (Nat.le_of_ble_eq_true rfl) ?_
  intro p e s m below meth c A hAe hX hz hP hD hA hS ls hl
  obtain ⟨hx, hb, hr, hml, hown, hlocks, hnm, hG, hnh⟩ := id hX
  have hown : s.vm.findClass "HoldBook$Payment" = some m.cls := hown
  have hts := hE.ts hG ([.ref p0, .int w] : List Value).toArray
  have hK := hE.kn hG
  have hl : lv_has ls 2 [(0, .ref p0), (1, .int w)] := hl
  refine lv_aload_n hx hb d_Pay_endDispute_0 rfl (lv_at hl 0 rfl) ?_
  refine hb_get hx hb hts hown hC_Pay hK hP hp 1 (by decide) rfl fl_Pay_40 rfl d_Pay_endDispute_1 ?_
  refine lv_dup hx hb d_Pay_endDispute_4 rfl ?_
  refine hb_get hx hb hts hown hC_Acc hK hP ha 5 (by decide) rfl fl_Pay_54 rfl d_Pay_endDispute_5 ?_
  refine lv_aload_n hx hb d_Pay_endDispute_8 rfl (lv_at hl 0 rfl) ?_
  refine hb_get hx hb hts hown hC_Pay hK hP hp 8 (by decide) rfl fl_Pay_31 rfl d_Pay_endDispute_9 ?_
  refine lv_lsub hx hb d_Pay_endDispute_12 ?_
  refine hb_put (ty := .long) hx hb hts hown hC_Acc hK hP hD hS ha 5 (by decide) rfl fl_Pay_54 rfl rfl rfl rfl (Nat.le_of_ble_eq_true rfl) d_Pay_endDispute_13 (fun M1 H locs eM2 hP hD hS => ?_)
  have f3 : M1 a = some (.inr (0, [.int an, .long am, .long af, .long ab, .long ah, .long (al - pa)])) := by rw [eM2]; exact hb_up_self
  have f4 : M1 p0 = some (.inr (1, [.int pk, .ref a, .int ps, .long ph, .long pc, .int pu, .int pn, .int pd, .long pa, .int pt])) := by rw [eM2, hb_up_ne (fun q9 => by rw [q9, ha] at hp; cases hp)]; exact hp
  refine lv_iload_n hx hb d_Pay_endDispute_16 rfl (lv_at hl 1 rfl) ?_
  refine lv_if_ne (tgt := 36) hx hb d_Pay_endDispute_17 (by decide) (fun c5 => ?_) (fun c5 => ?_)
  · skip
    refine lv_aload_n hx hb d_Pay_endDispute_36 rfl (lv_at hl 0 rfl) ?_
    refine lv_iload_n hx hb d_Pay_endDispute_37 rfl (lv_at hl 1 rfl) ?_
    refine lv_if_eq (tgt := 45) hx hb d_Pay_endDispute_38 (by decide) (fun c6 => ?_) (fun c6 => ?_)
    · skip
      refine lv_iconst (v := 4) hx hb d_Pay_endDispute_45 (by decide) ?_
      refine hb_put (ty := .int) hx hb hts hown hC_Pay hK hP hD hS f4 7 (by decide) rfl fl_Pay_28 rfl rfl rfl rfl (Nat.le_of_ble_eq_true rfl) d_Pay_endDispute_46 (fun M7 H locs eM8 hP hD hS => ?_)
      have f9 : M7 p0 = some (.inr (1, [.int pk, .ref a, .int ps, .long ph, .long pc, .int pu, .int pn, .int 4, .long pa, .int pt])) := by rw [eM8]; exact hb_up_self
      have f10 : M7 a = some (.inr (0, [.int an, .long am, .long af, .long ab, .long ah, .long (al - pa)])) := by rw [eM8, hb_up_ne (fun q9 => by rw [q9, f4] at f3; cases f3)]; exact f3
      refine lv_aload_n hx hb d_Pay_endDispute_49 rfl (lv_at hl 0 rfl) ?_
      refine lv_iconst (v := (-1)) hx hb d_Pay_endDispute_50 (by decide) ?_
      refine hb_put (ty := .int) hx hb hts hown hC_Pay hK hP hD hS f9 9 (by decide) rfl fl_Pay_34 rfl rfl rfl rfl (Nat.le_of_ble_eq_true rfl) d_Pay_endDispute_51 (fun M11 H locs eM12 hP hD hS => ?_)
      have f13 : M11 p0 = some (.inr (1, [.int pk, .ref a, .int ps, .long ph, .long pc, .int pu, .int pn, .int 4, .long pa, .int (-1)])) := by rw [eM12]; exact hb_up_self
      have f14 : M11 a = some (.inr (0, [.int an, .long am, .long af, .long ab, .long ah, .long (al - pa)])) := by rw [eM12, hb_up_ne (fun q9 => by rw [q9, f9] at f10; cases f10)]; exact f10
      exact hb_vret hAe hx hb hr hlocks hP hD hS (Nat.le_of_ble_eq_true rfl) (Nat.le_of_ble_eq_true rfl) (⟨rfl, by simp_all, by simp_all, (((hb_off.rf.up (by simp) eM2).up (by simp) eM8).up (by simp) eM12)⟩) d_Pay_endDispute_54
    · skip
      refine lv_iconst (v := 3) hx hb d_Pay_endDispute_41 (by decide) ?_
      refine lv_goto (tgt := 46) hx hb d_Pay_endDispute_42 (by decide) ?_
      refine hb_put (ty := .int) hx hb hts hown hC_Pay hK hP hD hS f4 7 (by decide) rfl fl_Pay_28 rfl rfl rfl rfl (Nat.le_of_ble_eq_true rfl) d_Pay_endDispute_46 (fun M15 H locs eM16 hP hD hS => ?_)
      have f17 : M15 p0 = some (.inr (1, [.int pk, .ref a, .int ps, .long ph, .long pc, .int pu, .int pn, .int 3, .long pa, .int pt])) := by rw [eM16]; exact hb_up_self
      have f18 : M15 a = some (.inr (0, [.int an, .long am, .long af, .long ab, .long ah, .long (al - pa)])) := by rw [eM16, hb_up_ne (fun q9 => by rw [q9, f4] at f3; cases f3)]; exact f3
      refine lv_aload_n hx hb d_Pay_endDispute_49 rfl (lv_at hl 0 rfl) ?_
      refine lv_iconst (v := (-1)) hx hb d_Pay_endDispute_50 (by decide) ?_
      refine hb_put (ty := .int) hx hb hts hown hC_Pay hK hP hD hS f17 9 (by decide) rfl fl_Pay_34 rfl rfl rfl rfl (Nat.le_of_ble_eq_true rfl) d_Pay_endDispute_51 (fun M19 H locs eM20 hP hD hS => ?_)
      have f21 : M19 p0 = some (.inr (1, [.int pk, .ref a, .int ps, .long ph, .long pc, .int pu, .int pn, .int 3, .long pa, .int (-1)])) := by rw [eM20]; exact hb_up_self
      have f22 : M19 a = some (.inr (0, [.int an, .long am, .long af, .long ab, .long ah, .long (al - pa)])) := by rw [eM20, hb_up_ne (fun q9 => by rw [q9, f17] at f18; cases f18)]; exact f18
      exact hb_vret hAe hx hb hr hlocks hP hD hS (Nat.le_of_ble_eq_true rfl) (Nat.le_of_ble_eq_true rfl) (⟨rfl, by simp_all, by simp_all, (((hb_off.rf.up (by simp) eM2).up (by simp) eM16).up (by simp) eM20)⟩) d_Pay_endDispute_54
  · skip
    refine lv_aload_n hx hb d_Pay_endDispute_20 rfl (lv_at hl 0 rfl) ?_
    refine hb_get hx hb hts hown hC_Pay hK hP f4 1 (by decide) rfl fl_Pay_40 rfl d_Pay_endDispute_21 ?_
    refine lv_dup hx hb d_Pay_endDispute_24 rfl ?_
    refine hb_get hx hb hts hown hC_Acc hK hP f3 3 (by decide) rfl fl_Pay_51 rfl d_Pay_endDispute_25 ?_
    refine lv_aload_n hx hb d_Pay_endDispute_28 rfl (lv_at hl 0 rfl) ?_
    refine hb_get hx hb hts hown hC_Pay hK hP f4 8 (by decide) rfl fl_Pay_31 rfl d_Pay_endDispute_29 ?_
    refine lv_lsub hx hb d_Pay_endDispute_32 ?_
    refine hb_put (ty := .long) hx hb hts hown hC_Acc hK hP hD hS f3 3 (by decide) rfl fl_Pay_51 rfl rfl rfl rfl (Nat.le_of_ble_eq_true rfl) d_Pay_endDispute_33 (fun M23 H locs eM24 hP hD hS => ?_)
    have f25 : M23 a = some (.inr (0, [.int an, .long am, .long af, .long (ab - pa), .long ah, .long (al - pa)])) := by rw [eM24]; exact hb_up_self
    have f26 : M23 p0 = some (.inr (1, [.int pk, .ref a, .int ps, .long ph, .long pc, .int pu, .int pn, .int pd, .long pa, .int pt])) := by rw [eM24, hb_up_ne (fun q9 => by rw [q9, f3] at f4; cases f4)]; exact f4
    refine lv_aload_n hx hb d_Pay_endDispute_36 rfl (lv_at hl 0 rfl) ?_
    refine lv_iload_n hx hb d_Pay_endDispute_37 rfl (lv_at hl 1 rfl) ?_
    refine lv_if_eq (tgt := 45) hx hb d_Pay_endDispute_38 (by decide) (fun c27 => ?_) (fun c27 => ?_)
    · skip
      refine lv_iconst (v := 4) hx hb d_Pay_endDispute_45 (by decide) ?_
      refine hb_put (ty := .int) hx hb hts hown hC_Pay hK hP hD hS f26 7 (by decide) rfl fl_Pay_28 rfl rfl rfl rfl (Nat.le_of_ble_eq_true rfl) d_Pay_endDispute_46 (fun M28 H locs eM29 hP hD hS => ?_)
      have f30 : M28 p0 = some (.inr (1, [.int pk, .ref a, .int ps, .long ph, .long pc, .int pu, .int pn, .int 4, .long pa, .int pt])) := by rw [eM29]; exact hb_up_self
      have f31 : M28 a = some (.inr (0, [.int an, .long am, .long af, .long (ab - pa), .long ah, .long (al - pa)])) := by rw [eM29, hb_up_ne (fun q9 => by rw [q9, f26] at f25; cases f25)]; exact f25
      refine lv_aload_n hx hb d_Pay_endDispute_49 rfl (lv_at hl 0 rfl) ?_
      refine lv_iconst (v := (-1)) hx hb d_Pay_endDispute_50 (by decide) ?_
      refine hb_put (ty := .int) hx hb hts hown hC_Pay hK hP hD hS f30 9 (by decide) rfl fl_Pay_34 rfl rfl rfl rfl (Nat.le_of_ble_eq_true rfl) d_Pay_endDispute_51 (fun M32 H locs eM33 hP hD hS => ?_)
      have f34 : M32 p0 = some (.inr (1, [.int pk, .ref a, .int ps, .long ph, .long pc, .int pu, .int pn, .int 4, .long pa, .int (-1)])) := by rw [eM33]; exact hb_up_self
      have f35 : M32 a = some (.inr (0, [.int an, .long am, .long af, .long (ab - pa), .long ah, .long (al - pa)])) := by rw [eM33, hb_up_ne (fun q9 => by rw [q9, f30] at f31; cases f31)]; exact f31
      exact hb_vret hAe hx hb hr hlocks hP hD hS (Nat.le_of_ble_eq_true rfl) (Nat.le_of_ble_eq_true rfl) (⟨rfl, by simp_all, by simp_all, ((((hb_off.rf.up (by simp) eM2).up (by simp) eM24).up (by simp) eM29).up (by simp) eM33)⟩) d_Pay_endDispute_54
    · skip
      refine lv_iconst (v := 3) hx hb d_Pay_endDispute_41 (by decide) ?_
      refine lv_goto (tgt := 46) hx hb d_Pay_endDispute_42 (by decide) ?_
      refine hb_put (ty := .int) hx hb hts hown hC_Pay hK hP hD hS f26 7 (by decide) rfl fl_Pay_28 rfl rfl rfl rfl (Nat.le_of_ble_eq_true rfl) d_Pay_endDispute_46 (fun M36 H locs eM37 hP hD hS => ?_)
      have f38 : M36 p0 = some (.inr (1, [.int pk, .ref a, .int ps, .long ph, .long pc, .int pu, .int pn, .int 3, .long pa, .int pt])) := by rw [eM37]; exact hb_up_self
      have f39 : M36 a = some (.inr (0, [.int an, .long am, .long af, .long (ab - pa), .long ah, .long (al - pa)])) := by rw [eM37, hb_up_ne (fun q9 => by rw [q9, f26] at f25; cases f25)]; exact f25
      refine lv_aload_n hx hb d_Pay_endDispute_49 rfl (lv_at hl 0 rfl) ?_
      refine lv_iconst (v := (-1)) hx hb d_Pay_endDispute_50 (by decide) ?_
      refine hb_put (ty := .int) hx hb hts hown hC_Pay hK hP hD hS f38 9 (by decide) rfl fl_Pay_34 rfl rfl rfl rfl (Nat.le_of_ble_eq_true rfl) d_Pay_endDispute_51 (fun M40 H locs eM41 hP hD hS => ?_)
      have f42 : M40 p0 = some (.inr (1, [.int pk, .ref a, .int ps, .long ph, .long pc, .int pu, .int pn, .int 3, .long pa, .int (-1)])) := by rw [eM41]; exact hb_up_self
      have f43 : M40 a = some (.inr (0, [.int an, .long am, .long af, .long (ab - pa), .long ah, .long (al - pa)])) := by rw [eM41, hb_up_ne (fun q9 => by rw [q9, f38] at f39; cases f39)]; exact f39
      exact hb_vret hAe hx hb hr hlocks hP hD hS (Nat.le_of_ble_eq_true rfl) (Nat.le_of_ble_eq_true rfl) (⟨rfl, by simp_all, by simp_all, ((((hb_off.rf.up (by simp) eM2).up (by simp) eM24).up (by simp) eM37).up (by simp) eM41)⟩) d_Pay_endDispute_54
set_option maxHeartbeats 4000000 in
set_option maxRecDepth 100000 in
/-- Payment.isDisputeOpen() -/
theorem c_Pay_isDisputeOpen {l : Launch} {s0 : State} {D : va_G} {cI cJ cO : ClassId} {e0 mi : Nat} (hE : hb_E l s0 D cI cJ cO e0 mi) (M : hb_M) (p0 a : Nat) (pk ps pu pn pd pt : Int32) (ph pc pa : Int64) (hp : M p0 = some (.inr (1, [.int pk, .ref a, .int ps, .long ph, .long pc, .int pu, .int pn, .int pd, .long pa, .int pt]))) : hb_Met l D hb_cl s0 y_Pay_isDisputeOpen b_Pay_isDisputeOpen 1 (some .boolean) { frames := 0, cells := 0, slots := 0, locals := 0 } [.ref p0] M (fun v M1 => v = some (.int (if pd = 1 ∨ pd = 2 then 1 else 0)) ∧ M1 = M) := by
  refine hb_Met.of (by decide) (Nat.le_of_ble_eq_true rfl) ?_
  intro p e s m below meth c A hAe hX hz hP hD hA hS ls hl
  obtain ⟨hx, hb, hr, hml, hown, hlocks, hnm, hG, hnh⟩ := id hX
  have hown : s.vm.findClass "HoldBook$Payment" = some m.cls := hown
  have hts := hE.ts hG ([.ref p0] : List Value).toArray
  have hK := hE.kn hG
  have hl : lv_has ls 1 [(0, .ref p0)] := hl
  refine lv_aload_n hx hb d_Pay_isDisputeOpen_0 rfl (lv_at hl 0 rfl) ?_
  refine hb_get hx hb hts hown hC_Pay hK hP hp 7 (by decide) rfl fl_Pay_28 rfl d_Pay_isDisputeOpen_1 ?_
  refine lv_iconst (v := 1) hx hb d_Pay_isDisputeOpen_4 (by decide) ?_
  refine lv_icmp_eq (tgt := 16) hx hb d_Pay_isDisputeOpen_5 (by decide) (fun c1 => ?_) (fun c1 => ?_)
  · skip
    refine lv_iconst (v := 1) hx hb d_Pay_isDisputeOpen_16 (by decide) ?_
    refine lv_goto (tgt := 21) hx hb d_Pay_isDisputeOpen_17 (by decide) ?_
    exact hb_zret hAe hx hb hr (by decide) hlocks hP hD hS (Nat.le_of_ble_eq_true rfl) (Nat.le_of_ble_eq_true rfl) (⟨by simp_all, rfl⟩) d_Pay_isDisputeOpen_21
  · skip
    refine lv_aload_n hx hb d_Pay_isDisputeOpen_8 rfl (lv_at hl 0 rfl) ?_
    refine hb_get hx hb hts hown hC_Pay hK hP hp 7 (by decide) rfl fl_Pay_28 rfl d_Pay_isDisputeOpen_9 ?_
    refine lv_iconst (v := 2) hx hb d_Pay_isDisputeOpen_12 (by decide) ?_
    refine lv_icmp_ne (tgt := 20) hx hb d_Pay_isDisputeOpen_13 (by decide) (fun c2 => ?_) (fun c2 => ?_)
    · skip
      refine lv_iconst (v := 0) hx hb d_Pay_isDisputeOpen_20 (by decide) ?_
      exact hb_zret hAe hx hb hr (by decide) hlocks hP hD hS (Nat.le_of_ble_eq_true rfl) (Nat.le_of_ble_eq_true rfl) (⟨by simp_all, rfl⟩) d_Pay_isDisputeOpen_21
    · skip
      refine lv_iconst (v := 1) hx hb d_Pay_isDisputeOpen_16 (by decide) ?_
      refine lv_goto (tgt := 21) hx hb d_Pay_isDisputeOpen_17 (by decide) ?_
      exact hb_zret hAe hx hb hr (by decide) hlocks hP hD hS (Nat.le_of_ble_eq_true rfl) (Nat.le_of_ble_eq_true rfl) (⟨by simp_all, rfl⟩) d_Pay_isDisputeOpen_21
set_option maxHeartbeats 4000000 in
set_option maxRecDepth 100000 in
/-- Payment.locked() -/
theorem c_Pay_locked {l : Launch} {s0 : State} {D : va_G} {cI cJ cO : ClassId} {e0 mi : Nat} (hE : hb_E l s0 D cI cJ cO e0 mi) (M : hb_M) (p0 a : Nat) (pk ps pu pn pd pt : Int32) (ph pc pa : Int64) (hp : M p0 = some (.inr (1, [.int pk, .ref a, .int ps, .long ph, .long pc, .int pu, .int pn, .int pd, .long pa, .int pt]))) : hb_Met l D hb_cl s0 y_Pay_locked b_Pay_locked 1 (some .long) { frames := 1, cells := 0, slots := 0, locals := 20 } [.ref p0] M (fun v M1 => v = some (.long (if pd = 1 ∨ pd = 2 then pa else 0)) ∧ M1 = M) := by
  refine hb_Met.of (by decide) (Nat.le_of_ble_eq_true rfl) ?_
  intro p e s m below meth c A hAe hX hz hP hD hA hS ls hl
  obtain ⟨hx, hb, hr, hml, hown, hlocks, hnm, hG, hnh⟩ := id hX
  have hown : s.vm.findClass "HoldBook$Payment" = some m.cls := hown
  have hts := hE.ts hG ([.ref p0] : List Value).toArray
  have hK := hE.kn hG
  have hl : lv_has ls 1 [(0, .ref p0)] := hl
  refine lv_aload_n hx hb d_Pay_locked_0 rfl (lv_at hl 0 rfl) ?_
  refine hb_callV (rest := []) hX hts hb_gd Y_Pay_isDisputeOpen (c_Pay_isDisputeOpen hE M p0 a pk ps pu pn pd pt ph pc pa hp) ml_Pay_57 im_Pay_isDisputeOpen se_Pay_isDisputeOpen hK hp hC_Pay.1 hz hP hD hS hA rfl hl.1 rfl (Nat.le_of_ble_eq_true rfl) ⟨Nat.le_of_ble_eq_true rfl, Nat.le_of_ble_eq_true rfl⟩ ⟨Nat.le_of_ble_eq_true rfl, Nat.le_of_ble_eq_true rfl⟩ d_Pay_locked_1 (fun v3 M1 H locs hq2 hP hD hS _ hkp => ?_)
  obtain ⟨ev4, eM5⟩ := hq2
  subst ev4
  rw [eM5] at hP hD
  refine W.eq (g2 := F0 m 4 ls [.int (if pd = 1 ∨ pd = 2 then 1 else 0)]) rfl ?_
  refine lv_if_eq (tgt := 14) hx hb d_Pay_locked_4 (by decide) (fun c6 => ?_) (fun c6 => ?_)
  · skip
    refine lv_lconst (v := 0) hx hb d_Pay_locked_14 (by decide) ?_
    exact hb_lret hAe hx hb hr hlocks hP hD hS (Nat.le_of_ble_eq_true rfl) (Nat.le_of_ble_eq_true rfl) (⟨by simp_all, rfl⟩) d_Pay_locked_15
  · skip
    refine lv_aload_n hx hb d_Pay_locked_7 rfl (lv_at hl 0 rfl) ?_
    refine hb_get hx hb hts hown hC_Pay hK hP hp 8 (by decide) rfl fl_Pay_31 rfl d_Pay_locked_8 ?_
    refine lv_goto (tgt := 15) hx hb d_Pay_locked_11 (by decide) ?_
    exact hb_lret hAe hx hb hr hlocks hP hD hS (Nat.le_of_ble_eq_true rfl) (Nat.le_of_ble_eq_true rfl) (⟨by simp_all, rfl⟩) d_Pay_locked_15
end
section
/-! ACCOUNT AND PAYMENT: tell, passTo -/
theorem hb_le {x y : Int32} (h : ¬ y < x) : x ≤ y := by
  rw [Int32.le_iff_toInt_le]
  rw [Int32.lt_iff_toInt_lt] at h
  omega
set_option maxHeartbeats 4000000 in
set_option maxRecDepth 100000 in
/-- Account.tell(w) -/
theorem c_Acc_tell {l : Launch} {s0 : State} {D : va_G} {cI cJ cO : ClassId} {e0 mi : Nat} (hE : hb_E l s0 D cI cJ cO e0 mi) (M : hb_M) (a : Nat) (an : Int32) (am af ab ah al : Int64) (ha : M a = some (.inr (0, [.int an, .long am, .long af, .long ab, .long ah, .long al]))) (w : Int32) : hb_Met l D hb_cl s0 y_Acc_tell b_Acc_tell 2 (some .long) { frames := 1, cells := 0, slots := 0, locals := 20 } [.ref a, .int w] M (fun v M1 => v = some (.long (if w = 0 then ab else if w = 1 then ah else if w = 2 then al else ab - am - ah - al)) ∧ M1 = M) := by
  refine hb_Met.of (by decide) (Nat.le_of_ble_eq_true rfl) ?_
  intro p e s m below meth c A hAe hX hz hP hD hA hS ls hl
  obtain ⟨hx, hb, hr, hml, hown, hlocks, hnm, hG, hnh⟩ := id hX
  have hown : s.vm.findClass "HoldBook$Account" = some m.cls := hown
  have hts := hE.ts hG ([.ref a, .int w] : List Value).toArray
  have hK := hE.kn hG
  have hl : lv_has ls 2 [(0, .ref a), (1, .int w)] := hl
  refine lv_iload_n hx hb d_Acc_tell_0 rfl (lv_at hl 1 rfl) ?_
  by_cases c1 : w = 0
  · skip
    refine lv_tableIn (off := 27) (tgt := 28) hx hb d_Acc_tell_1 (by rw [c1]; decide) (by rw [c1]; decide) (by rw [c1]; decide) (by decide) ?_
    refine lv_aload_n hx hb d_Acc_tell_28 rfl (lv_at hl 0 rfl) ?_
    refine hb_get hx hb hts hown hC_Acc hK hP ha 3 (by decide) rfl fl_Acc_20 rfl d_Acc_tell_29 ?_
    exact hb_lret hAe hx hb hr hlocks hP hD hS (Nat.le_of_ble_eq_true rfl) (Nat.le_of_ble_eq_true rfl) (⟨by rw [if_pos c1], rfl⟩) d_Acc_tell_32
  by_cases c2 : w = 1
  · skip
    refine lv_tableIn (off := 32) (tgt := 33) hx hb d_Acc_tell_1 (by rw [c2]; decide) (by rw [c2]; decide) (by rw [c2]; decide) (by decide) ?_
    refine lv_aload_n hx hb d_Acc_tell_33 rfl (lv_at hl 0 rfl) ?_
    refine hb_get hx hb hts hown hC_Acc hK hP ha 4 (by decide) rfl fl_Acc_7 rfl d_Acc_tell_34 ?_
    exact hb_lret hAe hx hb hr hlocks hP hD hS (Nat.le_of_ble_eq_true rfl) (Nat.le_of_ble_eq_true rfl) (⟨by rw [if_neg c1, if_pos c2], rfl⟩) d_Acc_tell_37
  by_cases c3 : w = 2
  · skip
    refine lv_tableIn (off := 37) (tgt := 38) hx hb d_Acc_tell_1 (by rw [c3]; decide) (by rw [c3]; decide) (by rw [c3]; decide) (by decide) ?_
    refine lv_aload_n hx hb d_Acc_tell_38 rfl (lv_at hl 0 rfl) ?_
    refine hb_get hx hb hts hown hC_Acc hK hP ha 5 (by decide) rfl fl_Acc_13 rfl d_Acc_tell_39 ?_
    exact hb_lret hAe hx hb hr hlocks hP hD hS (Nat.le_of_ble_eq_true rfl) (Nat.le_of_ble_eq_true rfl) (⟨by rw [if_neg c1, if_neg c2, if_pos c3], rfl⟩) d_Acc_tell_42
  refine lv_tableOut (tgt := 43) hx hb d_Acc_tell_1 (by have n0 := lv_neT (a := 0) c1 (by decide); have n1 := lv_neT (a := 1) c2 (by decide); have n2 := lv_neT (a := 2) c3 (by decide); omega) (by decide) ?_
  refine lv_aload_n hx hb d_Acc_tell_43 rfl (lv_at hl 0 rfl) ?_
  refine hb_callV (rest := []) hX hts hb_gd Y_Acc_free (c_Acc_free hE M a an am af ab ah al ha) ml_Acc_29 im_Acc_free se_Acc_free hK ha hC_Acc.1 hz hP hD hS hA rfl hl.1 rfl (Nat.le_of_ble_eq_true rfl) ⟨Nat.le_of_ble_eq_true rfl, Nat.le_of_ble_eq_true rfl⟩ ⟨Nat.le_of_ble_eq_true rfl, Nat.le_of_ble_eq_true rfl⟩ d_Acc_tell_44 (fun v6 M4 H locs hq5 hP hD hS _ hkp => ?_)
  obtain ⟨ev7, eM8⟩ := hq5
  subst ev7
  rw [eM8] at hP hD
  refine W.eq (g2 := F0 m 47 ls [.long (ab - am - ah - al)]) rfl ?_
  exact hb_lret hAe hx hb hr hlocks hP hD hS (Nat.le_of_ble_eq_true rfl) (Nat.le_of_ble_eq_true rfl) (⟨by rw [if_neg c1, if_neg c2, if_neg c3], rfl⟩) d_Acc_tell_47
set_option maxHeartbeats 4000000 in
set_option maxRecDepth 100000 in
/-- Payment.tell(w) -/
theorem c_Pay_tell {l : Launch} {s0 : State} {D : va_G} {cI cJ cO : ClassId} {e0 mi : Nat} (hE : hb_E l s0 D cI cJ cO e0 mi) (M : hb_M) (p0 a : Nat) (an : Int32) (am af ab ah al : Int64) (pk ps pu pn pd pt : Int32) (ph pc pa : Int64) (ha : M a = some (.inr (0, [.int an, .long am, .long af, .long ab, .long ah, .long al]))) (hp : M p0 = some (.inr (1, [.int pk, .ref a, .int ps, .long ph, .long pc, .int pu, .int pn, .int pd, .long pa, .int pt]))) (w : Int32) : hb_Met l D hb_cl s0 y_Pay_tell b_Pay_tell 2 (some .long) { frames := 0, cells := 0, slots := 0, locals := 0 } [.ref p0, .int w] M (fun v M1 => v = some (.long (if w = 0 then ps.toInt64 else if w = 1 then ph else if w = 2 then pc else if w = 3 then pu.toInt64 else if w = 4 then pn.toInt64 else if w = 5 then an.toInt64 else if w = 6 then pd.toInt64 else if w = 7 then pa else pt.toInt64)) ∧ M1 = M) := by
  refine hb_Met.of (by decide) (Nat.le_of_ble_eq_true rfl) ?_
  intro p e s m below meth c A hAe hX hz hP hD hA hS ls hl
  obtain ⟨hx, hb, hr, hml, hown, hlocks, hnm, hG, hnh⟩ := id hX
  have hown : s.vm.findClass "HoldBook$Payment" = some m.cls := hown
  have hts := hE.ts hG ([.ref p0, .int w] : List Value).toArray
  have hK := hE.kn hG
  have hl : lv_has ls 2 [(0, .ref p0), (1, .int w)] := hl
  refine lv_iload_n hx hb d_Pay_tell_0 rfl (lv_at hl 1 rfl) ?_
  by_cases c1 : w = 0
  · skip
    refine lv_tableIn (off := 47) (tgt := 48) hx hb d_Pay_tell_1 (by rw [c1]; decide) (by rw [c1]; decide) (by rw [c1]; decide) (by decide) ?_
    refine lv_aload_n hx hb d_Pay_tell_48 rfl (lv_at hl 0 rfl) ?_
    refine hb_get hx hb hts hown hC_Pay hK hP hp 2 (by decide) rfl fl_Pay_11 rfl d_Pay_tell_49 ?_
    refine lv_i2l (v := ps.toInt64) hx hb d_Pay_tell_52 rfl ?_
    exact hb_lret hAe hx hb hr hlocks hP hD hS (Nat.le_of_ble_eq_true rfl) (Nat.le_of_ble_eq_true rfl) (⟨by rw [if_pos c1], rfl⟩) d_Pay_tell_53
  by_cases c2 : w = 1
  · skip
    refine lv_tableIn (off := 53) (tgt := 54) hx hb d_Pay_tell_1 (by rw [c2]; decide) (by rw [c2]; decide) (by rw [c2]; decide) (by decide) ?_
    refine lv_aload_n hx hb d_Pay_tell_54 rfl (lv_at hl 0 rfl) ?_
    refine hb_get hx hb hts hown hC_Pay hK hP hp 3 (by decide) rfl fl_Pay_15 rfl d_Pay_tell_55 ?_
    exact hb_lret hAe hx hb hr hlocks hP hD hS (Nat.le_of_ble_eq_true rfl) (Nat.le_of_ble_eq_true rfl) (⟨by rw [if_neg c1, if_pos c2], rfl⟩) d_Pay_tell_58
  by_cases c3 : w = 2
  · skip
    refine lv_tableIn (off := 58) (tgt := 59) hx hb d_Pay_tell_1 (by rw [c3]; decide) (by rw [c3]; decide) (by rw [c3]; decide) (by decide) ?_
    refine lv_aload_n hx hb d_Pay_tell_59 rfl (lv_at hl 0 rfl) ?_
    refine hb_get hx hb hts hown hC_Pay hK hP hp 4 (by decide) rfl fl_Pay_19 rfl d_Pay_tell_60 ?_
    exact hb_lret hAe hx hb hr hlocks hP hD hS (Nat.le_of_ble_eq_true rfl) (Nat.le_of_ble_eq_true rfl) (⟨by rw [if_neg c1, if_neg c2, if_pos c3], rfl⟩) d_Pay_tell_63
  by_cases c4 : w = 3
  · skip
    refine lv_tableIn (off := 63) (tgt := 64) hx hb d_Pay_tell_1 (by rw [c4]; decide) (by rw [c4]; decide) (by rw [c4]; decide) (by decide) ?_
    refine lv_aload_n hx hb d_Pay_tell_64 rfl (lv_at hl 0 rfl) ?_
    refine hb_get hx hb hts hown hC_Pay hK hP hp 5 (by decide) rfl fl_Pay_22 rfl d_Pay_tell_65 ?_
    refine lv_i2l (v := pu.toInt64) hx hb d_Pay_tell_68 rfl ?_
    exact hb_lret hAe hx hb hr hlocks hP hD hS (Nat.le_of_ble_eq_true rfl) (Nat.le_of_ble_eq_true rfl) (⟨by rw [if_neg c1, if_neg c2, if_neg c3, if_pos c4], rfl⟩) d_Pay_tell_69
  by_cases c5 : w = 4
  · skip
    refine lv_tableIn (off := 69) (tgt := 70) hx hb d_Pay_tell_1 (by rw [c5]; decide) (by rw [c5]; decide) (by rw [c5]; decide) (by decide) ?_
    refine lv_aload_n hx hb d_Pay_tell_70 rfl (lv_at hl 0 rfl) ?_
    refine hb_get hx hb hts hown hC_Pay hK hP hp 6 (by decide) rfl fl_Pay_25 rfl d_Pay_tell_71 ?_
    refine lv_i2l (v := pn.toInt64) hx hb d_Pay_tell_74 rfl ?_
    exact hb_lret hAe hx hb hr hlocks hP hD hS (Nat.le_of_ble_eq_true rfl) (Nat.le_of_ble_eq_true rfl) (⟨by rw [if_neg c1, if_neg c2, if_neg c3, if_neg c4, if_pos c5], rfl⟩) d_Pay_tell_75
  by_cases c6 : w = 5
  · skip
    refine lv_tableIn (off := 75) (tgt := 76) hx hb d_Pay_tell_1 (by rw [c6]; decide) (by rw [c6]; decide) (by rw [c6]; decide) (by decide) ?_
    refine lv_aload_n hx hb d_Pay_tell_76 rfl (lv_at hl 0 rfl) ?_
    refine hb_get hx hb hts hown hC_Pay hK hP hp 1 (by decide) rfl fl_Pay_40 rfl d_Pay_tell_77 ?_
    refine hb_get hx hb hts hown hC_Acc hK hP ha 0 (by decide) rfl fl_Pay_69 rfl d_Pay_tell_80 ?_
    refine lv_i2l (v := an.toInt64) hx hb d_Pay_tell_83 rfl ?_
    exact hb_lret hAe hx hb hr hlocks hP hD hS (Nat.le_of_ble_eq_true rfl) (Nat.le_of_ble_eq_true rfl) (⟨by rw [if_neg c1, if_neg c2, if_neg c3, if_neg c4, if_neg c5, if_pos c6], rfl⟩) d_Pay_tell_84
  by_cases c7 : w = 6
  · skip
    refine lv_tableIn (off := 84) (tgt := 85) hx hb d_Pay_tell_1 (by rw [c7]; decide) (by rw [c7]; decide) (by rw [c7]; decide) (by decide) ?_
    refine lv_aload_n hx hb d_Pay_tell_85 rfl (lv_at hl 0 rfl) ?_
    refine hb_get hx hb hts hown hC_Pay hK hP hp 7 (by decide) rfl fl_Pay_28 rfl d_Pay_tell_86 ?_
    refine lv_i2l (v := pd.toInt64) hx hb d_Pay_tell_89 rfl ?_
    exact hb_lret hAe hx hb hr hlocks hP hD hS (Nat.le_of_ble_eq_true rfl) (Nat.le_of_ble_eq_true rfl) (⟨by rw [if_neg c1, if_neg c2, if_neg c3, if_neg c4, if_neg c5, if_neg c6, if_pos c7], rfl⟩) d_Pay_tell_90
  by_cases c8 : w = 7
  · skip
    refine lv_tableIn (off := 90) (tgt := 91) hx hb d_Pay_tell_1 (by rw [c8]; decide) (by rw [c8]; decide) (by rw [c8]; decide) (by decide) ?_
    refine lv_aload_n hx hb d_Pay_tell_91 rfl (lv_at hl 0 rfl) ?_
    refine hb_get hx hb hts hown hC_Pay hK hP hp 8 (by decide) rfl fl_Pay_31 rfl d_Pay_tell_92 ?_
    exact hb_lret hAe hx hb hr hlocks hP hD hS (Nat.le_of_ble_eq_true rfl) (Nat.le_of_ble_eq_true rfl) (⟨by rw [if_neg c1, if_neg c2, if_neg c3, if_neg c4, if_neg c5, if_neg c6, if_neg c7, if_pos c8], rfl⟩) d_Pay_tell_95
  refine lv_tableOut (tgt := 96) hx hb d_Pay_tell_1 (by have n0 := lv_neT (a := 0) c1 (by decide); have n1 := lv_neT (a := 1) c2 (by decide); have n2 := lv_neT (a := 2) c3 (by decide); have n3 := lv_neT (a := 3) c4 (by decide); have n4 := lv_neT (a := 4) c5 (by decide); have n5 := lv_neT (a := 5) c6 (by decide); have n6 := lv_neT (a := 6) c7 (by decide); have n7 := lv_neT (a := 7) c8 (by decide); omega) (by decide) ?_
  refine lv_aload_n hx hb d_Pay_tell_96 rfl (lv_at hl 0 rfl) ?_
  refine hb_get hx hb hts hown hC_Pay hK hP hp 9 (by decide) rfl fl_Pay_34 rfl d_Pay_tell_97 ?_
  refine lv_i2l (v := pt.toInt64) hx hb d_Pay_tell_100 rfl ?_
  exact hb_lret hAe hx hb hr hlocks hP hD hS (Nat.le_of_ble_eq_true rfl) (Nat.le_of_ble_eq_true rfl) (⟨by rw [if_neg c1, if_neg c2, if_neg c3, if_neg c4, if_neg c5, if_neg c6, if_neg c7, if_neg c8], rfl⟩) d_Pay_tell_101
set_option maxHeartbeats 4000000 in
set_option maxRecDepth 100000 in
/-- Payment.passTo(n) -/
theorem c_Pay_passTo {l : Launch} {s0 : State} {D : va_G} {cI cJ cO : ClassId} {e0 mi : Nat} (hE : hb_E l s0 D cI cJ cO e0 mi) (M : hb_M) (p0 a : Nat) (an : Int32) (am af ab ah al : Int64) (pk ps pu pn pd pt : Int32) (ph pc pa : Int64) (ha : M a = some (.inr (0, [.int an, .long am, .long af, .long ab, .long ah, .long al]))) (hp : M p0 = some (.inr (1, [.int pk, .ref a, .int ps, .long ph, .long pc, .int pu, .int pn, .int pd, .long pa, .int pt]))) (n : Int32) : hb_Met l D hb_cl s0 y_Pay_passTo b_Pay_passTo 2 none { frames := 2, cells := 0, slots := 0, locals := 43 } [.ref p0, .int n] M (fun v M1 => v = none ∧ M1 a = some (.inr (0, [.int an, .long am, .long af, .long (if ((pd = 1 ∨ pd = 2) ∧ pt < n) then (if pd = 1 then ab else ab - pa) else ab), .long (if (ps = 1 ∧ pu ≤ n) then ah + (0 - ph) else ah), .long (if ((pd = 1 ∨ pd = 2) ∧ pt < n) then al - pa else al)])) ∧ M1 p0 = some (.inr (1, [.int pk, .ref a, .int (if (ps = 1 ∧ pu ≤ n) then (if 0 < pc then 3 else 2) else ps), .long (if (ps = 1 ∧ pu ≤ n) then 0 else ph), .long pc, .int (if (ps = 1 ∧ pu ≤ n) then 0 else pu), .int (if (ps = 1 ∧ pu ≤ n) then (if 0 < pc then pu else pn) else pn), .int (if ((pd = 1 ∨ pd = 2) ∧ pt < n) then (if pd = 1 then 3 else 4) else pd), .long pa, .int (if ((pd = 1 ∨ pd = 2) ∧ pt < n) then (-1) else pt)])) ∧ hb_off [a, p0] M M1) := by
  refine hb_Met.of (by decide) (Nat.le_of_ble_eq_true rfl) ?_
  intro p e s m below meth c A hAe hX hz hP hD hA hS ls hl
  obtain ⟨hx, hb, hr, hml, hown, hlocks, hnm, hG, hnh⟩ := id hX
  have hown : s.vm.findClass "HoldBook$Payment" = some m.cls := hown
  have hts := hE.ts hG ([.ref p0, .int n] : List Value).toArray
  have hK := hE.kn hG
  have hl : lv_has ls 2 [(0, .ref p0), (1, .int n)] := hl
  refine lv_aload_n hx hb d_Pay_passTo_0 rfl (lv_at hl 0 rfl) ?_
  refine hb_get hx hb hts hown hC_Pay hK hP hp 2 (by decide) rfl fl_Pay_11 rfl d_Pay_passTo_1 ?_
  refine lv_iconst (v := 1) hx hb d_Pay_passTo_4 (by decide) ?_
  refine lv_icmp_ne (tgt := 24) hx hb d_Pay_passTo_5 (by decide) (fun c1 => ?_) (fun c1 => ?_)
  · skip
    have g1 : ¬ (ps = 1 ∧ pu ≤ n) := fun h => c1 h.1
    refine lv_aload_n hx hb d_Pay_passTo_24 rfl (lv_at hl 0 rfl) ?_
    refine hb_callV (rest := []) hX hts hb_gd Y_Pay_isDisputeOpen (c_Pay_isDisputeOpen hE M p0 a pk ps pu pn pd pt ph pc pa hp) ml_Pay_57 im_Pay_isDisputeOpen se_Pay_isDisputeOpen hK hp hC_Pay.1 hz hP hD hS hA rfl hl.1 rfl (Nat.le_of_ble_eq_true rfl) ⟨Nat.le_of_ble_eq_true rfl, Nat.le_of_ble_eq_true rfl⟩ ⟨Nat.le_of_ble_eq_true rfl, Nat.le_of_ble_eq_true rfl⟩ d_Pay_passTo_25 (fun v4 M2 H locs hq3 hP hD hS _ hkp => ?_)
    obtain ⟨ev5, eM6⟩ := hq3
    subst ev5
    rw [eM6] at hP hD
    refine W.eq (g2 := F0 m 28 ls [.int (if pd = 1 ∨ pd = 2 then 1 else 0)]) rfl ?_
    refine lv_if_eq (tgt := 56) hx hb d_Pay_passTo_28 (by decide) (fun c7 => ?_) (fun c7 => ?_)
    · skip
      have g2 : ¬ ((pd = 1 ∨ pd = 2) ∧ pt < n) := fun h => by rw [if_pos h.1] at c7; exact absurd c7 (by decide)
      exact hb_vret hAe hx hb hr hlocks hP hD hS (Nat.le_of_ble_eq_true rfl) (Nat.le_of_ble_eq_true rfl) (⟨rfl, by have h9 := ha; simp only [if_neg g1, if_neg g2] at h9 ⊢; exact h9, by have h9 := hp; simp only [if_neg g1, if_neg g2] at h9 ⊢; exact h9, hb_off.rf⟩) d_Pay_passTo_56
    · skip
      have g3 : pd = 1 ∨ pd = 2 := Classical.byContradiction (fun z => by rw [if_neg z] at c7; exact c7 rfl)
      refine lv_aload_n hx hb d_Pay_passTo_31 rfl (lv_at hl 0 rfl) ?_
      refine hb_get hx hb hts hown hC_Pay hK hP hp 9 (by decide) rfl fl_Pay_34 rfl d_Pay_passTo_32 ?_
      refine lv_iload_n hx hb d_Pay_passTo_35 rfl (lv_at hl 1 rfl) ?_
      refine lv_icmp_ge (tgt := 56) hx hb d_Pay_passTo_36 (by decide) (fun c8 => ?_) (fun c8 => ?_)
      · skip
        have c8n := hb_ngti c8
        have g2 : ¬ ((pd = 1 ∨ pd = 2) ∧ pt < n) := fun h => c8n h.2
        exact hb_vret hAe hx hb hr hlocks hP hD hS (Nat.le_of_ble_eq_true rfl) (Nat.le_of_ble_eq_true rfl) (⟨rfl, by have h9 := ha; simp only [if_neg g1, if_neg g2] at h9 ⊢; exact h9, by have h9 := hp; simp only [if_neg g1, if_neg g2] at h9 ⊢; exact h9, hb_off.rf⟩) d_Pay_passTo_56
      · skip
        have c8n := hb_gti c8
        have g2 : (pd = 1 ∨ pd = 2) ∧ pt < n := ⟨g3, c8n⟩
        refine lv_aload_n hx hb d_Pay_passTo_39 rfl (lv_at hl 0 rfl) ?_
        refine lv_aload_n hx hb d_Pay_passTo_40 rfl (lv_at hl 0 rfl) ?_
        refine hb_get hx hb hts hown hC_Pay hK hP hp 7 (by decide) rfl fl_Pay_28 rfl d_Pay_passTo_41 ?_
        refine lv_iconst (v := 1) hx hb d_Pay_passTo_44 (by decide) ?_
        refine lv_icmp_ne (tgt := 52) hx hb d_Pay_passTo_45 (by decide) (fun c9 => ?_) (fun c9 => ?_)
        · skip
          refine lv_iconst (v := 0) hx hb d_Pay_passTo_52 (by decide) ?_
          refine hb_callV (rest := []) hX hts hb_gd Y_Pay_endDispute (c_Pay_endDispute hE M p0 a an am af ab ah al pk ps pu pn pd pt ph pc pa ha hp 0) ml_Pay_65 im_Pay_endDispute se_Pay_endDispute hK hp hC_Pay.1 hz hP hD hS hA rfl hl.1 rfl (Nat.le_of_ble_eq_true rfl) ⟨Nat.le_of_ble_eq_true rfl, Nat.le_of_ble_eq_true rfl⟩ ⟨Nat.le_of_ble_eq_true rfl, Nat.le_of_ble_eq_true rfl⟩ d_Pay_passTo_53 (fun v12 M10 H locs hq11 hP hD hS _ hkp => ?_)
          obtain ⟨ev16, f13, f14, ho15⟩ := hq11
          subst ev16
          refine W.eq (g2 := F0 m 56 ls []) rfl ?_
          exact hb_vret hAe hx hb hr hlocks hP hD hS (Nat.le_of_ble_eq_true rfl) (Nat.le_of_ble_eq_true rfl) (⟨rfl, by have h9 := f13; simp only [if_neg g1, if_pos g2, if_neg c9, if_pos (rfl : (0 : Int32) = 0)] at h9 ⊢; exact h9, by have h9 := f14; simp only [if_neg g1, if_pos g2, if_neg c9, if_pos (rfl : (0 : Int32) = 0)] at h9 ⊢; exact h9, (hb_off.rf.tr ho15 (by simp))⟩) d_Pay_passTo_56
        · skip
          refine lv_iconst (v := 1) hx hb d_Pay_passTo_48 (by decide) ?_
          refine lv_goto (tgt := 53) hx hb d_Pay_passTo_49 (by decide) ?_
          refine hb_callV (rest := []) hX hts hb_gd Y_Pay_endDispute (c_Pay_endDispute hE M p0 a an am af ab ah al pk ps pu pn pd pt ph pc pa ha hp 1) ml_Pay_65 im_Pay_endDispute se_Pay_endDispute hK hp hC_Pay.1 hz hP hD hS hA rfl hl.1 rfl (Nat.le_of_ble_eq_true rfl) ⟨Nat.le_of_ble_eq_true rfl, Nat.le_of_ble_eq_true rfl⟩ ⟨Nat.le_of_ble_eq_true rfl, Nat.le_of_ble_eq_true rfl⟩ d_Pay_passTo_53 (fun v19 M17 H locs hq18 hP hD hS _ hkp => ?_)
          obtain ⟨ev23, f20, f21, ho22⟩ := hq18
          subst ev23
          refine W.eq (g2 := F0 m 56 ls []) rfl ?_
          exact hb_vret hAe hx hb hr hlocks hP hD hS (Nat.le_of_ble_eq_true rfl) (Nat.le_of_ble_eq_true rfl) (⟨rfl, by have h9 := f20; simp only [if_neg g1, if_pos g2, if_pos c9, if_neg (by decide : ¬ (1 : Int32) = 0)] at h9 ⊢; exact h9, by have h9 := f21; simp only [if_neg g1, if_pos g2, if_pos c9, if_neg (by decide : ¬ (1 : Int32) = 0)] at h9 ⊢; exact h9, (hb_off.rf.tr ho22 (by simp))⟩) d_Pay_passTo_56
  · skip
    have g0 := c1
    refine lv_aload_n hx hb d_Pay_passTo_8 rfl (lv_at hl 0 rfl) ?_
    refine hb_get hx hb hts hown hC_Pay hK hP hp 5 (by decide) rfl fl_Pay_22 rfl d_Pay_passTo_9 ?_
    refine lv_iload_n hx hb d_Pay_passTo_12 rfl (lv_at hl 1 rfl) ?_
    refine lv_icmp_gt (tgt := 24) hx hb d_Pay_passTo_13 (by decide) (fun c24 => ?_) (fun c24 => ?_)
    · skip
      have g1 : ¬ (ps = 1 ∧ pu ≤ n) := fun h => hb_ngti h.2 c24
      refine lv_aload_n hx hb d_Pay_passTo_24 rfl (lv_at hl 0 rfl) ?_
      refine hb_callV (rest := []) hX hts hb_gd Y_Pay_isDisputeOpen (c_Pay_isDisputeOpen hE M p0 a pk ps pu pn pd pt ph pc pa hp) ml_Pay_57 im_Pay_isDisputeOpen se_Pay_isDisputeOpen hK hp hC_Pay.1 hz hP hD hS hA rfl hl.1 rfl (Nat.le_of_ble_eq_true rfl) ⟨Nat.le_of_ble_eq_true rfl, Nat.le_of_ble_eq_true rfl⟩ ⟨Nat.le_of_ble_eq_true rfl, Nat.le_of_ble_eq_true rfl⟩ d_Pay_passTo_25 (fun v27 M25 H locs hq26 hP hD hS _ hkp => ?_)
      obtain ⟨ev28, eM29⟩ := hq26
      subst ev28
      rw [eM29] at hP hD
      refine W.eq (g2 := F0 m 28 ls [.int (if pd = 1 ∨ pd = 2 then 1 else 0)]) rfl ?_
      refine lv_if_eq (tgt := 56) hx hb d_Pay_passTo_28 (by decide) (fun c30 => ?_) (fun c30 => ?_)
      · skip
        have g2 : ¬ ((pd = 1 ∨ pd = 2) ∧ pt < n) := fun h => by rw [if_pos h.1] at c30; exact absurd c30 (by decide)
        exact hb_vret hAe hx hb hr hlocks hP hD hS (Nat.le_of_ble_eq_true rfl) (Nat.le_of_ble_eq_true rfl) (⟨rfl, by have h9 := ha; simp only [if_neg g1, if_neg g2] at h9 ⊢; exact h9, by have h9 := hp; simp only [if_neg g1, if_neg g2] at h9 ⊢; exact h9, hb_off.rf⟩) d_Pay_passTo_56
      · skip
        have g3 : pd = 1 ∨ pd = 2 := Classical.byContradiction (fun z => by rw [if_neg z] at c30; exact c30 rfl)
        refine lv_aload_n hx hb d_Pay_passTo_31 rfl (lv_at hl 0 rfl) ?_
        refine hb_get hx hb hts hown hC_Pay hK hP hp 9 (by decide) rfl fl_Pay_34 rfl d_Pay_passTo_32 ?_
        refine lv_iload_n hx hb d_Pay_passTo_35 rfl (lv_at hl 1 rfl) ?_
        refine lv_icmp_ge (tgt := 56) hx hb d_Pay_passTo_36 (by decide) (fun c31 => ?_) (fun c31 => ?_)
        · skip
          have c31n := hb_ngti c31
          have g2 : ¬ ((pd = 1 ∨ pd = 2) ∧ pt < n) := fun h => c31n h.2
          exact hb_vret hAe hx hb hr hlocks hP hD hS (Nat.le_of_ble_eq_true rfl) (Nat.le_of_ble_eq_true rfl) (⟨rfl, by have h9 := ha; simp only [if_neg g1, if_neg g2] at h9 ⊢; exact h9, by have h9 := hp; simp only [if_neg g1, if_neg g2] at h9 ⊢; exact h9, hb_off.rf⟩) d_Pay_passTo_56
        · skip
          have c31n := hb_gti c31
          have g2 : (pd = 1 ∨ pd = 2) ∧ pt < n := ⟨g3, c31n⟩
          refine lv_aload_n hx hb d_Pay_passTo_39 rfl (lv_at hl 0 rfl) ?_
          refine lv_aload_n hx hb d_Pay_passTo_40 rfl (lv_at hl 0 rfl) ?_
          refine hb_get hx hb hts hown hC_Pay hK hP hp 7 (by decide) rfl fl_Pay_28 rfl d_Pay_passTo_41 ?_
          refine lv_iconst (v := 1) hx hb d_Pay_passTo_44 (by decide) ?_
          refine lv_icmp_ne (tgt := 52) hx hb d_Pay_passTo_45 (by decide) (fun c32 => ?_) (fun c32 => ?_)
          · skip
            refine lv_iconst (v := 0) hx hb d_Pay_passTo_52 (by decide) ?_
            refine hb_callV (rest := []) hX hts hb_gd Y_Pay_endDispute (c_Pay_endDispute hE M p0 a an am af ab ah al pk ps pu pn pd pt ph pc pa ha hp 0) ml_Pay_65 im_Pay_endDispute se_Pay_endDispute hK hp hC_Pay.1 hz hP hD hS hA rfl hl.1 rfl (Nat.le_of_ble_eq_true rfl) ⟨Nat.le_of_ble_eq_true rfl, Nat.le_of_ble_eq_true rfl⟩ ⟨Nat.le_of_ble_eq_true rfl, Nat.le_of_ble_eq_true rfl⟩ d_Pay_passTo_53 (fun v35 M33 H locs hq34 hP hD hS _ hkp => ?_)
            obtain ⟨ev39, f36, f37, ho38⟩ := hq34
            subst ev39
            refine W.eq (g2 := F0 m 56 ls []) rfl ?_
            exact hb_vret hAe hx hb hr hlocks hP hD hS (Nat.le_of_ble_eq_true rfl) (Nat.le_of_ble_eq_true rfl) (⟨rfl, by have h9 := f36; simp only [if_neg g1, if_pos g2, if_neg c32, if_pos (rfl : (0 : Int32) = 0)] at h9 ⊢; exact h9, by have h9 := f37; simp only [if_neg g1, if_pos g2, if_neg c32, if_pos (rfl : (0 : Int32) = 0)] at h9 ⊢; exact h9, (hb_off.rf.tr ho38 (by simp))⟩) d_Pay_passTo_56
          · skip
            refine lv_iconst (v := 1) hx hb d_Pay_passTo_48 (by decide) ?_
            refine lv_goto (tgt := 53) hx hb d_Pay_passTo_49 (by decide) ?_
            refine hb_callV (rest := []) hX hts hb_gd Y_Pay_endDispute (c_Pay_endDispute hE M p0 a an am af ab ah al pk ps pu pn pd pt ph pc pa ha hp 1) ml_Pay_65 im_Pay_endDispute se_Pay_endDispute hK hp hC_Pay.1 hz hP hD hS hA rfl hl.1 rfl (Nat.le_of_ble_eq_true rfl) ⟨Nat.le_of_ble_eq_true rfl, Nat.le_of_ble_eq_true rfl⟩ ⟨Nat.le_of_ble_eq_true rfl, Nat.le_of_ble_eq_true rfl⟩ d_Pay_passTo_53 (fun v42 M40 H locs hq41 hP hD hS _ hkp => ?_)
            obtain ⟨ev46, f43, f44, ho45⟩ := hq41
            subst ev46
            refine W.eq (g2 := F0 m 56 ls []) rfl ?_
            exact hb_vret hAe hx hb hr hlocks hP hD hS (Nat.le_of_ble_eq_true rfl) (Nat.le_of_ble_eq_true rfl) (⟨rfl, by have h9 := f43; simp only [if_neg g1, if_pos g2, if_pos c32, if_neg (by decide : ¬ (1 : Int32) = 0)] at h9 ⊢; exact h9, by have h9 := f44; simp only [if_neg g1, if_pos g2, if_pos c32, if_neg (by decide : ¬ (1 : Int32) = 0)] at h9 ⊢; exact h9, (hb_off.rf.tr ho45 (by simp))⟩) d_Pay_passTo_56
    · skip
      have g1 : ps = 1 ∧ pu ≤ n := ⟨g0, hb_le c24⟩
      refine lv_aload_n hx hb d_Pay_passTo_16 rfl (lv_at hl 0 rfl) ?_
      refine lv_aload_n hx hb d_Pay_passTo_17 rfl (lv_at hl 0 rfl) ?_
      refine hb_get hx hb hts hown hC_Pay hK hP hp 5 (by decide) rfl fl_Pay_22 rfl d_Pay_passTo_18 ?_
      refine hb_callV (rest := []) hX hts hb_gd Y_Pay_endHold (c_Pay_endHold hE M p0 a an am af ab ah al pk ps pu pn pd pt ph pc pa ha hp pu) ml_Pay_61 im_Pay_endHold se_Pay_endHold hK hp hC_Pay.1 hz hP hD hS hA rfl hl.1 rfl (Nat.le_of_ble_eq_true rfl) ⟨Nat.le_of_ble_eq_true rfl, Nat.le_of_ble_eq_true rfl⟩ ⟨Nat.le_of_ble_eq_true rfl, Nat.le_of_ble_eq_true rfl⟩ d_Pay_passTo_21 (fun v49 M47 H locs hq48 hP hD hS _ hkp => ?_)
      obtain ⟨ev53, f50, f51, ho52⟩ := hq48
      subst ev53
      refine W.eq (g2 := F0 m 24 ls []) rfl ?_
      refine lv_aload_n hx hb d_Pay_passTo_24 rfl (lv_at hl 0 rfl) ?_
      refine hb_callV (rest := []) hX hts hb_gd Y_Pay_isDisputeOpen (c_Pay_isDisputeOpen hE M47 p0 a pk (if 0 < pc then 3 else 2) 0 (if 0 < pc then pu else pn) pd pt 0 pc pa f51) ml_Pay_57 im_Pay_isDisputeOpen se_Pay_isDisputeOpen hK f51 hC_Pay.1 hz hP hD hS hA rfl hl.1 rfl (Nat.le_of_ble_eq_true rfl) ⟨Nat.le_of_ble_eq_true rfl, Nat.le_of_ble_eq_true rfl⟩ ⟨Nat.le_of_ble_eq_true rfl, Nat.le_of_ble_eq_true rfl⟩ d_Pay_passTo_25 (fun v56 M54 H locs hq55 hP hD hS _ hkp => ?_)
      obtain ⟨ev57, eM58⟩ := hq55
      subst ev57
      rw [eM58] at hP hD
      refine W.eq (g2 := F0 m 28 ls [.int (if pd = 1 ∨ pd = 2 then 1 else 0)]) rfl ?_
      refine lv_if_eq (tgt := 56) hx hb d_Pay_passTo_28 (by decide) (fun c59 => ?_) (fun c59 => ?_)
      · skip
        have g2 : ¬ ((pd = 1 ∨ pd = 2) ∧ pt < n) := fun h => by rw [if_pos h.1] at c59; exact absurd c59 (by decide)
        exact hb_vret hAe hx hb hr hlocks hP hD hS (Nat.le_of_ble_eq_true rfl) (Nat.le_of_ble_eq_true rfl) (⟨rfl, by have h9 := f50; simp only [if_pos g1, if_neg g2] at h9 ⊢; exact h9, by have h9 := f51; simp only [if_pos g1, if_neg g2] at h9 ⊢; exact h9, (hb_off.rf.tr ho52 (by simp))⟩) d_Pay_passTo_56
      · skip
        have g3 : pd = 1 ∨ pd = 2 := Classical.byContradiction (fun z => by rw [if_neg z] at c59; exact c59 rfl)
        refine lv_aload_n hx hb d_Pay_passTo_31 rfl (lv_at hl 0 rfl) ?_
        refine hb_get hx hb hts hown hC_Pay hK hP f51 9 (by decide) rfl fl_Pay_34 rfl d_Pay_passTo_32 ?_
        refine lv_iload_n hx hb d_Pay_passTo_35 rfl (lv_at hl 1 rfl) ?_
        refine lv_icmp_ge (tgt := 56) hx hb d_Pay_passTo_36 (by decide) (fun c60 => ?_) (fun c60 => ?_)
        · skip
          have c60n := hb_ngti c60
          have g2 : ¬ ((pd = 1 ∨ pd = 2) ∧ pt < n) := fun h => c60n h.2
          exact hb_vret hAe hx hb hr hlocks hP hD hS (Nat.le_of_ble_eq_true rfl) (Nat.le_of_ble_eq_true rfl) (⟨rfl, by have h9 := f50; simp only [if_pos g1, if_neg g2] at h9 ⊢; exact h9, by have h9 := f51; simp only [if_pos g1, if_neg g2] at h9 ⊢; exact h9, (hb_off.rf.tr ho52 (by simp))⟩) d_Pay_passTo_56
        · skip
          have c60n := hb_gti c60
          have g2 : (pd = 1 ∨ pd = 2) ∧ pt < n := ⟨g3, c60n⟩
          refine lv_aload_n hx hb d_Pay_passTo_39 rfl (lv_at hl 0 rfl) ?_
          refine lv_aload_n hx hb d_Pay_passTo_40 rfl (lv_at hl 0 rfl) ?_
          refine hb_get hx hb hts hown hC_Pay hK hP f51 7 (by decide) rfl fl_Pay_28 rfl d_Pay_passTo_41 ?_
          refine lv_iconst (v := 1) hx hb d_Pay_passTo_44 (by decide) ?_
          refine lv_icmp_ne (tgt := 52) hx hb d_Pay_passTo_45 (by decide) (fun c61 => ?_) (fun c61 => ?_)
          · skip
            refine lv_iconst (v := 0) hx hb d_Pay_passTo_52 (by decide) ?_
            refine hb_callV (rest := []) hX hts hb_gd Y_Pay_endDispute (c_Pay_endDispute hE M47 p0 a an am af ab (ah + (0 - ph)) al pk (if 0 < pc then 3 else 2) 0 (if 0 < pc then pu else pn) pd pt 0 pc pa f50 f51 0) ml_Pay_65 im_Pay_endDispute se_Pay_endDispute hK f51 hC_Pay.1 hz hP hD hS hA rfl hl.1 rfl (Nat.le_of_ble_eq_true rfl) ⟨Nat.le_of_ble_eq_true rfl, Nat.le_of_ble_eq_true rfl⟩ ⟨Nat.le_of_ble_eq_true rfl, Nat.le_of_ble_eq_true rfl⟩ d_Pay_passTo_53 (fun v64 M62 H locs hq63 hP hD hS _ hkp => ?_)
            obtain ⟨ev68, f65, f66, ho67⟩ := hq63
            subst ev68
            refine W.eq (g2 := F0 m 56 ls []) rfl ?_
            exact hb_vret hAe hx hb hr hlocks hP hD hS (Nat.le_of_ble_eq_true rfl) (Nat.le_of_ble_eq_true rfl) (⟨rfl, by have h9 := f65; simp only [if_pos g1, if_pos g2, if_neg c61, if_pos (rfl : (0 : Int32) = 0)] at h9 ⊢; exact h9, by have h9 := f66; simp only [if_pos g1, if_pos g2, if_neg c61, if_pos (rfl : (0 : Int32) = 0)] at h9 ⊢; exact h9, ((hb_off.rf.tr ho52 (by simp)).tr ho67 (by simp))⟩) d_Pay_passTo_56
          · skip
            refine lv_iconst (v := 1) hx hb d_Pay_passTo_48 (by decide) ?_
            refine lv_goto (tgt := 53) hx hb d_Pay_passTo_49 (by decide) ?_
            refine hb_callV (rest := []) hX hts hb_gd Y_Pay_endDispute (c_Pay_endDispute hE M47 p0 a an am af ab (ah + (0 - ph)) al pk (if 0 < pc then 3 else 2) 0 (if 0 < pc then pu else pn) pd pt 0 pc pa f50 f51 1) ml_Pay_65 im_Pay_endDispute se_Pay_endDispute hK f51 hC_Pay.1 hz hP hD hS hA rfl hl.1 rfl (Nat.le_of_ble_eq_true rfl) ⟨Nat.le_of_ble_eq_true rfl, Nat.le_of_ble_eq_true rfl⟩ ⟨Nat.le_of_ble_eq_true rfl, Nat.le_of_ble_eq_true rfl⟩ d_Pay_passTo_53 (fun v71 M69 H locs hq70 hP hD hS _ hkp => ?_)
            obtain ⟨ev75, f72, f73, ho74⟩ := hq70
            subst ev75
            refine W.eq (g2 := F0 m 56 ls []) rfl ?_
            exact hb_vret hAe hx hb hr hlocks hP hD hS (Nat.le_of_ble_eq_true rfl) (Nat.le_of_ble_eq_true rfl) (⟨rfl, by have h9 := f72; simp only [if_pos g1, if_pos g2, if_pos c61, if_neg (by decide : ¬ (1 : Int32) = 0)] at h9 ⊢; exact h9, by have h9 := f73; simp only [if_pos g1, if_pos g2, if_pos c61, if_neg (by decide : ¬ (1 : Int32) = 0)] at h9 ⊢; exact h9, ((hb_off.rf.tr ho52 (by simp)).tr ho74 (by simp))⟩) d_Pay_passTo_56
end
section
/-! MORE ROWS over maps: inherited fields, arrays, statics -/
theorem hb_sf {args : Array Value} {s : State} {ref owner name desc : String} (h : (Cond.sameField ref owner name desc).before args s = true) : ∀ x, s.fieldFound? owner name desc = some x → s.fieldFound? ref name desc = some x := by
  intro x hx
  cases hr : s.fieldFound? ref name desc with
  | none => simp [Cond.before, Cond.holds, Cond.value, hr] at h
  | some y =>
    obtain ⟨c, k, i, f⟩ := y
    have h2 := Cond.sameField_spec hr h
    rw [h2] at hx
    exact hx
section HB2
variable {p : Program} {l : Launch} {e : Env} {R : Room} {s0 s : State} {m : MethodId} {args : Array Value} {below : List Frame} {meth : Method} {c : Code} {H : Heap} {locs : List Loc} {cells slots : Nat} {Q : State → Prop}
variable {cc : ByteArray} {pc : Nat} {ls : Array Slot} {rest : List Value} {D : va_G} {cl : List vw_C} {A : Nat → Prop} {a : Nat} {tys : List (ClassId × FieldType)} {M : hb_M} {H0 : Heap}
variable {own C : String} {T : u_T} {N ci index : Nat} {Ts : List Cond} {ty0 : Nat → FieldType} {cI cJ cO : ClassId} {e0 mi : Nat}
theorem hb_getm {ref : String} (hx : p.tables.exec = Jvm.exec) (hb : c.code = cc) (hts : ∀ w ∈ Ts, w.before args s = true) (hown : s.vm.findClass own = some m.cls) (hC : hb_C cl Ts C T N ci ty0) (hK : va_K D cl tys s) (hP : hb_P D cl M H) {fs : List Value} (he : M a = some (.inr (ci, fs))) (k : Nat) (hk : k < N) (hlink : Cond.fieldLink own index ref (T k).2.1 (T k).2.2.1 ∈ Ts) (hsf : Cond.sameField ref (T k).1 (T k).2.1 (T k).2.2.1 ∈ Ts) {v : Value} (hv : fs[k]? = some v) (hdg : decode cc pc = .ok (.getfield index, 3))
    (kk : W p l e R s m args below meth c H locs cells slots Q (F0 m (pc + 3) ls (v :: rest))) : W p l e R s m args below meth c H locs cells slots Q (F0 m pc ls (.ref a :: rest)) :=
  va_get hx hb hts hC.2.1 hown hK (hP.one he) 0 rfl hC.1 k hk (hts _ hlink) (hb_sf (hts _ hsf)) hv hdg kk
theorem hb_putm {ref : String} (hx : p.tables.exec = Jvm.exec) (hb : c.code = cc) (hts : ∀ w ∈ Ts, w.before args s = true) (hown : s.vm.findClass own = some m.cls) (hC : hb_C cl Ts C T N ci ty0) (hK : va_K D cl tys s) (hP : hb_P D cl M H) (hD : hb_D A M) (hS : va_S A H0 H locs) {fs : List Value} (he : M a = some (.inr (ci, fs))) (k : Nat) (hk : k < N) (hlink : Cond.fieldLink own index ref (T k).2.1 (T k).2.2.1 ∈ Ts) (hsf : Cond.sameField ref (T k).1 (T k).2.1 (T k).2.2.1 ∈ Ts) (hfin : (T k).2.2.2 = false) {ty : FieldType} {v : Value} (hd : parseFieldDescriptor (T k).2.2.1 = some ty) (hn : narrow ty v = v) (hfit : fits ty v = true) (hl : k < fs.length) (hdg : decode cc pc = .ok (.putfield index, 3))
    (kk : ∀ (M1 : hb_M) (H1 : Heap) (locs1 : List Loc), M1 = hb_up M a (.inr (ci, fs.set k v)) → hb_P D cl M1 H1 → hb_D A M1 → va_S A H0 H1 locs1 → W p l e R s m args below meth c H1 locs1 cells slots Q (F0 m (pc + 3) ls rest)) : W p l e R s m args below meth c H locs cells slots Q (F0 m pc ls (v :: .ref a :: rest)) := by
  obtain ⟨q0, hq⟩ := hb_L_at hP he
  exact va_put hx hb hts hC.2.1 ty0 hC.2.2.1 hC.2.2.2 hown hK (hb_L_P hP _) (hb_L_D hD _) hS q0 hq hC.1 k hk (hts _ hlink) (hb_sf (hts _ hsf)) hfin hd hn hfit hl hdg (fun H1 locs1 h1 _ h3 => kk _ H1 locs1 rfl (hb_set hP hq h1) (hb_setD hD he) h3)
theorem hb_puto (hx : p.tables.exec = Jvm.exec) (hb : c.code = cc) (hts : ∀ w ∈ Ts, w.before args s = true) (hown : s.vm.findClass own = some m.cls) (hC : hb_C cl Ts C T N ci ty0) (hK : va_K D cl tys s) (hP : hb_P D cl M H) (hD : hb_D A M) (hS : va_S A H0 H locs) {fs : List Value} (he : M a = some (.inr (ci, fs))) (k : Nat) (hk : k < N) (hlink : Cond.fieldLink own index (T k).1 (T k).2.1 (T k).2.2.1 ∈ Ts) (hfin : (T k).2.2.2 = false) {ty : FieldType} {v : Value} (hd : parseFieldDescriptor (T k).2.2.1 = some ty) (hn : narrow ty v = v) (hfit : fits ty v = true) (hl : k < fs.length) (hdg : decode cc pc = .ok (.putfield index, 3))
    (kk : ∀ (M1 : hb_M) (H1 : Heap) (locs1 : List Loc), M1 = hb_up M a (.inr (ci, fs.set k v)) → hb_P D cl M1 H1 → hb_D A M1 → va_S A H0 H1 locs1 → W p l e R s m args below meth c H1 locs1 cells slots Q (F0 m (pc + 3) ls rest)) : W p l e R s m args below meth c H locs cells slots Q (F0 m pc ls (v :: .ref a :: rest)) := by
  obtain ⟨q0, hq⟩ := hb_L_at hP he
  exact va_put hx hb hts hC.2.1 ty0 hC.2.2.1 hC.2.2.2 hown hK (hb_L_P hP _) (hb_L_D hD _) hS q0 hq hC.1 k hk (hts _ hlink) (fun _ h9 => h9) hfin hd hn hfit hl hdg (fun H1 locs1 h1 _ h3 => kk _ H1 locs1 rfl (hb_set hP hq h1) (hb_setD hD he) h3)
abbrev hb_tys (cI cJ cO : ClassId) : List (ClassId × FieldType) := [(cI, .int), (cJ, .long), (cO, .object "java/lang/Object")]
theorem hb_iast (hx : p.tables.exec = Jvm.exec) (hb : c.code = cc) (hK : va_K D cl (hb_tys cI cJ cO) s) (hP : hb_P D cl M H) (hD : hb_D A M) (hS : va_S A H0 H locs) {n : Nat} {f : Nat → Int32} (he : M a = some (.inl (cI, n, .inl f))) {i x : Int32} (hin : vp_in i n) (hdg : decode cc pc = .ok (.iastore, 1))
    (kk : ∀ (M1 : hb_M) (H1 : Heap) (locs1 : List Loc), M1 = hb_up M a (.inl (cI, n, .inl (upd f i.toNatClampNeg x))) → hb_P D cl M1 H1 → hb_D A M1 → va_S A H0 H1 locs1 → W p l e R s m args below meth c H1 locs1 cells slots Q (F0 m (pc + 1) ls rest)) : W p l e R s m args below meth c H locs cells slots Q (F0 m pc ls (.int x :: .int i :: .ref a :: rest)) := by
  obtain ⟨q0, hq⟩ := hb_L_at hP he
  exact va_iast hx hb hK (hb_L_P hP _) (hb_L_D hD _) hS q0 0 hq rfl hin hdg (fun H1 locs1 h1 _ h3 => kk _ H1 locs1 rfl (hb_set hP hq h1) (hb_setD hD he) h3)
theorem hb_last (hx : p.tables.exec = Jvm.exec) (hb : c.code = cc) (hK : va_K D cl (hb_tys cI cJ cO) s) (hP : hb_P D cl M H) (hD : hb_D A M) (hS : va_S A H0 H locs) {n : Nat} {f : Nat → Int64} (he : M a = some (.inl (cJ, n, .inr (.inl f)))) {i : Int32} {x : Int64} (hin : vp_in i n) (hdg : decode cc pc = .ok (.lastore, 1))
    (kk : ∀ (M1 : hb_M) (H1 : Heap) (locs1 : List Loc), M1 = hb_up M a (.inl (cJ, n, .inr (.inl (vp_updL f i.toNatClampNeg x)))) → hb_P D cl M1 H1 → hb_D A M1 → va_S A H0 H1 locs1 → W p l e R s m args below meth c H1 locs1 cells slots Q (F0 m (pc + 1) ls rest)) : W p l e R s m args below meth c H locs cells slots Q (F0 m pc ls (.long x :: .int i :: .ref a :: rest)) := by
  obtain ⟨q0, hq⟩ := hb_L_at hP he
  exact va_last hx hb hK (hb_L_P hP _) (hb_L_D hD _) hS q0 1 hq rfl hin hdg (fun H1 locs1 h1 _ h3 => kk _ H1 locs1 rfl (hb_set hP hq h1) (hb_setD hD he) h3)
/-- an array of references with contents f, as a cell -/
abbrev hb_ar (cO : ClassId) (n : Nat) (f : Nat → Option Nat) : va_E := .inl (cO, n, .inr (.inr (.inr (.inr f))))
theorem hb_astq {v : Nat} (hx : p.tables.exec = Jvm.exec) (hb : c.code = cc) (hK : va_K D cl (hb_tys cI cJ cO) s) (hP : hb_P D cl M H) (hD : hb_D A M) (hS : va_S A H0 H locs) {n : Nat} {f : Nat → Option Nat} (he : M a = some (hb_ar cO n f)) (hr : va_Any "java/lang/Object" s H v) {i : Int32} (hin : vp_in i n) (hdg : decode cc pc = .ok (.aastore, 1))
    (kk : ∀ (M1 : hb_M) (H1 : Heap) (locs1 : List Loc), M1 = hb_up M a (hb_ar cO n (va_up f i.toNatClampNeg (some v))) → hb_P D cl M1 H1 → hb_D A M1 → va_S A H0 H1 locs1 → W p l e R s m args below meth c H1 locs1 cells slots Q (F0 m (pc + 1) ls rest)) : W p l e R s m args below meth c H locs cells slots Q (F0 m pc ls (.ref v :: .int i :: .ref a :: rest)) := by
  obtain ⟨q0, hq⟩ := hb_L_at hP he
  exact va_astqM hx hb hK (hb_L_P hP _) (hb_L_D hD _) hS q0 2 hq rfl hr hin hdg (fun H1 locs1 h1 _ h3 => kk _ H1 locs1 rfl (hb_set hP hq h1) (hb_setD hD he) h3)
theorem hb_astqN (hx : p.tables.exec = Jvm.exec) (hb : c.code = cc) (hK : va_K D cl (hb_tys cI cJ cO) s) (hP : hb_P D cl M H) (hD : hb_D A M) (hS : va_S A H0 H locs) {n : Nat} {f : Nat → Option Nat} (he : M a = some (hb_ar cO n f)) {i : Int32} (hin : vp_in i n) (hdg : decode cc pc = .ok (.aastore, 1))
    (kk : ∀ (M1 : hb_M) (H1 : Heap) (locs1 : List Loc), M1 = hb_up M a (hb_ar cO n (va_up f i.toNatClampNeg none)) → hb_P D cl M1 H1 → hb_D A M1 → va_S A H0 H1 locs1 → W p l e R s m args below meth c H1 locs1 cells slots Q (F0 m (pc + 1) ls rest)) : W p l e R s m args below meth c H locs cells slots Q (F0 m pc ls (.null :: .int i :: .ref a :: rest)) := by
  obtain ⟨q0, hq⟩ := hb_L_at hP he
  exact va_astqN hx hb hK (hb_L_P hP _) (hb_L_D hD _) hS q0 2 hq rfl hin hdg (fun H1 locs1 h1 _ h3 => kk _ H1 locs1 rfl (hb_set hP hq h1) (hb_setD hD he) h3)
theorem hb_newq (hx : p.tables.exec = Jvm.exec) (hb : c.code = cc) (hts : ∀ w ∈ Ts, w.before args s = true) (hown : s.vm.findClass own = some m.cls) (hcl : Cond.classLink own index "java/lang/Object" ∈ Ts) (hao : va_AO "java/lang/Object" s) (hK : va_K D cl (hb_tys cI cJ cO) s) (hP : hb_P D cl M H) (hD : hb_D A M) (hS : va_S A H0 H locs) (hA : ∀ q, H0.size ≤ q → A q)
    {n : Int32} {N' : Nat} (hn : ¬ n < 0) (hN : n.toNatClampNeg = N') (hbytes : N' * 4 ≤ 536870912) (hcells : cells + 1 ≤ R.cells) (hslots : slots + N' ≤ R.slots) (hdg : decode cc pc = .ok (.anewarray index, 3))
    (kk : ∀ (q : Nat) (M1 : hb_M) (H1 : Heap), M q = none → A q → M1 = hb_up M q (hb_ar cO N' (fun _ => none)) → hb_P D cl M1 H1 → hb_D A M1 → va_S A H0 H1 locs → W p l e R s m args below meth c H1 locs (cells + 1) (slots + N') Q (F0 m (pc + 3) ls (.ref q :: rest))) : W p l e R s m args below meth c H locs cells slots Q (F0 m pc ls (.int n :: rest)) := by
  refine va_newq hx hb hown (hts _ hcl) hao hK (hb_L_P hP H.size) (hb_L_D hD H.size) hS hA hn hN hbytes hcells hslots hdg (fun q cA H1 hk h1 h2 h3 => ?_)
  have e1 : cA = cO := by
    obtain ⟨_, _, _, _, _, g1⟩ := (hk.2 3 (cA, .object "java/lang/Object") rfl).2
    obtain ⟨_, _, _, _, _, g2⟩ := (hK.2 2 (cO, .object "java/lang/Object") rfl).2
    exact Option.some.inj (g1.symm.trans g2)
  subst e1
  obtain ⟨g1, g2, g3⟩ := hb_push hP h1 h2
  exact kk q _ H1 g1 g3 rfl g2 (hb_pushD hD g3) h3
theorem hb_newI (hx : p.tables.exec = Jvm.exec) (hb : c.code = cc) (hts : ∀ w ∈ Ts, w.before args s = true) (hac : Cond.arrayClass .int ∈ Ts) (hK : va_K D cl (hb_tys cI cJ cO) s) (hP : hb_P D cl M H) (hD : hb_D A M) (hS : va_S A H0 H locs) (hA : ∀ q, H0.size ≤ q → A q)
    {n : Int32} {N' : Nat} (hn : ¬ n < 0) (hN : n.toNatClampNeg = N') (hbytes : N' * componentBytes .int ≤ 536870912) (hcells : cells + 1 ≤ R.cells) (hslots : slots + N' ≤ R.slots) (hdg : decode cc pc = .ok (.newarray .int, 2))
    (kk : ∀ (q : Nat) (M1 : hb_M) (H1 : Heap), M q = none → A q → M1 = hb_up M q (.inl (cI, N', .inl (fun _ => 0))) → hb_P D cl M1 H1 → hb_D A M1 → va_S A H0 H1 locs → W p l e R s m args below meth c H1 locs (cells + 1) (slots + N') Q (F0 m (pc + 2) ls (.ref q :: rest))) : W p l e R s m args below meth c H locs cells slots Q (F0 m pc ls (.int n :: rest)) := by
  refine va_newa (ty := .int) (a0 := (N', .inl (fun _ => 0))) hx hb (hts (Cond.arrayClass (newarray.typeOf .int)) hac) rfl hK (hb_L_P hP H.size) (hb_L_D hD H.size) hS hA (fun cA => rfl) hn hN hbytes hcells hslots hdg (fun q cA H1 hk h1 h2 h3 => ?_)
  have e1 : cA = cI := Option.some.inj ((show s.vm.findClass ("[" ++ FieldType.int.toString) = some cA from (hk.2 3 (cA, .int) rfl).2).symm.trans (hK.2 0 (cI, .int) rfl).2)
  subst e1
  obtain ⟨g1, g2, g3⟩ := hb_push hP h1 h2
  exact kk q _ H1 g1 g3 rfl g2 (hb_pushD hD g3) h3
theorem hb_newJ (hx : p.tables.exec = Jvm.exec) (hb : c.code = cc) (hts : ∀ w ∈ Ts, w.before args s = true) (hac : Cond.arrayClass .long ∈ Ts) (hK : va_K D cl (hb_tys cI cJ cO) s) (hP : hb_P D cl M H) (hD : hb_D A M) (hS : va_S A H0 H locs) (hA : ∀ q, H0.size ≤ q → A q)
    {n : Int32} {N' : Nat} (hn : ¬ n < 0) (hN : n.toNatClampNeg = N') (hbytes : N' * componentBytes .long ≤ 536870912) (hcells : cells + 1 ≤ R.cells) (hslots : slots + N' ≤ R.slots) (hdg : decode cc pc = .ok (.newarray .long, 2))
    (kk : ∀ (q : Nat) (M1 : hb_M) (H1 : Heap), M q = none → A q → M1 = hb_up M q (.inl (cJ, N', .inr (.inl (fun _ => 0)))) → hb_P D cl M1 H1 → hb_D A M1 → va_S A H0 H1 locs → W p l e R s m args below meth c H1 locs (cells + 1) (slots + N') Q (F0 m (pc + 2) ls (.ref q :: rest))) : W p l e R s m args below meth c H locs cells slots Q (F0 m pc ls (.int n :: rest)) := by
  refine va_newa (ty := .long) (a0 := (N', .inr (.inl (fun _ => 0)))) hx hb (hts (Cond.arrayClass (newarray.typeOf .long)) hac) rfl hK (hb_L_P hP H.size) (hb_L_D hD H.size) hS hA (fun cA => rfl) hn hN hbytes hcells hslots hdg (fun q cA H1 hk h1 h2 h3 => ?_)
  have e1 : cA = cJ := Option.some.inj ((show s.vm.findClass ("[" ++ FieldType.long.toString) = some cA from (hk.2 3 (cA, .long) rfl).2).symm.trans (hK.2 1 (cJ, .long) rfl).2)
  subst e1
  obtain ⟨g1, g2, g3⟩ := hb_push hP h1 h2
  exact kk q _ H1 g1 g3 rfl g2 (hb_pushD hD g3) h3
theorem hb_copyq {src : Nat} (hx : p.tables.exec = Jvm.exec) (hb : c.code = cc) (hml : c.maxLocals = ls.size) (hts : ∀ w ∈ Ts, w.before args s = true) (hown : s.vm.findClass own = some m.cls) (hlink : Cond.methodLink own index arraycopyName ∈ Ts) (hnat : Cond.native arraycopyName ∈ Ts) (hstat : Cond.static arraycopyName ∈ Ts) (hini : Cond.initialized "java/lang/System" ∈ Ts)
    (hK : va_K D cl (hb_tys cI cJ cO) s) (hP : hb_P D cl M H) (hD : hb_D A M) (hS : va_S A H0 H locs) {n0 n1 : Nat} {f g : Nat → Option Nat} (he0 : M src = some (hb_ar cO n0 f)) (he : M a = some (hb_ar cO n1 g)) {sp dp n : Int32} (h1 : ¬ sp < 0) (h2 : ¬ dp < 0) (h3 : ¬ n < 0) (h4 : sp.toNatClampNeg + n.toNatClampNeg ≤ n0) (h5 : dp.toNatClampNeg + n.toNatClampNeg ≤ n1) (hel : ∀ i : Nat, i < n.toNatClampNeg → ∀ y : Nat, f (sp.toNatClampNeg + i) = some y → va_Any "java/lang/Object" s H y)
    (hframes : 1 ≤ R.frames) (hlocals : (rest.map fun v => v.category).sum + (nativeFrameWords "java/lang/System" "arraycopy" 5 + 11) ≤ R.locals) (hdg : decode cc pc = .ok (.invokestatic index, 3))
    (kk : ∀ (M1 : hb_M) (H1 : Heap) (locs1 : List Loc), M1 = hb_up M a (hb_ar cO n1 (va_cpy f g sp.toNatClampNeg dp.toNatClampNeg n.toNatClampNeg)) → hb_P D cl M1 H1 → hb_D A M1 → va_S A H0 H1 locs1 → W p l e R s m args below meth c H1 locs1 cells slots Q (F0 m (pc + 3) ls rest)) : W p l e R s m args below meth c H locs cells slots Q (F0 m pc ls (.int n :: .int dp :: .ref a :: .int sp :: .ref src :: rest)) := by
  obtain ⟨q0, hq0⟩ := hb_L_at hP he0
  obtain ⟨q1, hq⟩ := hb_L_at hP he
  exact va_copyM hx hb hml hown (hts _ hlink) (hts _ hnat) (hts _ hstat) (hts _ hini) hK (hb_L_P hP _) (hb_L_D hD _) hS q0 q1 2 2 hq0 hq rfl rfl h1 h2 h3 h4 h5 hel hframes hlocals hdg (fun H1 locs1 h1 _ h3 => kk _ H1 locs1 rfl (hb_set hP hq h1) (hb_setD hD he) h3)
end HB2
section ENV2
variable {l : Launch} {s0 s : State} {D : va_G} {cI cJ cO : ClassId} {e0 mi : Nat} {A : Nat → Prop}
theorem hb_E.zs (hE : hb_E l s0 D cI cJ cO e0 mi) (hG : hb_G s0 s) (hz : hb_Z s0 A) : va_Z "java/util/ArrayList" "DEFAULTCAPACITY_EMPTY_ELEMENTDATA" "[Ljava/lang/Object;" (.ref e0) A s s.heap := (((hE.2.2.2.1).moved hG.1.alike).kept (fun a h _ => hG.2.2 a h)).narrow hz
theorem hb_E.et (hE : hb_E l s0 D cI cJ cO e0 mi) (hG : hb_G s0 s) (hz : hb_Z s0 A) : va_T (.object "java/lang/Object") e0 0 (fun _ => .null) A s s.heap := by
  obtain ⟨cell, h1, h2, h3, h4, h5, h6, h7⟩ := ((hE.2.2.2.2.1).moved hG.1.alike).kept (H1 := s.heap) (fun a h _ => hG.2.2 a h)
  exact ⟨cell, h1, h2, h3, h4, h5, h6, fun q => h7 (hz _ q)⟩
theorem hb_E.e0lt (hE : hb_E l s0 D cI cJ cO e0 mi) : e0 < s0.heap.size := by
  obtain ⟨cell, h1, -⟩ := hE.2.2.2.2.1
  exact (Array.getElem?_eq_some_iff.mp h1).1
theorem hb_E.ao (hE : hb_E l s0 D cI cJ cO e0 mi) (hG : hb_G s0 s) : va_AO "java/lang/Object" s := hE.2.2.2.2.2.1.moved hG.1.alike
theorem hb_E.mo (hE : hb_E l s0 D cI cJ cO e0 mi) (hG : hb_G s0 s) : va_Mi "[Ljava/lang/Object;" mi s := hE.2.2.2.2.2.2.1.moved hG.1.alike
theorem hb_E.dc (hE : hb_E l s0 D cI cJ cO e0 mi) (hG : hb_G s0 s) : va_Dc s := hE.2.2.2.2.2.2.2.1.moved hG.1.alike
theorem hb_E.nw (hE : hb_E l s0 D cI cJ cO e0 mi) : ∀ w ∈ hb_tb2, va_Nw w s0 := hE.2.2.2.2.2.2.2.2.1
/-- an account or a payment is an object -/
theorem hb_any {M : hb_M} {H : Heap} {v ci : Nat} {fs : List Value} (hE : hb_E l s0 D cI cJ cO e0 mi) (hG : hb_G s0 s) (hP : hb_P D hb_cl M H) (he : M v = some (.inr (ci, fs))) (hci : ci = 0 ∨ ci = 1) : va_Any "java/lang/Object" s H v := by
  rcases hci with rfl | rfl
  · exact va_rAny (hE.kn hG) (hP.one he) (q0 := 0) rfl rfl (fun comp c0 => vb_asgC (va_Nw.warmC hG.1 (hE.nw _ (by decide +kernel))) comp c0)
  · exact va_rAny (hE.kn hG) (hP.one he) (q0 := 0) rfl rfl (fun comp c0 => vb_asgC (va_Nw.warmC hG.1 (hE.nw _ (by decide +kernel))) comp c0)
end ENV2
end
section
/-! ARRAYLIST: contracts of the JDK's methods. hb_els: what the list's array holds are accounts or payments -/
def hb_els (M : hb_M) (f : Nat → Option Nat) (n : Nat) : Prop := ∀ i, i < n → ∃ y ci fs, f i = some y ∧ M y = some (.inr (ci, fs)) ∧ (ci = 0 ∨ ci = 1)
theorem hb_els.ne {M : hb_M} {f : Nat → Option Nat} {n : Nat} (h : hb_els M f n) {M1 : hb_M} {t : Nat} {e e' : va_E} (h1 : M1 = hb_up M t e') (ht : M t = some e) (hne : ∀ ci fs, (ci = 0 ∨ ci = 1) → e ≠ .inr (ci, fs)) : hb_els M1 f n := by
  intro i hi
  obtain ⟨y, ci, fs, a1, a2, a3⟩ := h i hi
  have hy : y ≠ t := fun q => by
    rw [q, ht] at a2
    exact hne ci fs a3 (Option.some.inj a2)
  exact ⟨y, ci, fs, a1, by rw [h1, hb_up_ne hy]; exact a2, a3⟩
theorem hb_els.new {M : hb_M} {f : Nat → Option Nat} {n : Nat} (h : hb_els M f n) {M1 : hb_M} {t : Nat} {e' : va_E} (h1 : M1 = hb_up M t e') (ht : M t = none) : hb_els M1 f n := by
  intro i hi
  obtain ⟨y, ci, fs, a1, a2, a3⟩ := h i hi
  have hy : y ≠ t := fun q => by
    rw [q, ht] at a2
    cases a2
  exact ⟨y, ci, fs, a1, by rw [h1, hb_up_ne hy]; exact a2, a3⟩
theorem hb_ne3 {fs : List Value} : ∀ ci fs', (ci = 0 ∨ ci = 1) → (Sum.inr (3, fs) : va_E) ≠ .inr (ci, fs') := by
  intro ci fs' h q
  cases q
  rcases h with h | h <;> cases h
theorem hb_neA {x : ClassId × vp_A} : ∀ ci fs', (ci = 0 ∨ ci = 1) → (Sum.inl x : va_E) ≠ .inr (ci, fs') := by
  intro ci fs' h q
  cases q
theorem hb_els.any {l : Launch} {s0 s : State} {D : va_G} {cI cJ cO : ClassId} {e0 mi : Nat} {M : hb_M} {H : Heap} {f : Nat → Option Nat} {n : Nat} (h : hb_els M f n) (hE : hb_E l s0 D cI cJ cO e0 mi) (hG : hb_G s0 s) (hP : hb_P D hb_cl M H) {i y : Nat} (hi : i < n) (hy : f i = some y) : va_Any "java/lang/Object" s H y := by
  obtain ⟨y', ci, fs, a1, a2, a3⟩ := h i hi
  rw [hy] at a1
  cases a1
  exact hb_any hE hG hP a2 a3
set_option maxHeartbeats 4000000 in
set_option maxRecDepth 100000 in
/-- AbstractCollection() -/
theorem c_Col_init {l : Launch} {s0 : State} {D : va_G} {cI cJ cO : ClassId} {e0 mi : Nat} (hE : hb_E l s0 D cI cJ cO e0 mi) (M : hb_M) (t : Nat) : hb_Met l D hb_cl s0 y_Col_init b_Col_init 1 none { frames := 1, cells := 0, slots := 0, locals := 12 } [.ref t] M (fun v M1 => v = none ∧ M1 = M) := by
  refine hb_Met.of (by decide) (Nat.le_of_ble_eq_true rfl) ?_
  intro p e s m below meth c A hAe hX hz hP hD hA hS ls hl
  obtain ⟨hx, hb, hr, hml, hown, hlocks, hnm, hG, hnh⟩ := id hX
  have hown : s.vm.findClass "java/util/AbstractCollection" = some m.cls := hown
  have hts := hE.ts hG ([.ref t] : List Value).toArray
  have hK := hE.kn hG
  have hl : lv_has ls 1 [(0, .ref t)] := hl
  refine lv_aload_n hx hb d_Col_init_0 rfl (lv_at hl 0 rfl) ?_
  refine W.objInit hx hb hown (hts _ ml_Col_1) (hts _ im_Ob_init) (hts _ cd_Ob_init) rfl (by rw [hml]; exact hl.1) rfl d_Col_init_1 (Nat.le_of_ble_eq_true rfl) (Nat.le_of_ble_eq_true rfl) ?_
  refine W.eq (g2 := F0 m 4 ls []) rfl ?_
  exact hb_vret hAe hx hb hr hlocks hP hD hS (Nat.le_of_ble_eq_true rfl) (Nat.le_of_ble_eq_true rfl) (⟨rfl, rfl⟩) d_Col_init_4
set_option maxHeartbeats 4000000 in
set_option maxRecDepth 100000 in
/-- AbstractList() -/
theorem c_Abs_init {l : Launch} {s0 : State} {D : va_G} {cI cJ cO : ClassId} {e0 mi : Nat} (hE : hb_E l s0 D cI cJ cO e0 mi) (M : hb_M) (t : Nat) (ht : M t = some (.inr (3, [.null, .int 0, .int 0]))) : hb_Met l D hb_cl s0 y_Abs_init b_Abs_init 1 none { frames := 2, cells := 0, slots := 0, locals := 32 } [.ref t] M (fun v M1 => v = none ∧ M1 t = some (.inr (3, [.null, .int 0, .int 0])) ∧ hb_off [t] M M1) := by
  refine hb_Met.of (by decide) (Nat.le_of_ble_eq_true rfl) ?_
  intro p e s m below meth c A hAe hX hz hP hD hA hS ls hl
  obtain ⟨hx, hb, hr, hml, hown, hlocks, hnm, hG, hnh⟩ := id hX
  have hown : s.vm.findClass "java/util/AbstractList" = some m.cls := hown
  have hts := hE.ts hG ([.ref t] : List Value).toArray
  have hK := hE.kn hG
  have hl : lv_has ls 1 [(0, .ref t)] := hl
  refine lv_aload_n hx hb d_Abs_init_0 rfl (lv_at hl 0 rfl) ?_
  refine hb_callI (rest := []) hX hts hb_gd Y_Col_init (c_Col_init hE M t) ml_Abs_1 im_Col_init rfl hz hP hD hS hA rfl hl.1 rfl (Nat.le_of_ble_eq_true rfl) ⟨Nat.le_of_ble_eq_true rfl, Nat.le_of_ble_eq_true rfl⟩ ⟨Nat.le_of_ble_eq_true rfl, Nat.le_of_ble_eq_true rfl⟩ d_Abs_init_1 (fun v3 M1 H locs hq2 hP hD hS _ hkp => ?_)
  obtain ⟨ev4, eM5⟩ := hq2
  subst ev4
  rw [eM5] at hP hD
  refine W.eq (g2 := F0 m 4 ls []) rfl ?_
  refine lv_aload_n hx hb d_Abs_init_4 rfl (lv_at hl 0 rfl) ?_
  refine lv_iconst (v := 0) hx hb d_Abs_init_5 (by decide) ?_
  refine hb_puto (ty := .int) hx hb hts hown hC_Al hK hP hD hS ht 2 (by decide) fl_Abs_7 rfl rfl rfl rfl (Nat.le_of_ble_eq_true rfl) d_Abs_init_6 (fun M6 H locs eM7 hP hD hS => ?_)
  have f8 : M6 t = some (.inr (3, [.null, .int 0, .int 0])) := by rw [eM7]; exact hb_up_self
  exact hb_vret hAe hx hb hr hlocks hP hD hS (Nat.le_of_ble_eq_true rfl) (Nat.le_of_ble_eq_true rfl) (⟨rfl, f8, (hb_off.rf.up (by simp) eM7)⟩) d_Abs_init_9
set_option maxHeartbeats 4000000 in
set_option maxRecDepth 100000 in
/-- ArrayList() -/
theorem c_Al_init {l : Launch} {s0 : State} {D : va_G} {cI cJ cO : ClassId} {e0 mi : Nat} (hE : hb_E l s0 D cI cJ cO e0 mi) (M : hb_M) (t : Nat) (ht : M t = some (.inr (3, [.null, .int 0, .int 0]))) : hb_Met l D hb_cl s0 y_Al_init b_Al_init 1 none { frames := 3, cells := 0, slots := 0, locals := 52 } [.ref t] M (fun v M1 => v = none ∧ M1 t = some (.inr (3, [.ref e0, .int 0, .int 0])) ∧ hb_off [t] M M1) := by
  refine hb_Met.of (by decide) (Nat.le_of_ble_eq_true rfl) ?_
  intro p e s m below meth c A hAe hX hz hP hD hA hS ls hl
  obtain ⟨hx, hb, hr, hml, hown, hlocks, hnm, hG, hnh⟩ := id hX
  have hown : s.vm.findClass "java/util/ArrayList" = some m.cls := hown
  have hts := hE.ts hG ([.ref t] : List Value).toArray
  have hK := hE.kn hG
  have hl : lv_has ls 1 [(0, .ref t)] := hl
  refine lv_aload_n hx hb d_Al_init_0 rfl (lv_at hl 0 rfl) ?_
  refine hb_callI (rest := []) hX hts hb_gd Y_Abs_init (c_Abs_init hE M t ht) ml_Al_1 im_Abs_init rfl hz hP hD hS hA rfl hl.1 rfl (Nat.le_of_ble_eq_true rfl) ⟨Nat.le_of_ble_eq_true rfl, Nat.le_of_ble_eq_true rfl⟩ ⟨Nat.le_of_ble_eq_true rfl, Nat.le_of_ble_eq_true rfl⟩ d_Al_init_1 (fun v3 M1 H locs hq2 hP hD hS _ hkp => ?_)
  obtain ⟨ev6, f4, ho5⟩ := hq2
  subst ev6
  refine W.eq (g2 := F0 m 4 ls []) rfl ?_
  refine lv_aload_n hx hb d_Al_init_4 rfl (lv_at hl 0 rfl) ?_
  refine va_gets hx hb (hE.zs hG hz) hS hown (hts _ fl_Al_39) (fun _ h9 => h9) d_Al_init_5 ?_
  refine hb_put (ty := .array (.object "java/lang/Object")) hx hb hts hown hC_Al hK hP hD hS f4 0 (by decide) rfl fl_Al_9 rfl rfl rfl rfl (Nat.le_of_ble_eq_true rfl) d_Al_init_8 (fun M7 H locs eM8 hP hD hS => ?_)
  have f9 : M7 t = some (.inr (3, [.ref e0, .int 0, .int 0])) := by rw [eM8]; exact hb_up_self
  exact hb_vret hAe hx hb hr hlocks hP hD hS (Nat.le_of_ble_eq_true rfl) (Nat.le_of_ble_eq_true rfl) (⟨rfl, f9, ((hb_off.rf.tr ho5 (by simp)).up (by simp) eM8)⟩) d_Al_init_11
set_option maxHeartbeats 4000000 in
set_option maxRecDepth 100000 in
/-- ArrayList.size() -/
theorem c_Al_size {l : Launch} {s0 : State} {D : va_G} {cI cJ cO : ClassId} {e0 mi : Nat} (hE : hb_E l s0 D cI cJ cO e0 mi) (M : hb_M) (t : Nat) (r : Value) (sz md : Int32) (ht : M t = some (.inr (3, [r, .int sz, .int md]))) : hb_Met l D hb_cl s0 y_Al_size b_Al_size 1 (some .int) { frames := 0, cells := 0, slots := 0, locals := 0 } [.ref t] M (fun v M1 => v = some (.int sz) ∧ M1 = M) := by
  refine hb_Met.of (by decide) (Nat.le_of_ble_eq_true rfl) ?_
  intro p e s m below meth c A hAe hX hz hP hD hA hS ls hl
  obtain ⟨hx, hb, hr, hml, hown, hlocks, hnm, hG, hnh⟩ := id hX
  have hown : s.vm.findClass "java/util/ArrayList" = some m.cls := hown
  have hts := hE.ts hG ([.ref t] : List Value).toArray
  have hK := hE.kn hG
  have hl : lv_has ls 1 [(0, .ref t)] := hl
  refine lv_aload_n hx hb d_Al_size_0 rfl (lv_at hl 0 rfl) ?_
  refine hb_get hx hb hts hown hC_Al hK hP ht 1 (by decide) rfl fl_Al_48 rfl d_Al_size_1 ?_
  exact hb_iret hAe hx hb hr hlocks hP hD hS (Nat.le_of_ble_eq_true rfl) (Nat.le_of_ble_eq_true rfl) (⟨rfl, rfl⟩) d_Al_size_4
set_option maxHeartbeats 4000000 in
set_option maxRecDepth 100000 in
/-- Preconditions.checkIndex, in bounds -/
theorem c_Prc_checkIndex {l : Launch} {s0 : State} {D : va_G} {cI cJ cO : ClassId} {e0 mi : Nat} (hE : hb_E l s0 D cI cJ cO e0 mi) (M : hb_M) (i n : Int32) (h0 : ¬ i < 0) (h1 : i < n) : hb_Met l D hb_cl s0 y_Prc_checkIndex b_Prc_checkIndex 3 (some .int) { frames := 0, cells := 0, slots := 0, locals := 0 } [.int i, .int n, .null] M (fun v M1 => v = some (.int i) ∧ M1 = M) := by
  refine hb_Met.of (by decide) (Nat.le_of_ble_eq_true rfl) ?_
  intro p e s m below meth c A hAe hX hz hP hD hA hS ls hl
  obtain ⟨hx, hb, hr, hml, hown, hlocks, hnm, hG, hnh⟩ := id hX
  have hown : s.vm.findClass "jdk/internal/util/Preconditions" = some m.cls := hown
  have hts := hE.ts hG ([.int i, .int n, .null] : List Value).toArray
  have hK := hE.kn hG
  have hl : lv_has ls 3 [(0, .int i), (1, .int n), (2, .null)] := hl
  refine lv_iload_n hx hb d_Prc_checkIndex_0 rfl (lv_at hl 0 rfl) ?_
  refine lv_if_lt (tgt := 9) hx hb d_Prc_checkIndex_1 (by decide) (fun c1 => ?_) (fun c1 => ?_)
  · skip
    exact absurd c1 h0
  · skip
    refine lv_iload_n hx hb d_Prc_checkIndex_4 rfl (lv_at hl 0 rfl) ?_
    refine lv_iload_n hx hb d_Prc_checkIndex_5 rfl (lv_at hl 1 rfl) ?_
    refine lv_icmp_lt (tgt := 16) hx hb d_Prc_checkIndex_6 (by decide) (fun c2 => ?_) (fun c2 => ?_)
    · skip
      refine lv_iload_n hx hb d_Prc_checkIndex_16 rfl (lv_at hl 0 rfl) ?_
      exact hb_iret hAe hx hb hr hlocks hP hD hS (Nat.le_of_ble_eq_true rfl) (Nat.le_of_ble_eq_true rfl) (⟨rfl, rfl⟩) d_Prc_checkIndex_17
    · skip
      exact absurd h1 c2
set_option maxHeartbeats 4000000 in
set_option maxRecDepth 100000 in
/-- Objects.checkIndex, in bounds -/
theorem c_Obs_checkIndex {l : Launch} {s0 : State} {D : va_G} {cI cJ cO : ClassId} {e0 mi : Nat} (hE : hb_E l s0 D cI cJ cO e0 mi) (M : hb_M) (i n : Int32) (h0 : ¬ i < 0) (h1 : i < n) : hb_Met l D hb_cl s0 y_Obs_checkIndex b_Obs_checkIndex 2 (some .int) { frames := 1, cells := 0, slots := 0, locals := 22 } [.int i, .int n] M (fun v M1 => v = some (.int i) ∧ M1 = M) := by
  refine hb_Met.of (by decide) (Nat.le_of_ble_eq_true rfl) ?_
  intro p e s m below meth c A hAe hX hz hP hD hA hS ls hl
  obtain ⟨hx, hb, hr, hml, hown, hlocks, hnm, hG, hnh⟩ := id hX
  have hown : s.vm.findClass "java/util/Objects" = some m.cls := hown
  have hts := hE.ts hG ([.int i, .int n] : List Value).toArray
  have hK := hE.kn hG
  have hl : lv_has ls 2 [(0, .int i), (1, .int n)] := hl
  refine lv_iload_n hx hb d_Obs_checkIndex_0 rfl (lv_at hl 0 rfl) ?_
  refine lv_iload_n hx hb d_Obs_checkIndex_1 rfl (lv_at hl 1 rfl) ?_
  refine lv_null hx hb d_Obs_checkIndex_2 ?_
  refine hb_callS (rest := []) hX hts hb_gd Y_Prc_checkIndex (c_Prc_checkIndex hE M i n h0 h1) ml_Obs_105 st_Prc_checkIndex hz hP hD hS hA rfl hl.1 rfl (Nat.le_of_ble_eq_true rfl) ⟨Nat.le_of_ble_eq_true rfl, Nat.le_of_ble_eq_true rfl⟩ ⟨Nat.le_of_ble_eq_true rfl, Nat.le_of_ble_eq_true rfl⟩ d_Obs_checkIndex_3 (fun v3 M1 H locs hq2 hP hD hS _ hkp => ?_)
  obtain ⟨ev4, eM5⟩ := hq2
  subst ev4
  rw [eM5] at hP hD
  refine W.eq (g2 := F0 m 6 ls [.int i]) rfl ?_
  exact hb_iret hAe hx hb hr hlocks hP hD hS (Nat.le_of_ble_eq_true rfl) (Nat.le_of_ble_eq_true rfl) (⟨rfl, rfl⟩) d_Obs_checkIndex_6
set_option maxHeartbeats 4000000 in
set_option maxRecDepth 100000 in
/-- ArrayList.elementData(j) -/
theorem c_Al_elementData {l : Launch} {s0 : State} {D : va_G} {cI cJ cO : ClassId} {e0 mi : Nat} (hE : hb_E l s0 D cI cJ cO e0 mi) (M : hb_M) (t ar : Nat) (j n cap : Nat) (md : Int32) (f : Nat → Option Nat) (x : Nat) (hj : j < n) (hn : n ≤ cap) (hc : cap ≤ 100) (hx0 : f j = some x) (ht : M t = some (.inr (3, [.ref ar, .int (nI n), .int md]))) (har : M ar = some (hb_ar cO cap f)) : hb_Met l D hb_cl s0 y_Al_elementData b_Al_elementData 2 (some (.object "java/lang/Object")) { frames := 0, cells := 0, slots := 0, locals := 0 } [.ref t, .int (nI j)] M (fun v M1 => v = some (.ref x) ∧ M1 = M) := by
  refine hb_Met.of (by decide) (Nat.le_of_ble_eq_true rfl) ?_
  intro p e s m below meth c A hAe hX hz hP hD hA hS ls hl
  obtain ⟨hx, hb, hr, hml, hown, hlocks, hnm, hG, hnh⟩ := id hX
  have hown : s.vm.findClass "java/util/ArrayList" = some m.cls := hown
  have hts := hE.ts hG ([.ref t, .int (nI j)] : List Value).toArray
  have hK := hE.kn hG
  have hl : lv_has ls 2 [(0, .ref t), (1, .int (nI j))] := hl
  refine lv_aload_n hx hb d_Al_elementData_0 rfl (lv_at hl 0 rfl) ?_
  refine hb_get hx hb hts hown hC_Al hK hP ht 0 (by decide) rfl fl_Al_9 rfl d_Al_elementData_1 ?_
  refine lv_iload_n hx hb d_Al_elementData_4 rfl (lv_at hl 1 rfl) ?_
  refine va_aldq hx hb hK (hP.one har) 0 2 rfl rfl (vp_in_nI (by omega) (by omega)) d_Al_elementData_5 ?_
  refine W.eq (g2 := F0 m 6 ls [.ref x]) (by rw [nI_clamp (show j < 2 ^ 31 by omega), hx0]; rfl) ?_
  exact hb_aret hAe hx hb hr (Or.inl ⟨_, rfl⟩) (Or.inr ⟨_, rfl⟩) hlocks hP hD hS (Nat.le_of_ble_eq_true rfl) (Nat.le_of_ble_eq_true rfl) (⟨rfl, rfl⟩) d_Al_elementData_6
set_option maxHeartbeats 4000000 in
set_option maxRecDepth 100000 in
/-- ArrayList.get(j) -/
theorem c_Al_get {l : Launch} {s0 : State} {D : va_G} {cI cJ cO : ClassId} {e0 mi : Nat} (hE : hb_E l s0 D cI cJ cO e0 mi) (M : hb_M) (t ar : Nat) (j n cap : Nat) (md : Int32) (f : Nat → Option Nat) (x : Nat) (hj : j < n) (hn : n ≤ cap) (hc : cap ≤ 100) (hx0 : f j = some x) (ht : M t = some (.inr (3, [.ref ar, .int (nI n), .int md]))) (har : M ar = some (hb_ar cO cap f)) : hb_Met l D hb_cl s0 y_Al_get b_Al_get 2 (some (.object "java/lang/Object")) { frames := 2, cells := 0, slots := 0, locals := 43 } [.ref t, .int (nI j)] M (fun v M1 => v = some (.ref x) ∧ M1 = M) := by
  refine hb_Met.of (by decide) (Nat.le_of_ble_eq_true rfl) ?_
  intro p e s m below meth c A hAe hX hz hP hD hA hS ls hl
  obtain ⟨hx, hb, hr, hml, hown, hlocks, hnm, hG, hnh⟩ := id hX
  have hown : s.vm.findClass "java/util/ArrayList" = some m.cls := hown
  have hts := hE.ts hG ([.ref t, .int (nI j)] : List Value).toArray
  have hK := hE.kn hG
  have hl : lv_has ls 2 [(0, .ref t), (1, .int (nI j))] := hl
  refine lv_iload_n hx hb d_Al_get_0 rfl (lv_at hl 1 rfl) ?_
  refine lv_aload_n hx hb d_Al_get_1 rfl (lv_at hl 0 rfl) ?_
  refine hb_get hx hb hts hown hC_Al hK hP ht 1 (by decide) rfl fl_Al_48 rfl d_Al_get_2 ?_
  refine hb_callS (rest := []) hX hts hb_gd Y_Obs_checkIndex (c_Obs_checkIndex hE M (nI j) (nI n) (nI_pos (by omega)) (nI_lt hj (by omega))) ml_Al_118 st_Obs_checkIndex hz hP hD hS hA rfl hl.1 rfl (Nat.le_of_ble_eq_true rfl) ⟨Nat.le_of_ble_eq_true rfl, Nat.le_of_ble_eq_true rfl⟩ ⟨Nat.le_of_ble_eq_true rfl, Nat.le_of_ble_eq_true rfl⟩ d_Al_get_5 (fun v3 M1 H locs hq2 hP hD hS _ hkp => ?_)
  obtain ⟨ev4, eM5⟩ := hq2
  subst ev4
  rw [eM5] at hP hD
  refine W.eq (g2 := F0 m 8 ls [.int (nI j)]) rfl ?_
  refine lv_pop hx hb d_Al_get_8 rfl ?_
  refine lv_aload_n hx hb d_Al_get_9 rfl (lv_at hl 0 rfl) ?_
  refine lv_iload_n hx hb d_Al_get_10 rfl (lv_at hl 1 rfl) ?_
  refine hb_callV (rest := []) hX hts hb_gd Y_Al_elementData (c_Al_elementData hE M t ar j n cap md f x hj hn hc hx0 ht har) ml_Al_123 im_Al_elementData se_Al_elementData hK ht hC_Al.1 hz hP hD hS hA rfl hl.1 rfl (Nat.le_of_ble_eq_true rfl) ⟨Nat.le_of_ble_eq_true rfl, Nat.le_of_ble_eq_true rfl⟩ ⟨Nat.le_of_ble_eq_true rfl, Nat.le_of_ble_eq_true rfl⟩ d_Al_get_11 (fun v8 M6 H locs hq7 hP hD hS _ hkp => ?_)
  obtain ⟨ev9, eM10⟩ := hq7
  subst ev9
  rw [eM10] at hP hD
  refine W.eq (g2 := F0 m 14 ls [.ref x]) rfl ?_
  exact hb_aret hAe hx hb hr (Or.inl ⟨_, rfl⟩) (Or.inr ⟨_, rfl⟩) hlocks hP hD hS (Nat.le_of_ble_eq_true rfl) (Nat.le_of_ble_eq_true rfl) (⟨rfl, rfl⟩) d_Al_get_14
end
section
/-! ARRAYLIST: growing, adding, removing -/
theorem hb_acell {D : va_G} {cl : List vw_C} {cI cJ cO : ClassId} {s : State} {M : hb_M} {H : Heap} {a n : Nat} {f : Nat → Option Nat} (hK : va_K D cl [(cI, .int), (cJ, .long), (cO, .object "java/lang/Object")] s) (hP : hb_P D cl M H) (h : M a = some (hb_ar cO n f)) : ∃ cell : Cell, H[a]? = some cell ∧ cell.vm.isStatics = false ∧ s.vm.findClass "[Ljava/lang/Object;" = some cell.cls :=
  ⟨_, hP a _ h, rfl, va_nmO (hK.2 2 (cO, .object "java/lang/Object") rfl).2 rfl⟩
theorem hb_mx {a b : Nat} (ha : a < 2 ^ 31) (hb : b < 2 ^ 31) : (if nI a < nI b then nI b else nI a) = nI (max a b) := by
  by_cases h : a < b
  · rw [if_pos (nI_lt h hb), Nat.max_eq_right (by omega)]
  · rw [if_neg (nI_nlt (by omega) ha), Nat.max_eq_left (by omega)]
def hb_ins (f : Nat → Option Nat) (j x i : Nat) : Option Nat := if i < j then f i else if i = j then some x else f (i - 1)
/-- existing cells but these are kept -/
def hb_kp (L : List Nat) (M M1 : hb_M) : Prop := ∀ q e, q ∉ L → M q = some e → M1 q = some e
theorem hb_off.kp {L : List Nat} {M M1 : hb_M} (h : hb_off L M M1) : hb_kp L M M1 := fun q e hq he => by rw [h q hq]; exact he
theorem hb_kp.tr {L : List Nat} {M M1 M2 : hb_M} (h : hb_kp L M M1) (h2 : hb_kp L M1 M2) : hb_kp L M M2 := fun q e hq he => h2 q e hq (h q e hq he)
theorem hb_kp.of_off {L L1 : List Nat} {M M1 : hb_M} (h : hb_off L1 M M1) (hs : ∀ q, q ∈ L1 → q ∈ L ∨ M q = none) : hb_kp L M M1 := fun q e hq he => by
  rw [h q (fun z => by
    rcases hs q z with k | k
    · exact hq k
    · rw [he] at k; cases k)]
  exact he
def hb_added (cO : ClassId) (M M1 : hb_M) (t ar n : Nat) (md : Int32) (f : Nat → Option Nat) (j x : Nat) : Prop := ∃ (ar1 cap1 : Nat) (g : Nat → Option Nat), M1 t = some (.inr (3, [.ref ar1, .int (nI (n + 1)), .int md])) ∧ M1 ar1 = some (hb_ar cO cap1 g) ∧ n + 1 ≤ cap1 ∧ cap1 ≤ 100 ∧ (ar1 = ar ∨ M ar1 = none) ∧ (∀ i, i < n + 1 → g i = hb_ins f j x i) ∧ hb_kp [t, ar] M M1
set_option maxHeartbeats 4000000 in
set_option maxRecDepth 100000 in
/-- ArrayList.fastRemove(es, j) -/
theorem c_Al_fastRemove {l : Launch} {s0 : State} {D : va_G} {cI cJ cO : ClassId} {e0 mi : Nat} (hE : hb_E l s0 D cI cJ cO e0 mi) (M : hb_M) (t ar j k cap : Nat) (md : Int32) (f : Nat → Option Nat) (hj : j < k + 1) (hn : k + 1 ≤ cap) (hc : cap ≤ 100) (hels : hb_els M f (k + 1)) (ht : M t = some (.inr (3, [.ref ar, .int (nI (k + 1)), .int md]))) (har : M ar = some (hb_ar cO cap f)) : hb_Met l D hb_cl s0 y_Al_fastRemove b_Al_fastRemove 4 none { frames := 1, cells := 0, slots := 0, locals := 60 } [.ref t, .ref ar, .int (nI j)] M (fun v M1 => v = none ∧ M1 t = some (.inr (3, [.ref ar, .int (nI k), .int (md + 1)])) ∧ (∃ g, M1 ar = some (hb_ar cO cap g) ∧ ∀ i, i < k → g i = f (if i < j then i else i + 1)) ∧ hb_off [t, ar] M M1) := by
  refine hb_Met.of (by decide) (Nat.le_of_ble_eq_true rfl) ?_
  intro p e s m below meth c A hAe hX hz hP hD hA hS ls hl
  obtain ⟨hx, hb, hr, hml, hown, hlocks, hnm, hG, hnh⟩ := id hX
  have hown : s.vm.findClass "java/util/ArrayList" = some m.cls := hown
  have hts := hE.ts hG ([.ref t, .ref ar, .int (nI j)] : List Value).toArray
  have hK := hE.kn hG
  have hl : lv_has ls 4 [(0, .ref t), (1, .ref ar), (2, .int (nI j))] := hl
  refine lv_aload_n hx hb d_Al_fastRemove_0 rfl (lv_at hl 0 rfl) ?_
  refine lv_dup hx hb d_Al_fastRemove_1 rfl ?_
  refine hb_getm hx hb hts hown hC_Al hK hP ht 2 (by decide) fl_Al_63 sf_modCount rfl d_Al_fastRemove_2 ?_
  refine lv_iconst (v := 1) hx hb d_Al_fastRemove_5 (by decide) ?_
  refine lv_iadd hx hb d_Al_fastRemove_6 ?_
  refine hb_putm (ty := .int) hx hb hts hown hC_Al hK hP hD hS ht 2 (by decide) fl_Al_63 sf_modCount rfl rfl rfl rfl (Nat.le_of_ble_eq_true rfl) d_Al_fastRemove_7 (fun M1 H locs eM2 hP hD hS => ?_)
  have f3 : M1 t = some (.inr (3, [.ref ar, .int (nI (k + 1)), .int (md + 1)])) := by rw [eM2]; exact hb_up_self
  have f4 : M1 ar = some (.inl (cO, cap, .inr (.inr (.inr (.inr f))))) := by rw [eM2, hb_up_ne (fun q9 => by rw [q9, ht] at har; cases har)]; exact har
  refine lv_aload_n hx hb d_Al_fastRemove_10 rfl (lv_at hl 0 rfl) ?_
  refine hb_get hx hb hts hown hC_Al hK hP f3 1 (by decide) rfl fl_Al_48 rfl d_Al_fastRemove_11 ?_
  refine lv_iconst (v := 1) hx hb d_Al_fastRemove_14 (by decide) ?_
  refine lv_isub hx hb d_Al_fastRemove_15 ?_
  refine W.eq (g2 := F0 m 16 ls [.int (nI k)]) (by rw [nI_pred]) ?_
  refine lv_dup hx hb d_Al_fastRemove_16 rfl ?_
  refine lv_istore_n (lv' := [(3, .int (nI k)), (0, .ref t), (1, .ref ar), (2, .int (nI j))]) hx hb d_Al_fastRemove_17 rfl hl (by decide) rfl (fun ls hl => ?_)
  refine lv_iload_n hx hb d_Al_fastRemove_18 rfl (lv_at hl 3 rfl) ?_
  refine lv_icmp_le (tgt := 34) hx hb d_Al_fastRemove_19 (by decide) (fun c5 => ?_) (fun c5 => ?_)
  · skip
    have c5n := hb_ngti c5
    have hkj : k ≤ j := (nI_leI (by omega) (by omega)).mp c5
    refine lv_aload_n hx hb d_Al_fastRemove_34 rfl (lv_at hl 2 rfl) ?_
    refine lv_aload_n hx hb d_Al_fastRemove_35 rfl (lv_at hl 1 rfl) ?_
    refine lv_iload_n hx hb d_Al_fastRemove_36 rfl (lv_at hl 0 rfl) ?_
    refine lv_dup_x1 hx hb d_Al_fastRemove_37 rfl rfl ?_
    refine hb_put (ty := .int) hx hb hts hown hC_Al hK hP hD hS f3 1 (by decide) rfl fl_Al_48 rfl rfl rfl rfl (Nat.le_of_ble_eq_true rfl) d_Al_fastRemove_38 (fun M6 H locs eM7 hP hD hS => ?_)
    have f8 : M6 t = some (.inr (3, [.ref ar, .int (nI k), .int (md + 1)])) := by rw [eM7]; exact hb_up_self
    have f9 : M6 ar = some (.inl (cO, cap, .inr (.inr (.inr (.inr f))))) := by rw [eM7, hb_up_ne (fun q9 => by rw [q9, f3] at f4; cases f4)]; exact f4
    refine lv_null hx hb d_Al_fastRemove_41 ?_
    refine hb_astqN hx hb hK hP hD hS f9 (vp_in_nI (by omega) (by omega)) d_Al_fastRemove_42 (fun M10 H locs eM11 hP hD hS => ?_)
    have f12 : M10 ar = some (.inl (cO, cap, .inr (.inr (.inr (.inr (va_up f (nI k).toNatClampNeg none)))))) := by rw [eM11]; exact hb_up_self
    have f13 : M10 t = some (.inr (3, [.ref ar, .int (nI k), .int (md + 1)])) := by rw [eM11, hb_up_ne (fun q9 => by rw [q9, f9] at f8; cases f8)]; exact f8
    exact hb_vret hAe hx hb hr hlocks hP hD hS (Nat.le_of_ble_eq_true rfl) (Nat.le_of_ble_eq_true rfl) (⟨rfl, f13, ⟨_, f12, fun i hi => by first | (rw [nI_clamp (show k < 2 ^ 31 by omega), va_up_ne _ _ (by omega), if_pos (by omega)]) | (rw [nI_clamp (show k < 2 ^ 31 by omega), va_up_ne _ _ (by omega), nI_clamp (show j + 1 < 2 ^ 31 by omega), nI_clamp (show j < 2 ^ 31 by omega), nI_clamp (show k - j < 2 ^ 31 by omega)]; by_cases hij : i < j; rw [if_pos hij, pk_cpy_out (Or.inl hij)]; rw [if_neg hij, pk_cpy_in (by omega) (by omega), show j + 1 + (i - j) = i + 1 by omega])⟩, (((hb_off.rf.up (by simp) eM2).up (by simp) eM7).up (by simp) eM11)⟩) d_Al_fastRemove_43
  · skip
    have c5n := hb_gti c5
    have hkj : j < k := Nat.lt_of_not_le (fun z => c5 (nI_le z (by omega)))
    refine lv_aload_n hx hb d_Al_fastRemove_22 rfl (lv_at hl 2 rfl) ?_
    refine lv_iload_n hx hb d_Al_fastRemove_23 rfl (lv_at hl 3 rfl) ?_
    refine lv_iconst (v := 1) hx hb d_Al_fastRemove_24 (by decide) ?_
    refine lv_iadd hx hb d_Al_fastRemove_25 ?_
    refine lv_aload_n hx hb d_Al_fastRemove_26 rfl (lv_at hl 2 rfl) ?_
    refine lv_iload_n hx hb d_Al_fastRemove_27 rfl (lv_at hl 3 rfl) ?_
    refine lv_iload_n hx hb d_Al_fastRemove_28 rfl (lv_at hl 0 rfl) ?_
    refine lv_iload_n hx hb d_Al_fastRemove_29 rfl (lv_at hl 3 rfl) ?_
    refine lv_isub hx hb d_Al_fastRemove_30 ?_
    refine W.eq (g2 := F0 m 31 ls [.int (nI (k - j)), .int (nI j), .ref ar, .int (nI (j + 1)), .ref ar]) (by rw [pk_sub (by omega), nI_1]) ?_
    have hels1 := hels.ne eM2 ht hb_ne3
    refine hb_copyq hx hb (by rw [hml]; exact hl.1.symm) hts hown ml_Al_112 nv_arraycopy st_arraycopy in_Sys hK hP hD hS f4 f4 (nI_pos (by omega)) (nI_pos (by omega)) (nI_pos (by omega)) (by rw [nI_clamp (by omega), nI_clamp (by omega)]; omega) (by rw [nI_clamp (by omega), nI_clamp (by omega)]; omega) (fun i hi y hy => hels1.any hE hG hP (i := j + 1 + i) (by rw [nI_clamp (by omega)] at hi; omega) (by rw [nI_clamp (by omega)] at hy; exact hy)) (Nat.le_of_ble_eq_true rfl) (Nat.le_of_ble_eq_true rfl) d_Al_fastRemove_31 (fun M14 H locs eM15 hP hD hS => ?_)
    have f16 : M14 ar = some (.inl (cO, cap, .inr (.inr (.inr (.inr (va_cpy f f (nI (j + 1)).toNatClampNeg (nI j).toNatClampNeg (nI (k - j)).toNatClampNeg)))))) := by rw [eM15]; exact hb_up_self
    have f17 : M14 t = some (.inr (3, [.ref ar, .int (nI (k + 1)), .int (md + 1)])) := by rw [eM15, hb_up_ne (fun q9 => by rw [q9, f4] at f3; cases f3)]; exact f3
    refine lv_aload_n hx hb d_Al_fastRemove_34 rfl (lv_at hl 2 rfl) ?_
    refine lv_aload_n hx hb d_Al_fastRemove_35 rfl (lv_at hl 1 rfl) ?_
    refine lv_iload_n hx hb d_Al_fastRemove_36 rfl (lv_at hl 0 rfl) ?_
    refine lv_dup_x1 hx hb d_Al_fastRemove_37 rfl rfl ?_
    refine hb_put (ty := .int) hx hb hts hown hC_Al hK hP hD hS f17 1 (by decide) rfl fl_Al_48 rfl rfl rfl rfl (Nat.le_of_ble_eq_true rfl) d_Al_fastRemove_38 (fun M18 H locs eM19 hP hD hS => ?_)
    have f20 : M18 t = some (.inr (3, [.ref ar, .int (nI k), .int (md + 1)])) := by rw [eM19]; exact hb_up_self
    have f21 : M18 ar = some (.inl (cO, cap, .inr (.inr (.inr (.inr (va_cpy f f (nI (j + 1)).toNatClampNeg (nI j).toNatClampNeg (nI (k - j)).toNatClampNeg)))))) := by rw [eM19, hb_up_ne (fun q9 => by rw [q9, f17] at f16; cases f16)]; exact f16
    refine lv_null hx hb d_Al_fastRemove_41 ?_
    refine hb_astqN hx hb hK hP hD hS f21 (vp_in_nI (by omega) (by omega)) d_Al_fastRemove_42 (fun M22 H locs eM23 hP hD hS => ?_)
    have f24 : M22 ar = some (.inl (cO, cap, .inr (.inr (.inr (.inr (va_up (va_cpy f f (nI (j + 1)).toNatClampNeg (nI j).toNatClampNeg (nI (k - j)).toNatClampNeg) (nI k).toNatClampNeg none)))))) := by rw [eM23]; exact hb_up_self
    have f25 : M22 t = some (.inr (3, [.ref ar, .int (nI k), .int (md + 1)])) := by rw [eM23, hb_up_ne (fun q9 => by rw [q9, f21] at f20; cases f20)]; exact f20
    exact hb_vret hAe hx hb hr hlocks hP hD hS (Nat.le_of_ble_eq_true rfl) (Nat.le_of_ble_eq_true rfl) (⟨rfl, f25, ⟨_, f24, fun i hi => by first | (rw [nI_clamp (show k < 2 ^ 31 by omega), va_up_ne _ _ (by omega), if_pos (by omega)]) | (rw [nI_clamp (show k < 2 ^ 31 by omega), va_up_ne _ _ (by omega), nI_clamp (show j + 1 < 2 ^ 31 by omega), nI_clamp (show j < 2 ^ 31 by omega), nI_clamp (show k - j < 2 ^ 31 by omega)]; by_cases hij : i < j; rw [if_pos hij, pk_cpy_out (Or.inl hij)]; rw [if_neg hij, pk_cpy_in (by omega) (by omega), show j + 1 + (i - j) = i + 1 by omega])⟩, ((((hb_off.rf.up (by simp) eM2).up (by simp) eM15).up (by simp) eM19).up (by simp) eM23)⟩) d_Al_fastRemove_43
set_option maxHeartbeats 4000000 in
set_option maxRecDepth 100000 in
/-- ArrayList.remove(j) -/
theorem c_Al_remove {l : Launch} {s0 : State} {D : va_G} {cI cJ cO : ClassId} {e0 mi : Nat} (hE : hb_E l s0 D cI cJ cO e0 mi) (M : hb_M) (t ar j k cap : Nat) (md : Int32) (f : Nat → Option Nat) (hj : j < k + 1) (hn : k + 1 ≤ cap) (hc : cap ≤ 100) (hels : hb_els M f (k + 1)) (ht : M t = some (.inr (3, [.ref ar, .int (nI (k + 1)), .int md]))) (har : M ar = some (hb_ar cO cap f)) (x : Nat) (hx0 : f j = some x) : hb_Met l D hb_cl s0 y_Al_remove b_Al_remove 4 (some (.object "java/lang/Object")) { frames := 2, cells := 0, slots := 0, locals := 83 } [.ref t, .int (nI j)] M (fun v M1 => v = some (.ref x) ∧ M1 t = some (.inr (3, [.ref ar, .int (nI k), .int (md + 1)])) ∧ (∃ g, M1 ar = some (hb_ar cO cap g) ∧ ∀ i, i < k → g i = f (if i < j then i else i + 1)) ∧ hb_off [t, ar] M M1) := by
  refine hb_Met.of (by decide) (Nat.le_of_ble_eq_true rfl) ?_
  intro p e s m below meth c A hAe hX hz hP hD hA hS ls hl
  obtain ⟨hx, hb, hr, hml, hown, hlocks, hnm, hG, hnh⟩ := id hX
  have hown : s.vm.findClass "java/util/ArrayList" = some m.cls := hown
  have hts := hE.ts hG ([.ref t, .int (nI j)] : List Value).toArray
  have hK := hE.kn hG
  have hl : lv_has ls 4 [(0, .ref t), (1, .int (nI j))] := hl
  refine lv_iload_n hx hb d_Al_remove_0 rfl (lv_at hl 1 rfl) ?_
  refine lv_aload_n hx hb d_Al_remove_1 rfl (lv_at hl 0 rfl) ?_
  refine hb_get hx hb hts hown hC_Al hK hP ht 1 (by decide) rfl fl_Al_48 rfl d_Al_remove_2 ?_
  refine hb_callS (rest := []) hX hts hb_gd Y_Obs_checkIndex (c_Obs_checkIndex hE M (nI j) (nI (k + 1)) (nI_pos (by omega)) (nI_lt hj (by omega))) ml_Al_118 st_Obs_checkIndex hz hP hD hS hA rfl hl.1 rfl (Nat.le_of_ble_eq_true rfl) ⟨Nat.le_of_ble_eq_true rfl, Nat.le_of_ble_eq_true rfl⟩ ⟨Nat.le_of_ble_eq_true rfl, Nat.le_of_ble_eq_true rfl⟩ d_Al_remove_5 (fun v3 M1 H locs hq2 hP hD hS _ hkp => ?_)
  obtain ⟨ev4, eM5⟩ := hq2
  subst ev4
  rw [eM5] at hP hD
  refine W.eq (g2 := F0 m 8 ls [.int (nI j)]) rfl ?_
  refine lv_pop hx hb d_Al_remove_8 rfl ?_
  refine lv_aload_n hx hb d_Al_remove_9 rfl (lv_at hl 0 rfl) ?_
  refine hb_get hx hb hts hown hC_Al hK hP ht 0 (by decide) rfl fl_Al_9 rfl d_Al_remove_10 ?_
  refine lv_astore_n (lv' := [(2, .ref ar), (0, .ref t), (1, .int (nI j))]) hx hb d_Al_remove_13 rfl hl (by decide) rfl (fun ls hl => ?_)
  refine lv_aload_n hx hb d_Al_remove_14 rfl (lv_at hl 0 rfl) ?_
  refine lv_iload_n hx hb d_Al_remove_15 rfl (lv_at hl 2 rfl) ?_
  refine va_aldq hx hb hK (hP.one har) 0 2 rfl rfl (vp_in_nI (by omega) (by omega)) d_Al_remove_16 ?_
  refine W.eq (g2 := F0 m 17 ls [.ref x]) (by rw [nI_clamp (show j < 2 ^ 31 by omega), hx0]; rfl) ?_
  refine lv_astore_n (lv' := [(3, .ref x), (2, .ref ar), (0, .ref t), (1, .int (nI j))]) hx hb d_Al_remove_17 rfl hl (by decide) rfl (fun ls hl => ?_)
  refine lv_aload_n hx hb d_Al_remove_18 rfl (lv_at hl 2 rfl) ?_
  refine lv_aload_n hx hb d_Al_remove_19 rfl (lv_at hl 1 rfl) ?_
  refine lv_iload_n hx hb d_Al_remove_20 rfl (lv_at hl 3 rfl) ?_
  refine hb_callV (rest := []) hX hts hb_gd Y_Al_fastRemove (c_Al_fastRemove hE M t ar j k cap md f hj hn hc hels ht har) ml_Al_144 im_Al_fastRemove se_Al_fastRemove hK ht hC_Al.1 hz hP hD hS hA rfl hl.1 rfl (Nat.le_of_ble_eq_true rfl) ⟨Nat.le_of_ble_eq_true rfl, Nat.le_of_ble_eq_true rfl⟩ ⟨Nat.le_of_ble_eq_true rfl, Nat.le_of_ble_eq_true rfl⟩ d_Al_remove_21 (fun v8 M6 H locs hq7 hP hD hS _ hkp => ?_)
  obtain ⟨ev9, hq9⟩ := hq7
  subst ev9
  refine W.eq (g2 := F0 m 24 ls []) rfl ?_
  refine lv_aload_n hx hb d_Al_remove_24 rfl (lv_at hl 0 rfl) ?_
  exact hb_aret hAe hx hb hr (Or.inl ⟨_, rfl⟩) (Or.inr ⟨_, rfl⟩) hlocks hP hD hS (Nat.le_of_ble_eq_true rfl) (Nat.le_of_ble_eq_true rfl) (⟨rfl, hq9⟩) d_Al_remove_25
set_option maxHeartbeats 4000000 in
set_option maxRecDepth 100000 in
/-- ArraysSupport.newLength -/
theorem c_Sup_newLength {l : Launch} {s0 : State} {D : va_G} {cI cJ cO : ClassId} {e0 mi : Nat} (hE : hb_E l s0 D cI cJ cO e0 mi) (M : hb_M) (o mn pf : Nat) (ho : o ≤ 100) (hm : 0 < mn) (hm2 : mn ≤ 100) (hp2 : pf ≤ 100) : hb_Met l D hb_cl s0 y_Sup_newLength b_Sup_newLength 4 (some .int) { frames := 1, cells := 0, slots := 0, locals := 20 } [.int (nI o), .int (nI mn), .int (nI pf)] M (fun v M1 => v = some (.int (nI (o + max mn pf))) ∧ M1 = M) := by
  refine hb_Met.of (by decide) (Nat.le_of_ble_eq_true rfl) ?_
  intro p e s m below meth c A hAe hX hz hP hD hA hS ls hl
  obtain ⟨hx, hb, hr, hml, hown, hlocks, hnm, hG, hnh⟩ := id hX
  have hown : s.vm.findClass "jdk/internal/util/ArraysSupport" = some m.cls := hown
  have hts := hE.ts hG ([.int (nI o), .int (nI mn), .int (nI pf)] : List Value).toArray
  have hK := hE.kn hG
  have hl : lv_has ls 4 [(0, .int (nI o)), (1, .int (nI mn)), (2, .int (nI pf))] := hl
  refine lv_iload_n hx hb d_Sup_newLength_0 rfl (lv_at hl 0 rfl) ?_
  refine lv_iload_n hx hb d_Sup_newLength_1 rfl (lv_at hl 1 rfl) ?_
  refine lv_iload_n hx hb d_Sup_newLength_2 rfl (lv_at hl 2 rfl) ?_
  refine va_mmax hx hb (by rw [hml]; exact hl.1.symm) hown (hts _ ml_Sup_194) (hts _ st_Mth_max) (hts _ in_Mth) (hts _ cd_Mth_max) (Nat.le_of_ble_eq_true rfl) (Nat.le_of_ble_eq_true rfl) (Nat.le_of_ble_eq_true rfl) (Nat.le_of_ble_eq_true rfl) d_Sup_newLength_3 ?_
  refine lv_iadd hx hb d_Sup_newLength_6 ?_
  refine W.eq (g2 := F0 m 7 ls [.int (nI (o + max mn pf))]) (by rw [hb_mx (by omega) (by omega), nI_add]) ?_
  refine lv_istore_n (lv' := [(3, .int (nI (o + max mn pf))), (0, .int (nI o)), (1, .int (nI mn)), (2, .int (nI pf))]) hx hb d_Sup_newLength_7 rfl hl (by decide) rfl (fun ls hl => ?_)
  refine lv_iconst (v := 0) hx hb d_Sup_newLength_8 (by decide) ?_
  refine lv_iload_n hx hb d_Sup_newLength_9 rfl (lv_at hl 0 rfl) ?_
  refine lv_icmp_ge (tgt := 21) hx hb d_Sup_newLength_10 (by decide) (fun c1 => ?_) (fun c1 => ?_)
  · skip
    have c1n := hb_ngti c1
    exact absurd c1 (nI_nle (by omega) (by omega))
  · skip
    have c1n := hb_gti c1
    refine lv_iload_n hx hb d_Sup_newLength_13 rfl (lv_at hl 0 rfl) ?_
    refine lv_ldc (v := 2147483639) hx hb hown (hts _ kc_Sup_200) d_Sup_newLength_14 ?_
    refine lv_icmp_gt (tgt := 21) hx hb d_Sup_newLength_16 (by decide) (fun c2 => ?_) (fun c2 => ?_)
    · skip
      exact absurd c2 (by rw [show (2147483639 : Int32) = nI 2147483639 from rfl]; exact nI_nlt (by omega) (by omega))
    · skip
      refine lv_iload_n hx hb d_Sup_newLength_19 rfl (lv_at hl 0 rfl) ?_
      exact hb_iret hAe hx hb hr hlocks hP hD hS (Nat.le_of_ble_eq_true rfl) (Nat.le_of_ble_eq_true rfl) (⟨rfl, rfl⟩) d_Sup_newLength_20
set_option maxHeartbeats 4000000 in
set_option maxRecDepth 100000 in
/-- Arrays.copyOf(es, N, Object[].class) -/
theorem c_Ars_copyOf2 {l : Launch} {s0 : State} {D : va_G} {cI cJ cO : ClassId} {e0 mi : Nat} (hE : hb_E l s0 D cI cJ cO e0 mi) (M : hb_M) (ar n0 N : Nat) (f : Nat → Option Nat) (hn : n0 ≤ N) (hN : N ≤ 100) (hels : hb_els M f n0) (har : M ar = some (hb_ar cO n0 f)) : hb_Met l D hb_cl s0 y_Ars_copyOf2 b_Ars_copyOf2 4 (some (.array (.object "java/lang/Object"))) { frames := 1, cells := 1, slots := 100, locals := 60 } [.ref ar, .int (nI N), .ref mi] M (fun v M1 => ∃ q g, v = some (.ref q) ∧ M q = none ∧ M1 = hb_up M q (hb_ar cO N g) ∧ ∀ i, i < n0 → g i = f i) := by
  refine hb_Met.of (by decide) (Nat.le_of_ble_eq_true rfl) ?_
  intro p e s m below meth c A hAe hX hz hP hD hA hS ls hl
  obtain ⟨hx, hb, hr, hml, hown, hlocks, hnm, hG, hnh⟩ := id hX
  have hown : s.vm.findClass "java/util/Arrays" = some m.cls := hown
  have hts := hE.ts hG ([.ref ar, .int (nI N), .ref mi] : List Value).toArray
  have hK := hE.kn hG
  have hl : lv_has ls 4 [(0, .ref ar), (1, .int (nI N)), (2, .ref mi)] := hl
  refine lv_aload_n hx hb d_Ars_copyOf2_0 rfl (lv_at hl 2 rfl) ?_
  refine va_ldcM hx hb hown (hts _ kl_Ars_110) (hE.mo hG) d_Ars_copyOf2_1 ?_
  refine lv_acmp_ne (rx := some mi) (ry := some mi) (tgt := 13) hx hb d_Ars_copyOf2_3 (by decide) (fun c1 => ?_) (fun c1 => ?_)
  · skip
    exact absurd rfl c1
  · skip
    refine lv_iload_n hx hb d_Ars_copyOf2_6 rfl (lv_at hl 1 rfl) ?_
    refine hb_newq (N' := N) hx hb hts hown kl_Ars_2 (hE.ao hG) hK hP hD hS hA (nI_pos (by omega)) (nI_clamp (by omega)) (by omega) (Nat.le_of_ble_eq_true rfl) (show 0 + N ≤ 100 by omega) d_Ars_copyOf2_7 (fun q2 M3 H hq5 ha6 eM4 hP hD hS => ?_)
    refine W.widen (k := 1) (n := 100) (Nat.le_of_ble_eq_true rfl) (by omega) ?_
    have f7 : M3 q2 = some (.inl (cO, N, .inr (.inr (.inr (.inr (fun _ => none)))))) := by rw [eM4]; exact hb_up_self
    have f8 : M3 ar = some (.inl (cO, n0, .inr (.inr (.inr (.inr f))))) := by rw [eM4, hb_up_ne (fun q9 => by rw [q9, hq5] at har; cases har)]; exact har
    refine lv_goto (tgt := 24) hx hb d_Ars_copyOf2_10 (by decide) ?_
    refine lv_astore_n (lv' := [(3, .ref q2), (0, .ref ar), (1, .int (nI N)), (2, .ref mi)]) hx hb d_Ars_copyOf2_24 rfl hl (by decide) rfl (fun ls hl => ?_)
    refine lv_aload_n hx hb d_Ars_copyOf2_25 rfl (lv_at hl 1 rfl) ?_
    refine lv_iconst (v := 0) hx hb d_Ars_copyOf2_26 (by decide) ?_
    refine lv_aload_n hx hb d_Ars_copyOf2_27 rfl (lv_at hl 0 rfl) ?_
    refine lv_iconst (v := 0) hx hb d_Ars_copyOf2_28 (by decide) ?_
    refine lv_aload_n hx hb d_Ars_copyOf2_29 rfl (lv_at hl 1 rfl) ?_
    refine va_alen (v := nI n0) hx hb hK (hP.one f8) 0 2 rfl rfl rfl d_Ars_copyOf2_30 ?_
    refine lv_iload_n hx hb d_Ars_copyOf2_31 rfl (lv_at hl 2 rfl) ?_
    refine va_mmin hx hb (by rw [hml]; exact hl.1.symm) hown (hts _ ml_Ars_304) (hts _ st_Mth_min1) (hts _ in_Mth) (hts _ cd_Mth_min1) (Nat.le_of_ble_eq_true rfl) (Nat.le_of_ble_eq_true rfl) (Nat.le_of_ble_eq_true rfl) (Nat.le_of_ble_eq_true rfl) d_Ars_copyOf2_32 ?_
    refine W.eq (g2 := F0 m 35 ls [.int (nI n0), .int 0, .ref q2, .int 0, .ref ar]) (by rw [if_neg (nI_nlt hn (by omega))]) ?_
    have hels1 := hels.new eM4 hq5
    refine hb_copyq hx hb (by rw [hml]; exact hl.1.symm) hts hown ml_Ars_150 nv_arraycopy st_arraycopy in_Sys hK hP hD hS f8 f7 (by decide) (by decide) (nI_pos (by omega)) (by rw [sb_cl0, nI_clamp (by omega)]; omega) (by rw [sb_cl0, nI_clamp (by omega)]; omega) (fun i hi y hy => hels1.any hE hG hP (i := i) (by rw [nI_clamp (by omega)] at hi; exact hi) (by rw [sb_cl0, Nat.zero_add] at hy; exact hy)) (Nat.le_of_ble_eq_true rfl) (Nat.le_of_ble_eq_true rfl) d_Ars_copyOf2_35 (fun M9 H locs eM10 hP hD hS => ?_)
    have f11 : M9 q2 = some (.inl (cO, N, .inr (.inr (.inr (.inr (va_cpy f (fun _ => none) (0 : Int32).toNatClampNeg (0 : Int32).toNatClampNeg (nI n0).toNatClampNeg)))))) := by rw [eM10]; exact hb_up_self
    have f12 : M9 ar = some (.inl (cO, n0, .inr (.inr (.inr (.inr f))))) := by rw [eM10, hb_up_ne (fun q9 => by rw [q9, hq5] at har; cases har)]; exact f8
    refine lv_aload_n hx hb d_Ars_copyOf2_38 rfl (lv_at hl 0 rfl) ?_
    exact hb_aret hAe hx hb hr (Or.inr ⟨_, rfl⟩) (Or.inr ⟨_, rfl⟩) hlocks hP hD hS (Nat.le_of_ble_eq_true rfl) (Nat.le_of_ble_eq_true rfl) (⟨q2, _, rfl, hq5, by rw [eM10, eM4, hb_up_idem], fun i hi => by rw [sb_cl0, nI_clamp (show n0 < 2 ^ 31 by omega), pk_cpy_in (by omega) (by omega), Nat.zero_add, Nat.sub_zero]⟩) d_Ars_copyOf2_39
set_option maxHeartbeats 4000000 in
set_option maxRecDepth 100000 in
/-- Arrays.copyOf(es, N) -/
theorem c_Ars_copyOf1 {l : Launch} {s0 : State} {D : va_G} {cI cJ cO : ClassId} {e0 mi : Nat} (hE : hb_E l s0 D cI cJ cO e0 mi) (M : hb_M) (ar n0 N : Nat) (f : Nat → Option Nat) (hn : n0 ≤ N) (hN : N ≤ 100) (hels : hb_els M f n0) (har : M ar = some (hb_ar cO n0 f)) : hb_Met l D hb_cl s0 y_Ars_copyOf1 b_Ars_copyOf1 2 (some (.array (.object "java/lang/Object"))) { frames := 2, cells := 1, slots := 100, locals := 83 } [.ref ar, .int (nI N)] M (fun v M1 => ∃ q g, v = some (.ref q) ∧ M q = none ∧ M1 = hb_up M q (hb_ar cO N g) ∧ ∀ i, i < n0 → g i = f i) := by
  refine hb_Met.of (by decide) (Nat.le_of_ble_eq_true rfl) ?_
  intro p e s m below meth c A hAe hX hz hP hD hA hS ls hl
  obtain ⟨hx, hb, hr, hml, hown, hlocks, hnm, hG, hnh⟩ := id hX
  have hown : s.vm.findClass "java/util/Arrays" = some m.cls := hown
  have hts := hE.ts hG ([.ref ar, .int (nI N)] : List Value).toArray
  have hK := hE.kn hG
  have hl : lv_has ls 2 [(0, .ref ar), (1, .int (nI N))] := hl
  refine lv_aload_n hx hb d_Ars_copyOf1_0 rfl (lv_at hl 0 rfl) ?_
  refine lv_iload_n hx hb d_Ars_copyOf1_1 rfl (lv_at hl 1 rfl) ?_
  refine lv_aload_n hx hb d_Ars_copyOf1_2 rfl (lv_at hl 0 rfl) ?_
  refine va_getC (C := "[Ljava/lang/Object;") hx hb (by rw [hml]; exact hl.1.symm) hown (hts _ ml_Ars_86) (hE.dc hG).use (hts _ se_getClass_719) (hts _ im_getClass) (hts _ nv_getClass) (hE.mo hG) (hb_acell hK hP har) (Nat.le_of_ble_eq_true rfl) (Nat.le_of_ble_eq_true rfl) d_Ars_copyOf1_3 ?_
  refine hb_callS (rest := []) hX hts hb_gd Y_Ars_copyOf2 (c_Ars_copyOf2 hE M ar n0 N f hn hN hels har) ml_Ars_300 st_Ars_copyOf2 hz hP hD hS hA rfl hl.1 rfl (Nat.le_of_ble_eq_true rfl) ⟨Nat.le_of_ble_eq_true rfl, Nat.le_of_ble_eq_true rfl⟩ ⟨Nat.le_of_ble_eq_true rfl, Nat.le_of_ble_eq_true rfl⟩ d_Ars_copyOf1_6 (fun v3 M1 H locs hq2 hP hD hS _ hkp => ?_)
  obtain ⟨q4, hg9, ev9, hq9⟩ := hq2
  subst ev9
  refine W.eq (g2 := F0 m 9 ls [.ref q4]) rfl ?_
  exact hb_aret hAe hx hb hr (Or.inr ⟨_, rfl⟩) (Or.inr ⟨_, rfl⟩) hlocks hP hD hS (Nat.le_of_ble_eq_true rfl) (Nat.le_of_ble_eq_true rfl) (⟨q4, hg9, rfl, hq9⟩) d_Ars_copyOf1_9
end
section
/-! ARRAYLIST: grow -/
set_option maxHeartbeats 4000000 in
set_option maxRecDepth 100000 in
/-- ArrayList.grow(min), own array that is full -/
theorem c_Al_grow2_a {l : Launch} {s0 : State} {D : va_G} {cI cJ cO : ClassId} {e0 mi : Nat} (hE : hb_E l s0 D cI cJ cO e0 mi) (M : hb_M) (t ar cap n : Nat) (md : Int32) (f : Nat → Option Nat) (h0 : 0 < cap) (hc : cap ≤ 66) (hels : hb_els M f cap) (ht : M t = some (.inr (3, [.ref ar, .int (nI n), .int md]))) (har : M ar = some (hb_ar cO cap f)) : hb_Met l D hb_cl s0 y_Al_grow2 b_Al_grow2 4 (some (.array (.object "java/lang/Object"))) { frames := 3, cells := 1, slots := 100, locals := 104 } [.ref t, .int (nI (cap + 1))] M (fun v M1 => ∃ q g, v = some (.ref q) ∧ M q = none ∧ M1 q = some (hb_ar cO (cap + max 1 (cap / 2)) g) ∧ M1 t = some (.inr (3, [.ref q, .int (nI n), .int md])) ∧ hb_off [q, t] M M1 ∧ ∀ i, i < cap → g i = f i) := by
  refine hb_Met.of (by decide) (Nat.le_of_ble_eq_true rfl) ?_
  intro p e s m below meth c A hAe hX hz hP hD hA hS ls hl
  obtain ⟨hx, hb, hr, hml, hown, hlocks, hnm, hG, hnh⟩ := id hX
  have hown : s.vm.findClass "java/util/ArrayList" = some m.cls := hown
  have hts := hE.ts hG ([.ref t, .int (nI (cap + 1))] : List Value).toArray
  have hK := hE.kn hG
  have hl : lv_has ls 4 [(0, .ref t), (1, .int (nI (cap + 1)))] := hl
  refine lv_aload_n hx hb d_Al_grow2_0 rfl (lv_at hl 0 rfl) ?_
  refine hb_get hx hb hts hown hC_Al hK hP ht 0 (by decide) rfl fl_Al_9 rfl d_Al_grow2_1 ?_
  refine va_alen (v := nI cap) hx hb hK (hP.one har) 0 2 rfl rfl rfl d_Al_grow2_4 ?_
  refine lv_istore_n (lv' := [(2, .int (nI cap)), (0, .ref t), (1, .int (nI (cap + 1)))]) hx hb d_Al_grow2_5 rfl hl (by decide) rfl (fun ls hl => ?_)
  refine lv_iload_n hx hb d_Al_grow2_6 rfl (lv_at hl 0 rfl) ?_
  refine lv_if_gt (tgt := 20) hx hb d_Al_grow2_7 (by decide) (fun c1 => ?_) (fun c1 => ?_)
  · skip
    refine lv_iload_n hx hb d_Al_grow2_20 rfl (lv_at hl 0 rfl) ?_
    refine lv_iload_n hx hb d_Al_grow2_21 rfl (lv_at hl 2 rfl) ?_
    refine lv_iload_n hx hb d_Al_grow2_22 rfl (lv_at hl 0 rfl) ?_
    refine lv_isub hx hb d_Al_grow2_23 ?_
    refine lv_iload_n hx hb d_Al_grow2_24 rfl (lv_at hl 0 rfl) ?_
    refine lv_iconst (v := 1) hx hb d_Al_grow2_25 (by decide) ?_
    refine lv_ishr hx hb d_Al_grow2_26 ?_
    refine W.eq (g2 := F0 m 27 ls [.int (nI (cap / 2)), .int (nI 1), .int (nI cap)]) (by rw [pk_sub (by omega), pk_shrN (by omega) _ 1 (by decide), show cap + 1 - cap = 1 by omega]) ?_
    refine hb_callS (rest := []) hX hts hb_gd Y_Sup_newLength (c_Sup_newLength hE M cap 1 (cap / 2) (by omega) (by omega) (by omega) (by omega)) ml_Al_73 st_Sup_newLength hz hP hD hS hA rfl hl.1 rfl (Nat.le_of_ble_eq_true rfl) ⟨Nat.le_of_ble_eq_true rfl, Nat.le_of_ble_eq_true rfl⟩ ⟨Nat.le_of_ble_eq_true rfl, Nat.le_of_ble_eq_true rfl⟩ d_Al_grow2_27 (fun v4 M2 H locs hq3 hP hD hS _ hkp => ?_)
    obtain ⟨ev5, eM6⟩ := hq3
    subst ev5
    rw [eM6] at hP hD
    refine W.eq (g2 := F0 m 30 ls [.int (nI (cap + max 1 (cap / 2)))]) rfl ?_
    refine lv_istore_n (lv' := [(3, .int (nI (cap + max 1 (cap / 2)))), (2, .int (nI cap)), (0, .ref t), (1, .int (nI (cap + 1)))]) hx hb d_Al_grow2_30 rfl hl (by decide) rfl (fun ls hl => ?_)
    refine lv_aload_n hx hb d_Al_grow2_31 rfl (lv_at hl 2 rfl) ?_
    refine lv_aload_n hx hb d_Al_grow2_32 rfl (lv_at hl 2 rfl) ?_
    refine hb_get hx hb hts hown hC_Al hK hP ht 0 (by decide) rfl fl_Al_9 rfl d_Al_grow2_33 ?_
    refine lv_iload_n hx hb d_Al_grow2_36 rfl (lv_at hl 0 rfl) ?_
    refine hb_callS (rest := [.ref t]) hX hts hb_gd Y_Ars_copyOf1 (c_Ars_copyOf1 hE M ar cap (cap + max 1 (cap / 2)) f (by omega) (by omega) hels har) ml_Al_66 st_Ars_copyOf1 hz hP hD hS hA rfl hl.1 rfl (Nat.le_of_ble_eq_true rfl) ⟨Nat.le_of_ble_eq_true rfl, Nat.le_of_ble_eq_true rfl⟩ ⟨Nat.le_of_ble_eq_true rfl, Nat.le_of_ble_eq_true rfl⟩ d_Al_grow2_37 (fun v9 M7 H locs hq8 hP hD hS _ hkp => ?_)
    obtain ⟨q10, g9, ev9, hqn, eM9, hg9⟩ := hq8
    subst ev9
    have f11 : M7 q10 = some (.inl (cO, (cap + max 1 (cap / 2)), .inr (.inr (.inr (.inr g9))))) := by rw [eM9]; exact hb_up_self
    have f12 : M7 t = some (.inr (3, [.ref ar, .int (nI n), .int md])) := by rw [eM9, hb_up_ne (fun q9 => by rw [q9, hqn] at ht; cases ht)]; exact ht
    have f13 : M7 ar = some (.inl (cO, cap, .inr (.inr (.inr (.inr f))))) := by rw [eM9, hb_up_ne (fun q9 => by rw [q9, hqn] at har; cases har)]; exact har
    refine W.eq (g2 := F0 m 40 ls [.ref q10, .ref t]) rfl ?_
    refine lv_dup_x1 hx hb d_Al_grow2_40 rfl rfl ?_
    refine hb_put (ty := .array (.object "java/lang/Object")) hx hb hts hown hC_Al hK hP hD hS f12 0 (by decide) rfl fl_Al_9 rfl rfl rfl rfl (Nat.le_of_ble_eq_true rfl) d_Al_grow2_41 (fun M14 H locs eM15 hP hD hS => ?_)
    have f16 : M14 t = some (.inr (3, [.ref q10, .int (nI n), .int md])) := by rw [eM15]; exact hb_up_self
    have f17 : M14 q10 = some (.inl (cO, (cap + max 1 (cap / 2)), .inr (.inr (.inr (.inr g9))))) := by rw [eM15, hb_up_ne (Ne.symm (fun q9 => by rw [q9, hqn] at ht; cases ht))]; exact f11
    have f18 : M14 ar = some (.inl (cO, cap, .inr (.inr (.inr (.inr f))))) := by rw [eM15, hb_up_ne (fun q9 => by rw [q9, f12] at f13; cases f13)]; exact f13
    exact hb_aret hAe hx hb hr (Or.inr ⟨_, rfl⟩) (Or.inr ⟨_, rfl⟩) hlocks hP hD hS (Nat.le_of_ble_eq_true rfl) (Nat.le_of_ble_eq_true rfl) (⟨q10, g9, rfl, hqn, f17, f16, ((hb_off.rf.up (by simp) eM9).up (by simp) eM15), hg9⟩) d_Al_grow2_44
  · skip
    exact absurd (nI_lt h0 (by omega)) c1
set_option maxHeartbeats 4000000 in
set_option maxRecDepth 100000 in
/-- ArrayList.grow(1), empty list -/
theorem c_Al_grow2_e {l : Launch} {s0 : State} {D : va_G} {cI cJ cO : ClassId} {e0 mi : Nat} (hE : hb_E l s0 D cI cJ cO e0 mi) (M : hb_M) (t : Nat) (md : Int32) (ht : M t = some (.inr (3, [.ref e0, .int (nI 0), .int md]))) : hb_Met l D hb_cl s0 y_Al_grow2 b_Al_grow2 4 (some (.array (.object "java/lang/Object"))) { frames := 1, cells := 1, slots := 100, locals := 20 } [.ref t, .int (nI 1)] M (fun v M1 => ∃ q g, v = some (.ref q) ∧ M q = none ∧ M1 q = some (hb_ar cO 10 g) ∧ M1 t = some (.inr (3, [.ref q, .int (nI 0), .int md])) ∧ hb_off [q, t] M M1) := by
  refine hb_Met.of (by decide) (Nat.le_of_ble_eq_true rfl) ?_
  intro p e s m below meth c A hAe hX hz hP hD hA hS ls hl
  obtain ⟨hx, hb, hr, hml, hown, hlocks, hnm, hG, hnh⟩ := id hX
  have hown : s.vm.findClass "java/util/ArrayList" = some m.cls := hown
  have hts := hE.ts hG ([.ref t, .int (nI 1)] : List Value).toArray
  have hK := hE.kn hG
  have hl : lv_has ls 4 [(0, .ref t), (1, .int (nI 1))] := hl
  refine lv_aload_n hx hb d_Al_grow2_0 rfl (lv_at hl 0 rfl) ?_
  refine hb_get hx hb hts hown hC_Al hK hP ht 0 (by decide) rfl fl_Al_9 rfl d_Al_grow2_1 ?_
  refine va_tlen (v := 0) hx hb (hE.et hG hz) hS rfl d_Al_grow2_4 ?_
  refine lv_istore_n (lv' := [(2, .int 0), (0, .ref t), (1, .int (nI 1))]) hx hb d_Al_grow2_5 rfl hl (by decide) rfl (fun ls hl => ?_)
  refine lv_iload_n hx hb d_Al_grow2_6 rfl (lv_at hl 0 rfl) ?_
  refine lv_if_gt (tgt := 20) hx hb d_Al_grow2_7 (by decide) (fun c1 => ?_) (fun c1 => ?_)
  · skip
    exact absurd c1 (by decide)
  · skip
    refine lv_aload_n hx hb d_Al_grow2_10 rfl (lv_at hl 1 rfl) ?_
    refine hb_get hx hb hts hown hC_Al hK hP ht 0 (by decide) rfl fl_Al_9 rfl d_Al_grow2_11 ?_
    refine va_gets hx hb (hE.zs hG hz) hS hown (hts _ fl_Al_39) (fun _ h9 => h9) d_Al_grow2_14 ?_
    refine lv_acmp_eq (rx := some e0) (ry := some e0) (tgt := 45) hx hb d_Al_grow2_17 (by decide) (fun c2 => ?_) (fun c2 => ?_)
    · skip
      refine lv_aload_n hx hb d_Al_grow2_45 rfl (lv_at hl 1 rfl) ?_
      refine lv_bipush (v := 10) hx hb d_Al_grow2_46 (by decide) ?_
      refine lv_iload_n hx hb d_Al_grow2_48 rfl (lv_at hl 2 rfl) ?_
      refine va_mmax hx hb (by rw [hml]; exact hl.1.symm) hown (hts _ ml_Al_79) (hts _ st_Mth_max) (hts _ in_Mth) (hts _ cd_Mth_max) (Nat.le_of_ble_eq_true rfl) (Nat.le_of_ble_eq_true rfl) (Nat.le_of_ble_eq_true rfl) (Nat.le_of_ble_eq_true rfl) d_Al_grow2_49 ?_
      refine W.eq (g2 := F0 m 52 ls [.int 10, .ref t]) (by rw [if_neg (by decide)]) ?_
      refine hb_newq (N' := 10) hx hb hts hown kl_Al_7 (hE.ao hG) hK hP hD hS hA (by decide) (by decide) (by decide) (Nat.le_of_ble_eq_true rfl) (show 0 + 10 ≤ 100 by decide) d_Al_grow2_52 (fun q3 M4 H hq6 ha7 eM5 hP hD hS => ?_)
      refine W.widen (k := 1) (n := 100) (Nat.le_of_ble_eq_true rfl) (by decide) ?_
      have f8 : M4 q3 = some (.inl (cO, 10, .inr (.inr (.inr (.inr (fun _ => none)))))) := by rw [eM5]; exact hb_up_self
      have f9 : M4 t = some (.inr (3, [.ref e0, .int (nI 0), .int md])) := by rw [eM5, hb_up_ne (fun q9 => by rw [q9, hq6] at ht; cases ht)]; exact ht
      refine lv_dup_x1 hx hb d_Al_grow2_55 rfl rfl ?_
      refine hb_put (ty := .array (.object "java/lang/Object")) hx hb hts hown hC_Al hK hP hD hS f9 0 (by decide) rfl fl_Al_9 rfl rfl rfl rfl (Nat.le_of_ble_eq_true rfl) d_Al_grow2_56 (fun M10 H locs eM11 hP hD hS => ?_)
      have f12 : M10 t = some (.inr (3, [.ref q3, .int (nI 0), .int md])) := by rw [eM11]; exact hb_up_self
      have f13 : M10 q3 = some (.inl (cO, 10, .inr (.inr (.inr (.inr (fun _ => none)))))) := by rw [eM11, hb_up_ne (Ne.symm (fun q9 => by rw [q9, hq6] at ht; cases ht))]; exact f8
      exact hb_aret hAe hx hb hr (Or.inr ⟨_, rfl⟩) (Or.inr ⟨_, rfl⟩) hlocks hP hD hS (Nat.le_of_ble_eq_true rfl) (Nat.le_of_ble_eq_true rfl) (⟨q3, _, rfl, hq6, f13, f12, ((hb_off.rf.up (by simp) eM5).up (by simp) eM11)⟩) d_Al_grow2_59
    · skip
      exact absurd rfl c2
set_option maxHeartbeats 4000000 in
set_option maxRecDepth 100000 in
/-- ArrayList.grow(), full -/
theorem c_Al_grow1_a {l : Launch} {s0 : State} {D : va_G} {cI cJ cO : ClassId} {e0 mi : Nat} (hE : hb_E l s0 D cI cJ cO e0 mi) (M : hb_M) (t ar cap : Nat) (md : Int32) (f : Nat → Option Nat) (h0 : 0 < cap) (hc : cap ≤ 66) (hels : hb_els M f cap) (ht : M t = some (.inr (3, [.ref ar, .int (nI cap), .int md]))) (har : M ar = some (hb_ar cO cap f)) : hb_Met l D hb_cl s0 y_Al_grow1 b_Al_grow1 1 (some (.array (.object "java/lang/Object"))) { frames := 4, cells := 1, slots := 100, locals := 127 } [.ref t] M (fun v M1 => ∃ q g, v = some (.ref q) ∧ M q = none ∧ M1 q = some (hb_ar cO (cap + max 1 (cap / 2)) g) ∧ M1 t = some (.inr (3, [.ref q, .int (nI cap), .int md])) ∧ hb_off [q, t] M M1 ∧ ∀ i, i < cap → g i = f i) := by
  refine hb_Met.of (by decide) (Nat.le_of_ble_eq_true rfl) ?_
  intro p e s m below meth c A hAe hX hz hP hD hA hS ls hl
  obtain ⟨hx, hb, hr, hml, hown, hlocks, hnm, hG, hnh⟩ := id hX
  have hown : s.vm.findClass "java/util/ArrayList" = some m.cls := hown
  have hts := hE.ts hG ([.ref t] : List Value).toArray
  have hK := hE.kn hG
  have hl : lv_has ls 1 [(0, .ref t)] := hl
  refine lv_aload_n hx hb d_Al_grow1_0 rfl (lv_at hl 0 rfl) ?_
  refine lv_aload_n hx hb d_Al_grow1_1 rfl (lv_at hl 0 rfl) ?_
  refine hb_get hx hb hts hown hC_Al hK hP ht 1 (by decide) rfl fl_Al_48 rfl d_Al_grow1_2 ?_
  refine lv_iconst (v := 1) hx hb d_Al_grow1_5 (by decide) ?_
  refine lv_iadd hx hb d_Al_grow1_6 ?_
  refine W.eq (g2 := F0 m 7 ls [.int (nI (cap + 1)), .ref t]) (by rw [nI_1]) ?_
  refine hb_callV (rest := []) hX hts hb_gd Y_Al_grow2 (c_Al_grow2_a hE M t ar cap cap md f h0 hc hels ht har) ml_Al_69 im_Al_grow2 se_Al_grow2 hK ht hC_Al.1 hz hP hD hS hA rfl hl.1 rfl (Nat.le_of_ble_eq_true rfl) ⟨Nat.le_of_ble_eq_true rfl, Nat.le_of_ble_eq_true rfl⟩ ⟨Nat.le_of_ble_eq_true rfl, Nat.le_of_ble_eq_true rfl⟩ d_Al_grow1_7 (fun v3 M1 H locs hq2 hP hD hS _ hkp => ?_)
  obtain ⟨q4, g9, ev9, hq9⟩ := hq2
  subst ev9
  refine W.eq (g2 := F0 m 10 ls [.ref q4]) rfl ?_
  exact hb_aret hAe hx hb hr (Or.inr ⟨_, rfl⟩) (Or.inr ⟨_, rfl⟩) hlocks hP hD hS (Nat.le_of_ble_eq_true rfl) (Nat.le_of_ble_eq_true rfl) (⟨q4, g9, rfl, hq9⟩) d_Al_grow1_10
set_option maxHeartbeats 4000000 in
set_option maxRecDepth 100000 in
/-- ArrayList.grow(), empty -/
theorem c_Al_grow1_e {l : Launch} {s0 : State} {D : va_G} {cI cJ cO : ClassId} {e0 mi : Nat} (hE : hb_E l s0 D cI cJ cO e0 mi) (M : hb_M) (t : Nat) (md : Int32) (ht : M t = some (.inr (3, [.ref e0, .int (nI 0), .int md]))) : hb_Met l D hb_cl s0 y_Al_grow1 b_Al_grow1 1 (some (.array (.object "java/lang/Object"))) { frames := 2, cells := 1, slots := 100, locals := 43 } [.ref t] M (fun v M1 => ∃ q g, v = some (.ref q) ∧ M q = none ∧ M1 q = some (hb_ar cO 10 g) ∧ M1 t = some (.inr (3, [.ref q, .int (nI 0), .int md])) ∧ hb_off [q, t] M M1) := by
  refine hb_Met.of (by decide) (Nat.le_of_ble_eq_true rfl) ?_
  intro p e s m below meth c A hAe hX hz hP hD hA hS ls hl
  obtain ⟨hx, hb, hr, hml, hown, hlocks, hnm, hG, hnh⟩ := id hX
  have hown : s.vm.findClass "java/util/ArrayList" = some m.cls := hown
  have hts := hE.ts hG ([.ref t] : List Value).toArray
  have hK := hE.kn hG
  have hl : lv_has ls 1 [(0, .ref t)] := hl
  refine lv_aload_n hx hb d_Al_grow1_0 rfl (lv_at hl 0 rfl) ?_
  refine lv_aload_n hx hb d_Al_grow1_1 rfl (lv_at hl 0 rfl) ?_
  refine hb_get hx hb hts hown hC_Al hK hP ht 1 (by decide) rfl fl_Al_48 rfl d_Al_grow1_2 ?_
  refine lv_iconst (v := 1) hx hb d_Al_grow1_5 (by decide) ?_
  refine lv_iadd hx hb d_Al_grow1_6 ?_
  refine W.eq (g2 := F0 m 7 ls [.int (nI 1), .ref t]) (by rw [nI_1]) ?_
  refine hb_callV (rest := []) hX hts hb_gd Y_Al_grow2 (c_Al_grow2_e hE M t md ht) ml_Al_69 im_Al_grow2 se_Al_grow2 hK ht hC_Al.1 hz hP hD hS hA rfl hl.1 rfl (Nat.le_of_ble_eq_true rfl) ⟨Nat.le_of_ble_eq_true rfl, Nat.le_of_ble_eq_true rfl⟩ ⟨Nat.le_of_ble_eq_true rfl, Nat.le_of_ble_eq_true rfl⟩ d_Al_grow1_7 (fun v3 M1 H locs hq2 hP hD hS _ hkp => ?_)
  obtain ⟨q4, g9, ev9, hq9⟩ := hq2
  subst ev9
  refine W.eq (g2 := F0 m 10 ls [.ref q4]) rfl ?_
  exact hb_aret hAe hx hb hr (Or.inr ⟨_, rfl⟩) (Or.inr ⟨_, rfl⟩) hlocks hP hD hS (Nat.le_of_ble_eq_true rfl) (Nat.le_of_ble_eq_true rfl) (⟨q4, g9, rfl, hq9⟩) d_Al_grow1_10
end
section
/-! ARRAYLIST: add(x), add(j, x) -/
theorem hb_ins_end {f : Nat → Option Nat} {n x i : Nat} (hi : i < n + 1) : va_up f n (some x) i = hb_ins f n x i := by
  unfold hb_ins va_up
  by_cases h : i = n
  · rw [if_pos h, if_neg (by omega), if_pos h]
  · rw [if_neg h, if_pos (by omega)]
theorem hb_ins_mid {f : Nat → Option Nat} {n j x i : Nat} (hj : j ≤ n) (hi : i < n + 1) : va_up (va_cpy f f j (j + 1) (n - j)) j (some x) i = hb_ins f j x i := by
  unfold hb_ins
  by_cases h : i < j
  · rw [if_pos h, va_up_ne _ _ (by omega), pk_cpy_out (Or.inl (by omega))]
  · rw [if_neg h]
    by_cases h2 : i = j
    · rw [if_pos h2, h2, va_up_self]
    · rw [if_neg h2, va_up_ne _ _ h2, pk_cpy_in (by omega) (by omega), show j + (i - (j + 1)) = i - 1 by omega]
theorem hb_ins_congr {f g : Nat → Option Nat} {n j x i : Nat} (h : ∀ i, i < n → g i = f i) (hj : j ≤ n) (hi : i < n + 1) : hb_ins g j x i = hb_ins f j x i := by
  unfold hb_ins
  by_cases h1 : i < j
  · rw [if_pos h1, if_pos h1, h i (by omega)]
  · rw [if_neg h1, if_neg h1]
    by_cases h2 : i = j
    · rw [if_pos h2, if_pos h2]
    · rw [if_neg h2, if_neg h2, h (i - 1) (by omega)]
theorem hb_els.off {M M1 : hb_M} {f : Nat → Option Nat} {n q t : Nat} {fs : List Value} (h : hb_els M f n) (ho : hb_off [q, t] M M1) (hq : M q = none) (ht : M t = some (.inr (3, fs))) : hb_els M1 f n := by
  intro i hi
  obtain ⟨y, ci, fs2, a1, a2, a3⟩ := h i hi
  refine ⟨y, ci, fs2, a1, ?_, a3⟩
  rw [ho y (hb_n2 (fun z => by rw [z, hq] at a2; cases a2) (fun z => by rw [z, ht] at a2; cases a2; rcases a3 with a3 | a3 <;> cases a3))]
  exact a2
theorem hb_els.congr {M : hb_M} {f g : Nat → Option Nat} {n : Nat} (h : hb_els M f n) (hg : ∀ i, i < n → g i = f i) : hb_els M g n := by
  intro i hi
  rw [hg i hi]
  exact h i hi
theorem hb_kpq {M M1 : hb_M} {q t ar : Nat} (h : hb_off [q, t] M M1) (hq : M q = none) : hb_kp [t, ar] M M1 := hb_kp.of_off h (fun z hz => by
  simp only [List.mem_cons, List.not_mem_nil, or_false] at hz
  rcases hz with rfl | rfl
  · exact Or.inr hq
  · exact Or.inl (by simp))
set_option maxHeartbeats 4000000 in
set_option maxRecDepth 100000 in
/-- ArrayList.add(x, es, s), case a -/
theorem c_Al_add2_a {l : Launch} {s0 : State} {D : va_G} {cI cJ cO : ClassId} {e0 mi : Nat} (hE : hb_E l s0 D cI cJ cO e0 mi) (M : hb_M) (t ar cap n : Nat) (md : Int32) (f : Nat → Option Nat) (hn : n < cap) (hc : cap ≤ 100) (x ci : Nat) (xs : List Value) (hx1 : M x = some (.inr (ci, xs))) (hci : ci = 0 ∨ ci = 1) (ht : M t = some (.inr (3, [.ref ar, .int (nI n), .int md]))) (har : M ar = some (hb_ar cO cap f)) : hb_Met l D hb_cl s0 y_Al_add2 b_Al_add2 4 none { frames := 5, cells := 1, slots := 100, locals := 147 } [.ref t, .ref x, .ref ar, .int (nI n)] M (fun v M1 => v = none ∧ hb_added cO M M1 t ar n md f n x) := by
  refine hb_Met.of (by decide) (Nat.le_of_ble_eq_true rfl) ?_
  intro p e s m below meth c A hAe hX hz hP hD hA hS ls hl
  obtain ⟨hx, hb, hr, hml, hown, hlocks, hnm, hG, hnh⟩ := id hX
  have hown : s.vm.findClass "java/util/ArrayList" = some m.cls := hown
  have hts := hE.ts hG ([.ref t, .ref x, .ref ar, .int (nI n)] : List Value).toArray
  have hK := hE.kn hG
  have hl : lv_has ls 4 [(0, .ref t), (1, .ref x), (2, .ref ar), (3, .int (nI n))] := hl
  refine lv_iload_n hx hb d_Al_add2_0 rfl (lv_at hl 3 rfl) ?_
  refine lv_aload_n hx hb d_Al_add2_1 rfl (lv_at hl 2 rfl) ?_
  refine va_alen (v := nI cap) hx hb hK (hP.one har) 0 2 rfl rfl rfl d_Al_add2_2 ?_
  refine lv_icmp_ne (tgt := 11) hx hb d_Al_add2_3 (by decide) (fun c1 => ?_) (fun c1 => ?_)
  · skip
    refine lv_aload_n hx hb d_Al_add2_11 rfl (lv_at hl 2 rfl) ?_
    refine lv_iload_n hx hb d_Al_add2_12 rfl (lv_at hl 3 rfl) ?_
    refine lv_aload_n hx hb d_Al_add2_13 rfl (lv_at hl 1 rfl) ?_
    refine hb_astq hx hb hK hP hD hS har (hb_any hE hG hP hx1 hci) (vp_in_nI (by omega) (by omega)) d_Al_add2_14 (fun M2 H locs eM3 hP hD hS => ?_)
    have f4 : M2 ar = some (.inl (cO, cap, .inr (.inr (.inr (.inr (va_up f (nI n).toNatClampNeg (some x))))))) := by rw [eM3]; exact hb_up_self
    have f5 : M2 t = some (.inr (3, [.ref ar, .int (nI n), .int md])) := by rw [eM3, hb_up_ne (fun q9 => by rw [q9, har] at ht; cases ht)]; exact ht
    have f6 : M2 x = some (.inr (ci, xs)) := by rw [eM3, hb_up_ne (fun q9 => by rw [q9, har] at hx1; cases hx1)]; exact hx1
    refine lv_aload_n hx hb d_Al_add2_15 rfl (lv_at hl 0 rfl) ?_
    refine lv_iload_n hx hb d_Al_add2_16 rfl (lv_at hl 3 rfl) ?_
    refine lv_iconst (v := 1) hx hb d_Al_add2_17 (by decide) ?_
    refine lv_iadd hx hb d_Al_add2_18 ?_
    refine W.eq (g2 := F0 m 19 ls [.int (nI (n + 1)), .ref t]) (by rw [nI_1]) ?_
    refine hb_put (ty := .int) hx hb hts hown hC_Al hK hP hD hS f5 1 (by decide) rfl fl_Al_48 rfl rfl rfl rfl (Nat.le_of_ble_eq_true rfl) d_Al_add2_19 (fun M7 H locs eM8 hP hD hS => ?_)
    have f9 : M7 t = some (.inr (3, [.ref ar, .int (nI (n + 1)), .int md])) := by rw [eM8]; exact hb_up_self
    have f10 : M7 ar = some (.inl (cO, cap, .inr (.inr (.inr (.inr (va_up f (nI n).toNatClampNeg (some x))))))) := by rw [eM8, hb_up_ne (fun q9 => by rw [q9, f5] at f4; cases f4)]; exact f4
    have f11 : M7 x = some (.inr (ci, xs)) := by rw [eM8, hb_up_ne (fun q9 => by rw [q9, ht] at hx1; cases hx1; rcases hci with hci | hci <;> cases hci)]; exact f6
    exact hb_vret hAe hx hb hr hlocks hP hD hS (Nat.le_of_ble_eq_true rfl) (Nat.le_of_ble_eq_true rfl) (⟨rfl, ar, cap, _, f9, f10, by omega, hc, Or.inl rfl, fun i hi => by rw [nI_clamp (show n < 2 ^ 31 by omega)]; exact hb_ins_end hi, hb_off.kp ((hb_off.rf.up (by simp) eM3).up (by simp) eM8)⟩) d_Al_add2_22
  · skip
    exact absurd ((nI_eq (by omega) (by omega)).mp c1) (by omega)
set_option maxHeartbeats 4000000 in
set_option maxRecDepth 100000 in
/-- ArrayList.add(x, es, s), case f -/
theorem c_Al_add2_f {l : Launch} {s0 : State} {D : va_G} {cI cJ cO : ClassId} {e0 mi : Nat} (hE : hb_E l s0 D cI cJ cO e0 mi) (M : hb_M) (t ar n : Nat) (md : Int32) (f : Nat → Option Nat) (h0 : 0 < n) (hc : n ≤ 66) (hels : hb_els M f n) (x ci : Nat) (xs : List Value) (hx1 : M x = some (.inr (ci, xs))) (hci : ci = 0 ∨ ci = 1) (ht : M t = some (.inr (3, [.ref ar, .int (nI n), .int md]))) (har : M ar = some (hb_ar cO n f)) : hb_Met l D hb_cl s0 y_Al_add2 b_Al_add2 4 none { frames := 5, cells := 1, slots := 100, locals := 147 } [.ref t, .ref x, .ref ar, .int (nI n)] M (fun v M1 => v = none ∧ hb_added cO M M1 t ar n md f n x) := by
  refine hb_Met.of (by decide) (Nat.le_of_ble_eq_true rfl) ?_
  intro p e s m below meth c A hAe hX hz hP hD hA hS ls hl
  obtain ⟨hx, hb, hr, hml, hown, hlocks, hnm, hG, hnh⟩ := id hX
  have hown : s.vm.findClass "java/util/ArrayList" = some m.cls := hown
  have hts := hE.ts hG ([.ref t, .ref x, .ref ar, .int (nI n)] : List Value).toArray
  have hK := hE.kn hG
  have hl : lv_has ls 4 [(0, .ref t), (1, .ref x), (2, .ref ar), (3, .int (nI n))] := hl
  refine lv_iload_n hx hb d_Al_add2_0 rfl (lv_at hl 3 rfl) ?_
  refine lv_aload_n hx hb d_Al_add2_1 rfl (lv_at hl 2 rfl) ?_
  refine va_alen (v := nI n) hx hb hK (hP.one har) 0 2 rfl rfl rfl d_Al_add2_2 ?_
  refine lv_icmp_ne (tgt := 11) hx hb d_Al_add2_3 (by decide) (fun c1 => ?_) (fun c1 => ?_)
  · skip
    exact absurd rfl c1
  · skip
    refine lv_aload_n hx hb d_Al_add2_6 rfl (lv_at hl 0 rfl) ?_
    refine hb_callV (rest := []) hX hts hb_gd Y_Al_grow1 (c_Al_grow1_a hE M t ar n md f h0 hc hels ht har) ml_Al_129 im_Al_grow1 se_Al_grow1 hK ht hC_Al.1 hz hP hD hS hA rfl hl.1 rfl (Nat.le_of_ble_eq_true rfl) ⟨Nat.le_of_ble_eq_true rfl, Nat.le_of_ble_eq_true rfl⟩ ⟨Nat.le_of_ble_eq_true rfl, Nat.le_of_ble_eq_true rfl⟩ d_Al_add2_7 (fun v4 M2 H locs hq3 hP hD hS _ hkp => ?_)
    obtain ⟨q5, g9, ev9, hqn, fq9, ft9, ho9, hg9⟩ := hq3
    subst ev9
    have fx9 : M2 x = some (.inr (ci, xs)) := ho9.at (hb_n2 (fun q9 => by rw [q9, hqn] at hx1; cases hx1) (fun q9 => by rw [q9, ht] at hx1; cases hx1; rcases hci with hci | hci <;> cases hci)) hx1
    refine W.eq (g2 := F0 m 10 ls [.ref q5]) rfl ?_
    refine lv_astore_n (lv' := [(2, .ref q5), (0, .ref t), (1, .ref x), (3, .int (nI n))]) hx hb d_Al_add2_10 rfl hl (by decide) rfl (fun ls hl => ?_)
    refine lv_aload_n hx hb d_Al_add2_11 rfl (lv_at hl 0 rfl) ?_
    refine lv_iload_n hx hb d_Al_add2_12 rfl (lv_at hl 3 rfl) ?_
    refine lv_aload_n hx hb d_Al_add2_13 rfl (lv_at hl 2 rfl) ?_
    refine hb_astq hx hb hK hP hD hS fq9 (hb_any hE hG hP fx9 hci) (vp_in_nI (by omega) (by omega)) d_Al_add2_14 (fun M6 H locs eM7 hP hD hS => ?_)
    have f8 : M6 q5 = some (.inl (cO, (n + max 1 (n / 2)), .inr (.inr (.inr (.inr (va_up g9 (nI n).toNatClampNeg (some x))))))) := by rw [eM7]; exact hb_up_self
    have f9 : M6 t = some (.inr (3, [.ref q5, .int (nI n), .int md])) := by rw [eM7, hb_up_ne (fun q9 => by rw [q9, fq9] at ft9; cases ft9)]; exact ft9
    have f10 : M6 x = some (.inr (ci, xs)) := by rw [eM7, hb_up_ne (fun q9 => by rw [q9, fq9] at fx9; cases fx9)]; exact fx9
    refine lv_aload_n hx hb d_Al_add2_15 rfl (lv_at hl 1 rfl) ?_
    refine lv_iload_n hx hb d_Al_add2_16 rfl (lv_at hl 3 rfl) ?_
    refine lv_iconst (v := 1) hx hb d_Al_add2_17 (by decide) ?_
    refine lv_iadd hx hb d_Al_add2_18 ?_
    refine W.eq (g2 := F0 m 19 ls [.int (nI (n + 1)), .ref t]) (by rw [nI_1]) ?_
    refine hb_put (ty := .int) hx hb hts hown hC_Al hK hP hD hS f9 1 (by decide) rfl fl_Al_48 rfl rfl rfl rfl (Nat.le_of_ble_eq_true rfl) d_Al_add2_19 (fun M11 H locs eM12 hP hD hS => ?_)
    have f13 : M11 t = some (.inr (3, [.ref q5, .int (nI (n + 1)), .int md])) := by rw [eM12]; exact hb_up_self
    have f14 : M11 q5 = some (.inl (cO, (n + max 1 (n / 2)), .inr (.inr (.inr (.inr (va_up g9 (nI n).toNatClampNeg (some x))))))) := by rw [eM12, hb_up_ne (fun q9 => by rw [q9, f9] at f8; cases f8)]; exact f8
    have f15 : M11 x = some (.inr (ci, xs)) := by rw [eM12, hb_up_ne (fun q9 => by rw [q9, ft9] at fx9; cases fx9; rcases hci with hci | hci <;> cases hci)]; exact f10
    exact hb_vret hAe hx hb hr hlocks hP hD hS (Nat.le_of_ble_eq_true rfl) (Nat.le_of_ble_eq_true rfl) (⟨rfl, q5, _, _, f13, f14, by omega, by omega, Or.inr hqn, fun i hi => by rw [nI_clamp (show n < 2 ^ 31 by omega), hb_ins_end hi]; exact hb_ins_congr hg9 (Nat.le_refl _) hi, hb_kpq (((hb_off.rf.tr ho9 (by simp)).up (by simp) eM7).up (by simp) eM12) hqn⟩) d_Al_add2_22
set_option maxHeartbeats 4000000 in
set_option maxRecDepth 100000 in
/-- ArrayList.add(x, es, s), case e -/
theorem c_Al_add2_e {l : Launch} {s0 : State} {D : va_G} {cI cJ cO : ClassId} {e0 mi : Nat} (hE : hb_E l s0 D cI cJ cO e0 mi) (M : hb_M) (t : Nat) (md : Int32) (f : Nat → Option Nat) (x ci : Nat) (xs : List Value) (hx1 : M x = some (.inr (ci, xs))) (hci : ci = 0 ∨ ci = 1) (ht : M t = some (.inr (3, [.ref e0, .int (nI 0), .int md]))) : hb_Met l D hb_cl s0 y_Al_add2 b_Al_add2 4 none { frames := 5, cells := 1, slots := 100, locals := 147 } [.ref t, .ref x, .ref e0, .int (nI 0)] M (fun v M1 => v = none ∧ hb_added cO M M1 t e0 0 md f 0 x) := by
  refine hb_Met.of (by decide) (Nat.le_of_ble_eq_true rfl) ?_
  intro p e s m below meth c A hAe hX hz hP hD hA hS ls hl
  obtain ⟨hx, hb, hr, hml, hown, hlocks, hnm, hG, hnh⟩ := id hX
  have hown : s.vm.findClass "java/util/ArrayList" = some m.cls := hown
  have hts := hE.ts hG ([.ref t, .ref x, .ref e0, .int (nI 0)] : List Value).toArray
  have hK := hE.kn hG
  have hl : lv_has ls 4 [(0, .ref t), (1, .ref x), (2, .ref e0), (3, .int (nI 0))] := hl
  refine lv_iload_n hx hb d_Al_add2_0 rfl (lv_at hl 3 rfl) ?_
  refine lv_aload_n hx hb d_Al_add2_1 rfl (lv_at hl 2 rfl) ?_
  refine va_tlen (v := 0) hx hb (hE.et hG hz) hS rfl d_Al_add2_2 ?_
  refine lv_icmp_ne (tgt := 11) hx hb d_Al_add2_3 (by decide) (fun c1 => ?_) (fun c1 => ?_)
  · skip
    exact absurd rfl c1
  · skip
    refine lv_aload_n hx hb d_Al_add2_6 rfl (lv_at hl 0 rfl) ?_
    refine hb_callV (rest := []) hX hts hb_gd Y_Al_grow1 (c_Al_grow1_e hE M t md ht) ml_Al_129 im_Al_grow1 se_Al_grow1 hK ht hC_Al.1 hz hP hD hS hA rfl hl.1 rfl (Nat.le_of_ble_eq_true rfl) ⟨Nat.le_of_ble_eq_true rfl, Nat.le_of_ble_eq_true rfl⟩ ⟨Nat.le_of_ble_eq_true rfl, Nat.le_of_ble_eq_true rfl⟩ d_Al_add2_7 (fun v4 M2 H locs hq3 hP hD hS _ hkp => ?_)
    obtain ⟨q5, g9, ev9, hqn, fq9, ft9, ho9⟩ := hq3
    subst ev9
    have fx9 : M2 x = some (.inr (ci, xs)) := ho9.at (hb_n2 (fun q9 => by rw [q9, hqn] at hx1; cases hx1) (fun q9 => by rw [q9, ht] at hx1; cases hx1; rcases hci with hci | hci <;> cases hci)) hx1
    refine W.eq (g2 := F0 m 10 ls [.ref q5]) rfl ?_
    refine lv_astore_n (lv' := [(2, .ref q5), (0, .ref t), (1, .ref x), (3, .int (nI 0))]) hx hb d_Al_add2_10 rfl hl (by decide) rfl (fun ls hl => ?_)
    refine lv_aload_n hx hb d_Al_add2_11 rfl (lv_at hl 0 rfl) ?_
    refine lv_iload_n hx hb d_Al_add2_12 rfl (lv_at hl 3 rfl) ?_
    refine lv_aload_n hx hb d_Al_add2_13 rfl (lv_at hl 2 rfl) ?_
    refine hb_astq hx hb hK hP hD hS fq9 (hb_any hE hG hP fx9 hci) (vp_in_nI (by omega) (by omega)) d_Al_add2_14 (fun M6 H locs eM7 hP hD hS => ?_)
    have f8 : M6 q5 = some (.inl (cO, 10, .inr (.inr (.inr (.inr (va_up g9 (nI 0).toNatClampNeg (some x))))))) := by rw [eM7]; exact hb_up_self
    have f9 : M6 t = some (.inr (3, [.ref q5, .int (nI 0), .int md])) := by rw [eM7, hb_up_ne (fun q9 => by rw [q9, fq9] at ft9; cases ft9)]; exact ft9
    have f10 : M6 x = some (.inr (ci, xs)) := by rw [eM7, hb_up_ne (fun q9 => by rw [q9, fq9] at fx9; cases fx9)]; exact fx9
    refine lv_aload_n hx hb d_Al_add2_15 rfl (lv_at hl 1 rfl) ?_
    refine lv_iload_n hx hb d_Al_add2_16 rfl (lv_at hl 3 rfl) ?_
    refine lv_iconst (v := 1) hx hb d_Al_add2_17 (by decide) ?_
    refine lv_iadd hx hb d_Al_add2_18 ?_
    refine W.eq (g2 := F0 m 19 ls [.int (nI (0 + 1)), .ref t]) (by rw [nI_1]) ?_
    refine hb_put (ty := .int) hx hb hts hown hC_Al hK hP hD hS f9 1 (by decide) rfl fl_Al_48 rfl rfl rfl rfl (Nat.le_of_ble_eq_true rfl) d_Al_add2_19 (fun M11 H locs eM12 hP hD hS => ?_)
    have f13 : M11 t = some (.inr (3, [.ref q5, .int (nI (0 + 1)), .int md])) := by rw [eM12]; exact hb_up_self
    have f14 : M11 q5 = some (.inl (cO, 10, .inr (.inr (.inr (.inr (va_up g9 (nI 0).toNatClampNeg (some x))))))) := by rw [eM12, hb_up_ne (fun q9 => by rw [q9, f9] at f8; cases f8)]; exact f8
    have f15 : M11 x = some (.inr (ci, xs)) := by rw [eM12, hb_up_ne (fun q9 => by rw [q9, ft9] at fx9; cases fx9; rcases hci with hci | hci <;> cases hci)]; exact f10
    exact hb_vret hAe hx hb hr hlocks hP hD hS (Nat.le_of_ble_eq_true rfl) (Nat.le_of_ble_eq_true rfl) (⟨rfl, q5, _, _, f13, f14, by omega, by omega, Or.inr hqn, fun i hi => by rw [nI_clamp (show 0 < 2 ^ 31 by omega), hb_ins_end hi]; exact hb_ins_congr (fun i hi => absurd hi (by omega)) (Nat.le_refl _) hi, hb_kpq (((hb_off.rf.tr ho9 (by simp)).up (by simp) eM7).up (by simp) eM12) hqn⟩) d_Al_add2_22
set_option maxHeartbeats 4000000 in
set_option maxRecDepth 100000 in
/-- ArrayList.add(x), case a -/
theorem c_Al_add1_a {l : Launch} {s0 : State} {D : va_G} {cI cJ cO : ClassId} {e0 mi : Nat} (hE : hb_E l s0 D cI cJ cO e0 mi) (M : hb_M) (t ar cap n : Nat) (md : Int32) (f : Nat → Option Nat) (hn : n < cap) (hc : cap ≤ 100) (x ci : Nat) (xs : List Value) (hx1 : M x = some (.inr (ci, xs))) (hci : ci = 0 ∨ ci = 1) (ht : M t = some (.inr (3, [.ref ar, .int (nI n), .int md]))) (har : M ar = some (hb_ar cO cap f)) : hb_Met l D hb_cl s0 y_Al_add1 b_Al_add1 2 (some .boolean) { frames := 6, cells := 1, slots := 100, locals := 170 } [.ref t, .ref x] M (fun v M1 => v = some (.int 1) ∧ hb_added cO M M1 t ar n (md + 1) f n x) := by
  refine hb_Met.of (by decide) (Nat.le_of_ble_eq_true rfl) ?_
  intro p e s m below meth c A hAe hX hz hP hD hA hS ls hl
  obtain ⟨hx, hb, hr, hml, hown, hlocks, hnm, hG, hnh⟩ := id hX
  have hown : s.vm.findClass "java/util/ArrayList" = some m.cls := hown
  have hts := hE.ts hG ([.ref t, .ref x] : List Value).toArray
  have hK := hE.kn hG
  have hl : lv_has ls 2 [(0, .ref t), (1, .ref x)] := hl
  refine lv_aload_n hx hb d_Al_add1_0 rfl (lv_at hl 0 rfl) ?_
  refine lv_dup hx hb d_Al_add1_1 rfl ?_
  refine hb_getm hx hb hts hown hC_Al hK hP ht 2 (by decide) fl_Al_63 sf_modCount rfl d_Al_add1_2 ?_
  refine lv_iconst (v := 1) hx hb d_Al_add1_5 (by decide) ?_
  refine lv_iadd hx hb d_Al_add1_6 ?_
  refine hb_putm (ty := .int) hx hb hts hown hC_Al hK hP hD hS ht 2 (by decide) fl_Al_63 sf_modCount rfl rfl rfl rfl (Nat.le_of_ble_eq_true rfl) d_Al_add1_7 (fun M1 H locs eM2 hP hD hS => ?_)
  have f3 : M1 t = some (.inr (3, [.ref ar, .int (nI n), .int (md + 1)])) := by rw [eM2]; exact hb_up_self
  have f4 : M1 x = some (.inr (ci, xs)) := by rw [eM2, hb_up_ne (fun q9 => by rw [q9, ht] at hx1; cases hx1; rcases hci with hci | hci <;> cases hci)]; exact hx1
  have f5 : M1 ar = some (.inl (cO, cap, .inr (.inr (.inr (.inr f))))) := by rw [eM2, hb_up_ne (fun q9 => by rw [q9, ht] at har; cases har)]; exact har
  refine lv_aload_n hx hb d_Al_add1_10 rfl (lv_at hl 0 rfl) ?_
  refine lv_aload_n hx hb d_Al_add1_11 rfl (lv_at hl 1 rfl) ?_
  refine lv_aload_n hx hb d_Al_add1_12 rfl (lv_at hl 0 rfl) ?_
  refine hb_get hx hb hts hown hC_Al hK hP f3 0 (by decide) rfl fl_Al_9 rfl d_Al_add1_13 ?_
  refine lv_aload_n hx hb d_Al_add1_16 rfl (lv_at hl 0 rfl) ?_
  refine hb_get hx hb hts hown hC_Al hK hP f3 1 (by decide) rfl fl_Al_48 rfl d_Al_add1_17 ?_
  refine hb_callV (rest := []) hX hts hb_gd Y_Al_add2 (c_Al_add2_a hE M1 t ar cap n (md + 1) f hn hc x ci xs f4 hci f3 f5) ml_Al_131 im_Al_add2 se_Al_add2 hK f3 hC_Al.1 hz hP hD hS hA rfl hl.1 rfl (Nat.le_of_ble_eq_true rfl) ⟨Nat.le_of_ble_eq_true rfl, Nat.le_of_ble_eq_true rfl⟩ ⟨Nat.le_of_ble_eq_true rfl, Nat.le_of_ble_eq_true rfl⟩ d_Al_add1_20 (fun v8 M6 H locs hq7 hP hD hS _ hkp => ?_)
  obtain ⟨ev9, ar9, cap9, g9, a1, a2, a3, a4, a5, a6, a7⟩ := hq7
  subst ev9
  refine W.eq (g2 := F0 m 23 ls []) rfl ?_
  refine lv_iconst (v := 1) hx hb d_Al_add1_23 (by decide) ?_
  exact hb_zret hAe hx hb hr (by decide) hlocks hP hD hS (Nat.le_of_ble_eq_true rfl) (Nat.le_of_ble_eq_true rfl) (⟨rfl, ar9, cap9, g9, a1, a2, a3, a4, a5.imp id (fun h => by rw [eM2] at h; by_cases z : ar9 = t; rw [z, hb_up_self] at h; cases h; rw [hb_up_ne z] at h; exact h), a6, (hb_off.kp (hb_off.rf.up (by simp) eM2)).tr a7⟩) d_Al_add1_24
set_option maxHeartbeats 4000000 in
set_option maxRecDepth 100000 in
/-- ArrayList.add(x), case f -/
theorem c_Al_add1_f {l : Launch} {s0 : State} {D : va_G} {cI cJ cO : ClassId} {e0 mi : Nat} (hE : hb_E l s0 D cI cJ cO e0 mi) (M : hb_M) (t ar n : Nat) (md : Int32) (f : Nat → Option Nat) (h0 : 0 < n) (hc : n ≤ 66) (hels : hb_els M f n) (x ci : Nat) (xs : List Value) (hx1 : M x = some (.inr (ci, xs))) (hci : ci = 0 ∨ ci = 1) (ht : M t = some (.inr (3, [.ref ar, .int (nI n), .int md]))) (har : M ar = some (hb_ar cO n f)) : hb_Met l D hb_cl s0 y_Al_add1 b_Al_add1 2 (some .boolean) { frames := 6, cells := 1, slots := 100, locals := 170 } [.ref t, .ref x] M (fun v M1 => v = some (.int 1) ∧ hb_added cO M M1 t ar n (md + 1) f n x) := by
  refine hb_Met.of (by decide) (Nat.le_of_ble_eq_true rfl) ?_
  intro p e s m below meth c A hAe hX hz hP hD hA hS ls hl
  obtain ⟨hx, hb, hr, hml, hown, hlocks, hnm, hG, hnh⟩ := id hX
  have hown : s.vm.findClass "java/util/ArrayList" = some m.cls := hown
  have hts := hE.ts hG ([.ref t, .ref x] : List Value).toArray
  have hK := hE.kn hG
  have hl : lv_has ls 2 [(0, .ref t), (1, .ref x)] := hl
  refine lv_aload_n hx hb d_Al_add1_0 rfl (lv_at hl 0 rfl) ?_
  refine lv_dup hx hb d_Al_add1_1 rfl ?_
  refine hb_getm hx hb hts hown hC_Al hK hP ht 2 (by decide) fl_Al_63 sf_modCount rfl d_Al_add1_2 ?_
  refine lv_iconst (v := 1) hx hb d_Al_add1_5 (by decide) ?_
  refine lv_iadd hx hb d_Al_add1_6 ?_
  refine hb_putm (ty := .int) hx hb hts hown hC_Al hK hP hD hS ht 2 (by decide) fl_Al_63 sf_modCount rfl rfl rfl rfl (Nat.le_of_ble_eq_true rfl) d_Al_add1_7 (fun M1 H locs eM2 hP hD hS => ?_)
  have f3 : M1 t = some (.inr (3, [.ref ar, .int (nI n), .int (md + 1)])) := by rw [eM2]; exact hb_up_self
  have f4 : M1 x = some (.inr (ci, xs)) := by rw [eM2, hb_up_ne (fun q9 => by rw [q9, ht] at hx1; cases hx1; rcases hci with hci | hci <;> cases hci)]; exact hx1
  have f5 : M1 ar = some (.inl (cO, n, .inr (.inr (.inr (.inr f))))) := by rw [eM2, hb_up_ne (fun q9 => by rw [q9, ht] at har; cases har)]; exact har
  refine lv_aload_n hx hb d_Al_add1_10 rfl (lv_at hl 0 rfl) ?_
  refine lv_aload_n hx hb d_Al_add1_11 rfl (lv_at hl 1 rfl) ?_
  refine lv_aload_n hx hb d_Al_add1_12 rfl (lv_at hl 0 rfl) ?_
  refine hb_get hx hb hts hown hC_Al hK hP f3 0 (by decide) rfl fl_Al_9 rfl d_Al_add1_13 ?_
  refine lv_aload_n hx hb d_Al_add1_16 rfl (lv_at hl 0 rfl) ?_
  refine hb_get hx hb hts hown hC_Al hK hP f3 1 (by decide) rfl fl_Al_48 rfl d_Al_add1_17 ?_
  refine hb_callV (rest := []) hX hts hb_gd Y_Al_add2 (c_Al_add2_f hE M1 t ar n (md + 1) f h0 hc (hels.ne eM2 ht hb_ne3) x ci xs f4 hci f3 f5) ml_Al_131 im_Al_add2 se_Al_add2 hK f3 hC_Al.1 hz hP hD hS hA rfl hl.1 rfl (Nat.le_of_ble_eq_true rfl) ⟨Nat.le_of_ble_eq_true rfl, Nat.le_of_ble_eq_true rfl⟩ ⟨Nat.le_of_ble_eq_true rfl, Nat.le_of_ble_eq_true rfl⟩ d_Al_add1_20 (fun v8 M6 H locs hq7 hP hD hS _ hkp => ?_)
  obtain ⟨ev9, ar9, cap9, g9, a1, a2, a3, a4, a5, a6, a7⟩ := hq7
  subst ev9
  refine W.eq (g2 := F0 m 23 ls []) rfl ?_
  refine lv_iconst (v := 1) hx hb d_Al_add1_23 (by decide) ?_
  exact hb_zret hAe hx hb hr (by decide) hlocks hP hD hS (Nat.le_of_ble_eq_true rfl) (Nat.le_of_ble_eq_true rfl) (⟨rfl, ar9, cap9, g9, a1, a2, a3, a4, a5.imp id (fun h => by rw [eM2] at h; by_cases z : ar9 = t; rw [z, hb_up_self] at h; cases h; rw [hb_up_ne z] at h; exact h), a6, (hb_off.kp (hb_off.rf.up (by simp) eM2)).tr a7⟩) d_Al_add1_24
set_option maxHeartbeats 4000000 in
set_option maxRecDepth 100000 in
/-- ArrayList.add(x), case e -/
theorem c_Al_add1_e {l : Launch} {s0 : State} {D : va_G} {cI cJ cO : ClassId} {e0 mi : Nat} (hE : hb_E l s0 D cI cJ cO e0 mi) (M : hb_M) (t : Nat) (md : Int32) (f : Nat → Option Nat) (x ci : Nat) (xs : List Value) (hx1 : M x = some (.inr (ci, xs))) (hci : ci = 0 ∨ ci = 1) (ht : M t = some (.inr (3, [.ref e0, .int (nI 0), .int md]))) : hb_Met l D hb_cl s0 y_Al_add1 b_Al_add1 2 (some .boolean) { frames := 6, cells := 1, slots := 100, locals := 170 } [.ref t, .ref x] M (fun v M1 => v = some (.int 1) ∧ hb_added cO M M1 t e0 0 (md + 1) f 0 x) := by
  refine hb_Met.of (by decide) (Nat.le_of_ble_eq_true rfl) ?_
  intro p e s m below meth c A hAe hX hz hP hD hA hS ls hl
  obtain ⟨hx, hb, hr, hml, hown, hlocks, hnm, hG, hnh⟩ := id hX
  have hown : s.vm.findClass "java/util/ArrayList" = some m.cls := hown
  have hts := hE.ts hG ([.ref t, .ref x] : List Value).toArray
  have hK := hE.kn hG
  have hl : lv_has ls 2 [(0, .ref t), (1, .ref x)] := hl
  refine lv_aload_n hx hb d_Al_add1_0 rfl (lv_at hl 0 rfl) ?_
  refine lv_dup hx hb d_Al_add1_1 rfl ?_
  refine hb_getm hx hb hts hown hC_Al hK hP ht 2 (by decide) fl_Al_63 sf_modCount rfl d_Al_add1_2 ?_
  refine lv_iconst (v := 1) hx hb d_Al_add1_5 (by decide) ?_
  refine lv_iadd hx hb d_Al_add1_6 ?_
  refine hb_putm (ty := .int) hx hb hts hown hC_Al hK hP hD hS ht 2 (by decide) fl_Al_63 sf_modCount rfl rfl rfl rfl (Nat.le_of_ble_eq_true rfl) d_Al_add1_7 (fun M1 H locs eM2 hP hD hS => ?_)
  have f3 : M1 t = some (.inr (3, [.ref e0, .int (nI 0), .int (md + 1)])) := by rw [eM2]; exact hb_up_self
  have f4 : M1 x = some (.inr (ci, xs)) := by rw [eM2, hb_up_ne (fun q9 => by rw [q9, ht] at hx1; cases hx1; rcases hci with hci | hci <;> cases hci)]; exact hx1
  refine lv_aload_n hx hb d_Al_add1_10 rfl (lv_at hl 0 rfl) ?_
  refine lv_aload_n hx hb d_Al_add1_11 rfl (lv_at hl 1 rfl) ?_
  refine lv_aload_n hx hb d_Al_add1_12 rfl (lv_at hl 0 rfl) ?_
  refine hb_get hx hb hts hown hC_Al hK hP f3 0 (by decide) rfl fl_Al_9 rfl d_Al_add1_13 ?_
  refine lv_aload_n hx hb d_Al_add1_16 rfl (lv_at hl 0 rfl) ?_
  refine hb_get hx hb hts hown hC_Al hK hP f3 1 (by decide) rfl fl_Al_48 rfl d_Al_add1_17 ?_
  refine hb_callV (rest := []) hX hts hb_gd Y_Al_add2 (c_Al_add2_e hE M1 t (md + 1) f x ci xs f4 hci f3) ml_Al_131 im_Al_add2 se_Al_add2 hK f3 hC_Al.1 hz hP hD hS hA rfl hl.1 rfl (Nat.le_of_ble_eq_true rfl) ⟨Nat.le_of_ble_eq_true rfl, Nat.le_of_ble_eq_true rfl⟩ ⟨Nat.le_of_ble_eq_true rfl, Nat.le_of_ble_eq_true rfl⟩ d_Al_add1_20 (fun v7 M5 H locs hq6 hP hD hS _ hkp => ?_)
  obtain ⟨ev9, ar9, cap9, g9, a1, a2, a3, a4, a5, a6, a7⟩ := hq6
  subst ev9
  refine W.eq (g2 := F0 m 23 ls []) rfl ?_
  refine lv_iconst (v := 1) hx hb d_Al_add1_23 (by decide) ?_
  exact hb_zret hAe hx hb hr (by decide) hlocks hP hD hS (Nat.le_of_ble_eq_true rfl) (Nat.le_of_ble_eq_true rfl) (⟨rfl, ar9, cap9, g9, a1, a2, a3, a4, a5.imp id (fun h => by rw [eM2] at h; by_cases z : ar9 = t; rw [z, hb_up_self] at h; cases h; rw [hb_up_ne z] at h; exact h), a6, (hb_off.kp (hb_off.rf.up (by simp) eM2)).tr a7⟩) d_Al_add1_24
set_option maxHeartbeats 4000000 in
set_option maxRecDepth 100000 in
/-- ArrayList.rangeCheckForAdd(j), in range -/
theorem c_Al_rangeCheckForAdd {l : Launch} {s0 : State} {D : va_G} {cI cJ cO : ClassId} {e0 mi : Nat} (hE : hb_E l s0 D cI cJ cO e0 mi) (M : hb_M) (t : Nat) (r : Value) (j n : Nat) (md : Int32) (hj : j ≤ n) (hn : n ≤ 100) (ht : M t = some (.inr (3, [r, .int (nI n), .int md]))) : hb_Met l D hb_cl s0 y_Al_rangeCheckForAdd b_Al_rangeCheckForAdd 2 none { frames := 0, cells := 0, slots := 0, locals := 0 } [.ref t, .int (nI j)] M (fun v M1 => v = none ∧ M1 = M) := by
  refine hb_Met.of (by decide) (Nat.le_of_ble_eq_true rfl) ?_
  intro p e s m below meth c A hAe hX hz hP hD hA hS ls hl
  obtain ⟨hx, hb, hr, hml, hown, hlocks, hnm, hG, hnh⟩ := id hX
  have hown : s.vm.findClass "java/util/ArrayList" = some m.cls := hown
  have hts := hE.ts hG ([.ref t, .int (nI j)] : List Value).toArray
  have hK := hE.kn hG
  have hl : lv_has ls 2 [(0, .ref t), (1, .int (nI j))] := hl
  refine lv_iload_n hx hb d_Al_rangeCheckForAdd_0 rfl (lv_at hl 1 rfl) ?_
  refine lv_aload_n hx hb d_Al_rangeCheckForAdd_1 rfl (lv_at hl 0 rfl) ?_
  refine hb_get hx hb hts hown hC_Al hK hP ht 1 (by decide) rfl fl_Al_48 rfl d_Al_rangeCheckForAdd_2 ?_
  refine lv_icmp_gt (tgt := 12) hx hb d_Al_rangeCheckForAdd_5 (by decide) (fun c1 => ?_) (fun c1 => ?_)
  · skip
    exact absurd c1 (nI_nlt hj (by omega))
  · skip
    refine lv_iload_n hx hb d_Al_rangeCheckForAdd_8 rfl (lv_at hl 1 rfl) ?_
    refine lv_if_ge (tgt := 25) hx hb d_Al_rangeCheckForAdd_9 (by decide) (fun c2 => ?_) (fun c2 => ?_)
    · skip
      have c2n := hb_ngti c2
      exact hb_vret hAe hx hb hr hlocks hP hD hS (Nat.le_of_ble_eq_true rfl) (Nat.le_of_ble_eq_true rfl) (⟨rfl, rfl⟩) d_Al_rangeCheckForAdd_25
    · skip
      have c2n := hb_gti c2
      exact absurd (nI_pos' (by omega)) c2
set_option maxHeartbeats 4000000 in
set_option maxRecDepth 100000 in
/-- ArrayList.add(j, x), case a -/
theorem c_Al_add3_a {l : Launch} {s0 : State} {D : va_G} {cI cJ cO : ClassId} {e0 mi : Nat} (hE : hb_E l s0 D cI cJ cO e0 mi) (M : hb_M) (t ar cap n : Nat) (md : Int32) (f : Nat → Option Nat) (hn : n < cap) (hc : cap ≤ 100) (x ci : Nat) (xs : List Value) (hx1 : M x = some (.inr (ci, xs))) (hci : ci = 0 ∨ ci = 1) (ht : M t = some (.inr (3, [.ref ar, .int (nI n), .int md]))) (har : M ar = some (hb_ar cO cap f)) (hels : hb_els M f n) (j : Nat) (hj : j ≤ n) : hb_Met l D hb_cl s0 y_Al_add3 b_Al_add3 5 none { frames := 5, cells := 1, slots := 100, locals := 207 } [.ref t, .int (nI j), .ref x] M (fun v M1 => v = none ∧ hb_added cO M M1 t ar n (md + 1) f j x) := by
  refine hb_Met.of (by decide) (Nat.le_of_ble_eq_true rfl) ?_
  intro p e s m below meth c A hAe hX hz hP hD hA hS ls hl
  obtain ⟨hx, hb, hr, hml, hown, hlocks, hnm, hG, hnh⟩ := id hX
  have hown : s.vm.findClass "java/util/ArrayList" = some m.cls := hown
  have hts := hE.ts hG ([.ref t, .int (nI j), .ref x] : List Value).toArray
  have hK := hE.kn hG
  have hl : lv_has ls 5 [(0, .ref t), (1, .int (nI j)), (2, .ref x)] := hl
  refine lv_aload_n hx hb d_Al_add3_0 rfl (lv_at hl 0 rfl) ?_
  refine lv_iload_n hx hb d_Al_add3_1 rfl (lv_at hl 1 rfl) ?_
  refine hb_callV (rest := []) hX hts hb_gd Y_Al_rangeCheckForAdd (c_Al_rangeCheckForAdd hE M t (.ref ar) j n md hj (by omega) ht) ml_Al_135 im_Al_rangeCheckForAdd se_Al_rangeCheckForAdd hK ht hC_Al.1 hz hP hD hS hA rfl hl.1 rfl (Nat.le_of_ble_eq_true rfl) ⟨Nat.le_of_ble_eq_true rfl, Nat.le_of_ble_eq_true rfl⟩ ⟨Nat.le_of_ble_eq_true rfl, Nat.le_of_ble_eq_true rfl⟩ d_Al_add3_2 (fun v3 M1 H locs hq2 hP hD hS _ hkp => ?_)
  obtain ⟨ev4, eM5⟩ := hq2
  subst ev4
  rw [eM5] at hP hD
  refine W.eq (g2 := F0 m 5 ls []) rfl ?_
  refine lv_aload_n hx hb d_Al_add3_5 rfl (lv_at hl 0 rfl) ?_
  refine lv_dup hx hb d_Al_add3_6 rfl ?_
  refine hb_getm hx hb hts hown hC_Al hK hP ht 2 (by decide) fl_Al_63 sf_modCount rfl d_Al_add3_7 ?_
  refine lv_iconst (v := 1) hx hb d_Al_add3_10 (by decide) ?_
  refine lv_iadd hx hb d_Al_add3_11 ?_
  refine hb_putm (ty := .int) hx hb hts hown hC_Al hK hP hD hS ht 2 (by decide) fl_Al_63 sf_modCount rfl rfl rfl rfl (Nat.le_of_ble_eq_true rfl) d_Al_add3_12 (fun M6 H locs eM7 hP hD hS => ?_)
  have f8 : M6 t = some (.inr (3, [.ref ar, .int (nI n), .int (md + 1)])) := by rw [eM7]; exact hb_up_self
  have f9 : M6 x = some (.inr (ci, xs)) := by rw [eM7, hb_up_ne (fun q9 => by rw [q9, ht] at hx1; cases hx1; rcases hci with hci | hci <;> cases hci)]; exact hx1
  have f10 : M6 ar = some (.inl (cO, cap, .inr (.inr (.inr (.inr f))))) := by rw [eM7, hb_up_ne (fun q9 => by rw [q9, ht] at har; cases har)]; exact har
  refine lv_aload_n hx hb d_Al_add3_15 rfl (lv_at hl 0 rfl) ?_
  refine hb_get hx hb hts hown hC_Al hK hP f8 1 (by decide) rfl fl_Al_48 rfl d_Al_add3_16 ?_
  refine lv_dup hx hb d_Al_add3_19 rfl ?_
  refine lv_istore_n (lv' := [(3, .int (nI n)), (0, .ref t), (1, .int (nI j)), (2, .ref x)]) hx hb d_Al_add3_20 rfl hl (by decide) rfl (fun ls hl => ?_)
  refine lv_aload_n hx hb d_Al_add3_21 rfl (lv_at hl 1 rfl) ?_
  refine hb_get hx hb hts hown hC_Al hK hP f8 0 (by decide) rfl fl_Al_9 rfl d_Al_add3_22 ?_
  refine lv_dup hx hb d_Al_add3_25 rfl ?_
  refine lv_astore (lv' := [(4, .ref ar), (3, .int (nI n)), (0, .ref t), (1, .int (nI j)), (2, .ref x)]) hx hb d_Al_add3_26 hl (by decide) rfl (fun ls hl => ?_)
  refine va_alen (v := nI cap) hx hb hK (hP.one f10) 0 2 rfl rfl rfl d_Al_add3_28 ?_
  refine lv_icmp_ne (tgt := 38) hx hb d_Al_add3_29 (by decide) (fun c11 => ?_) (fun c11 => ?_)
  · skip
    refine lv_aload hx hb d_Al_add3_38 (lv_at hl 0 rfl) ?_
    refine lv_iload_n hx hb d_Al_add3_40 rfl (lv_at hl 3 rfl) ?_
    refine lv_aload hx hb d_Al_add3_41 (lv_at hl 0 rfl) ?_
    refine lv_iload_n hx hb d_Al_add3_43 rfl (lv_at hl 3 rfl) ?_
    refine lv_iconst (v := 1) hx hb d_Al_add3_44 (by decide) ?_
    refine lv_iadd hx hb d_Al_add3_45 ?_
    refine lv_iload_n hx hb d_Al_add3_46 rfl (lv_at hl 1 rfl) ?_
    refine lv_iload_n hx hb d_Al_add3_47 rfl (lv_at hl 3 rfl) ?_
    refine lv_isub hx hb d_Al_add3_48 ?_
    refine W.eq (g2 := F0 m 49 ls [.int (nI (n - j)), .int (nI (j + 1)), .ref ar, .int (nI j), .ref ar]) (by rw [pk_sub (by omega), nI_1]) ?_
    have hels1 := hels.ne eM7 ht hb_ne3
    refine hb_copyq hx hb (by rw [hml]; exact hl.1.symm) hts hown ml_Al_112 nv_arraycopy st_arraycopy in_Sys hK hP hD hS f10 f10 (nI_pos (by omega)) (nI_pos (by omega)) (nI_pos (by omega)) (by first | (rw [nI_clamp (by omega), nI_clamp (by omega)]; omega) | (rw [nI_clamp (by omega)]; omega)) (by first | (rw [nI_clamp (by omega), nI_clamp (by omega)]; omega) | (rw [nI_clamp (by omega)]; omega)) (fun i hi y hy => hels1.any hE hG hP (i := j + i) (by rw [nI_clamp (by omega)] at hi; omega) (by rw [nI_clamp (by omega)] at hy; exact hy)) (Nat.le_of_ble_eq_true rfl) (Nat.le_of_ble_eq_true rfl) d_Al_add3_49 (fun M12 H locs eM13 hP hD hS => ?_)
    have f14 : M12 ar = some (.inl (cO, cap, .inr (.inr (.inr (.inr (va_cpy f f (nI j).toNatClampNeg (nI (j + 1)).toNatClampNeg (nI (n - j)).toNatClampNeg)))))) := by rw [eM13]; exact hb_up_self
    have f15 : M12 t = some (.inr (3, [.ref ar, .int (nI n), .int (md + 1)])) := by rw [eM13, hb_up_ne (fun q9 => by rw [q9, f10] at f8; cases f8)]; exact f8
    have f16 : M12 x = some (.inr (ci, xs)) := by rw [eM13, hb_up_ne (fun q9 => by rw [q9, har] at hx1; cases hx1)]; exact f9
    refine lv_aload hx hb d_Al_add3_52 (lv_at hl 0 rfl) ?_
    refine lv_iload_n hx hb d_Al_add3_54 rfl (lv_at hl 3 rfl) ?_
    refine lv_aload_n hx hb d_Al_add3_55 rfl (lv_at hl 4 rfl) ?_
    refine hb_astq hx hb hK hP hD hS f14 (hb_any hE hG hP f16 hci) (vp_in_nI (by omega) (by omega)) d_Al_add3_56 (fun M17 H locs eM18 hP hD hS => ?_)
    have f19 : M17 ar = some (.inl (cO, cap, .inr (.inr (.inr (.inr (va_up (va_cpy f f (nI j).toNatClampNeg (nI (j + 1)).toNatClampNeg (nI (n - j)).toNatClampNeg) (nI j).toNatClampNeg (some x))))))) := by rw [eM18]; exact hb_up_self
    have f20 : M17 t = some (.inr (3, [.ref ar, .int (nI n), .int (md + 1)])) := by rw [eM18, hb_up_ne (fun q9 => by rw [q9, f14] at f15; cases f15)]; exact f15
    have f21 : M17 x = some (.inr (ci, xs)) := by rw [eM18, hb_up_ne (fun q9 => by rw [q9, har] at hx1; cases hx1)]; exact f16
    refine lv_aload_n hx hb d_Al_add3_57 rfl (lv_at hl 2 rfl) ?_
    refine lv_iload_n hx hb d_Al_add3_58 rfl (lv_at hl 1 rfl) ?_
    refine lv_iconst (v := 1) hx hb d_Al_add3_59 (by decide) ?_
    refine lv_iadd hx hb d_Al_add3_60 ?_
    refine W.eq (g2 := F0 m 61 ls [.int (nI (n + 1)), .ref t]) (by rw [nI_1]) ?_
    refine hb_put (ty := .int) hx hb hts hown hC_Al hK hP hD hS f20 1 (by decide) rfl fl_Al_48 rfl rfl rfl rfl (Nat.le_of_ble_eq_true rfl) d_Al_add3_61 (fun M22 H locs eM23 hP hD hS => ?_)
    have f24 : M22 t = some (.inr (3, [.ref ar, .int (nI (n + 1)), .int (md + 1)])) := by rw [eM23]; exact hb_up_self
    have f25 : M22 ar = some (.inl (cO, cap, .inr (.inr (.inr (.inr (va_up (va_cpy f f (nI j).toNatClampNeg (nI (j + 1)).toNatClampNeg (nI (n - j)).toNatClampNeg) (nI j).toNatClampNeg (some x))))))) := by rw [eM23, hb_up_ne (fun q9 => by rw [q9, f20] at f19; cases f19)]; exact f19
    have f26 : M22 x = some (.inr (ci, xs)) := by rw [eM23, hb_up_ne (fun q9 => by rw [q9, ht] at hx1; cases hx1; rcases hci with hci | hci <;> cases hci)]; exact f21
    exact hb_vret hAe hx hb hr hlocks hP hD hS (Nat.le_of_ble_eq_true rfl) (Nat.le_of_ble_eq_true rfl) (⟨rfl, ar, cap, _, f24, f25, by omega, hc, Or.inl rfl, fun i hi => by rw [nI_clamp (show j < 2 ^ 31 by omega), nI_clamp (show j + 1 < 2 ^ 31 by omega), nI_clamp (show n - j < 2 ^ 31 by omega)]; exact hb_ins_mid hj hi, hb_off.kp ((((hb_off.rf.up (by simp) eM7).up (by simp) eM13).up (by simp) eM18).up (by simp) eM23)⟩) d_Al_add3_64
  · skip
    exact absurd ((nI_eq (by omega) (by omega)).mp c11) (by omega)
set_option maxHeartbeats 4000000 in
set_option maxRecDepth 100000 in
/-- ArrayList.add(j, x), case f -/
theorem c_Al_add3_f {l : Launch} {s0 : State} {D : va_G} {cI cJ cO : ClassId} {e0 mi : Nat} (hE : hb_E l s0 D cI cJ cO e0 mi) (M : hb_M) (t ar n : Nat) (md : Int32) (f : Nat → Option Nat) (h0 : 0 < n) (hc : n ≤ 66) (hels : hb_els M f n) (x ci : Nat) (xs : List Value) (hx1 : M x = some (.inr (ci, xs))) (hci : ci = 0 ∨ ci = 1) (ht : M t = some (.inr (3, [.ref ar, .int (nI n), .int md]))) (har : M ar = some (hb_ar cO n f)) (j : Nat) (hj : j ≤ n) : hb_Met l D hb_cl s0 y_Al_add3 b_Al_add3 5 none { frames := 5, cells := 1, slots := 100, locals := 207 } [.ref t, .int (nI j), .ref x] M (fun v M1 => v = none ∧ hb_added cO M M1 t ar n (md + 1) f j x) := by
  refine hb_Met.of (by decide) (Nat.le_of_ble_eq_true rfl) ?_
  intro p e s m below meth c A hAe hX hz hP hD hA hS ls hl
  obtain ⟨hx, hb, hr, hml, hown, hlocks, hnm, hG, hnh⟩ := id hX
  have hown : s.vm.findClass "java/util/ArrayList" = some m.cls := hown
  have hts := hE.ts hG ([.ref t, .int (nI j), .ref x] : List Value).toArray
  have hK := hE.kn hG
  have hl : lv_has ls 5 [(0, .ref t), (1, .int (nI j)), (2, .ref x)] := hl
  refine lv_aload_n hx hb d_Al_add3_0 rfl (lv_at hl 0 rfl) ?_
  refine lv_iload_n hx hb d_Al_add3_1 rfl (lv_at hl 1 rfl) ?_
  refine hb_callV (rest := []) hX hts hb_gd Y_Al_rangeCheckForAdd (c_Al_rangeCheckForAdd hE M t (.ref ar) j n md hj (by omega) ht) ml_Al_135 im_Al_rangeCheckForAdd se_Al_rangeCheckForAdd hK ht hC_Al.1 hz hP hD hS hA rfl hl.1 rfl (Nat.le_of_ble_eq_true rfl) ⟨Nat.le_of_ble_eq_true rfl, Nat.le_of_ble_eq_true rfl⟩ ⟨Nat.le_of_ble_eq_true rfl, Nat.le_of_ble_eq_true rfl⟩ d_Al_add3_2 (fun v3 M1 H locs hq2 hP hD hS _ hkp => ?_)
  obtain ⟨ev4, eM5⟩ := hq2
  subst ev4
  rw [eM5] at hP hD
  refine W.eq (g2 := F0 m 5 ls []) rfl ?_
  refine lv_aload_n hx hb d_Al_add3_5 rfl (lv_at hl 0 rfl) ?_
  refine lv_dup hx hb d_Al_add3_6 rfl ?_
  refine hb_getm hx hb hts hown hC_Al hK hP ht 2 (by decide) fl_Al_63 sf_modCount rfl d_Al_add3_7 ?_
  refine lv_iconst (v := 1) hx hb d_Al_add3_10 (by decide) ?_
  refine lv_iadd hx hb d_Al_add3_11 ?_
  refine hb_putm (ty := .int) hx hb hts hown hC_Al hK hP hD hS ht 2 (by decide) fl_Al_63 sf_modCount rfl rfl rfl rfl (Nat.le_of_ble_eq_true rfl) d_Al_add3_12 (fun M6 H locs eM7 hP hD hS => ?_)
  have f8 : M6 t = some (.inr (3, [.ref ar, .int (nI n), .int (md + 1)])) := by rw [eM7]; exact hb_up_self
  have f9 : M6 x = some (.inr (ci, xs)) := by rw [eM7, hb_up_ne (fun q9 => by rw [q9, ht] at hx1; cases hx1; rcases hci with hci | hci <;> cases hci)]; exact hx1
  have f10 : M6 ar = some (.inl (cO, n, .inr (.inr (.inr (.inr f))))) := by rw [eM7, hb_up_ne (fun q9 => by rw [q9, ht] at har; cases har)]; exact har
  refine lv_aload_n hx hb d_Al_add3_15 rfl (lv_at hl 0 rfl) ?_
  refine hb_get hx hb hts hown hC_Al hK hP f8 1 (by decide) rfl fl_Al_48 rfl d_Al_add3_16 ?_
  refine lv_dup hx hb d_Al_add3_19 rfl ?_
  refine lv_istore_n (lv' := [(3, .int (nI n)), (0, .ref t), (1, .int (nI j)), (2, .ref x)]) hx hb d_Al_add3_20 rfl hl (by decide) rfl (fun ls hl => ?_)
  refine lv_aload_n hx hb d_Al_add3_21 rfl (lv_at hl 1 rfl) ?_
  refine hb_get hx hb hts hown hC_Al hK hP f8 0 (by decide) rfl fl_Al_9 rfl d_Al_add3_22 ?_
  refine lv_dup hx hb d_Al_add3_25 rfl ?_
  refine lv_astore (lv' := [(4, .ref ar), (3, .int (nI n)), (0, .ref t), (1, .int (nI j)), (2, .ref x)]) hx hb d_Al_add3_26 hl (by decide) rfl (fun ls hl => ?_)
  refine va_alen (v := nI n) hx hb hK (hP.one f10) 0 2 rfl rfl rfl d_Al_add3_28 ?_
  refine lv_icmp_ne (tgt := 38) hx hb d_Al_add3_29 (by decide) (fun c11 => ?_) (fun c11 => ?_)
  · skip
    exact absurd rfl c11
  · skip
    refine lv_aload_n hx hb d_Al_add3_32 rfl (lv_at hl 2 rfl) ?_
    refine hb_callV (rest := []) hX hts hb_gd Y_Al_grow1 (c_Al_grow1_a hE M6 t ar n (md + 1) f h0 hc (hels.ne eM7 ht hb_ne3) f8 f10) ml_Al_129 im_Al_grow1 se_Al_grow1 hK f8 hC_Al.1 hz hP hD hS hA rfl hl.1 rfl (Nat.le_of_ble_eq_true rfl) ⟨Nat.le_of_ble_eq_true rfl, Nat.le_of_ble_eq_true rfl⟩ ⟨Nat.le_of_ble_eq_true rfl, Nat.le_of_ble_eq_true rfl⟩ d_Al_add3_33 (fun v14 M12 H locs hq13 hP hD hS _ hkp => ?_)
    obtain ⟨q15, g9, ev9, hqn, fq9, ft9, ho9, hg9⟩ := hq13
    subst ev9
    have fx9 : M12 x = some (.inr (ci, xs)) := ho9.at (hb_n2 (fun q9 => by rw [q9, hqn] at f9; cases f9) (fun q9 => by rw [q9, ht] at hx1; cases hx1; rcases hci with hci | hci <;> cases hci)) f9
    refine W.eq (g2 := F0 m 36 ls [.ref q15]) rfl ?_
    refine lv_astore (lv' := [(4, .ref q15), (3, .int (nI n)), (0, .ref t), (1, .int (nI j)), (2, .ref x)]) hx hb d_Al_add3_36 hl (by decide) rfl (fun ls hl => ?_)
    refine lv_aload hx hb d_Al_add3_38 (lv_at hl 0 rfl) ?_
    refine lv_iload_n hx hb d_Al_add3_40 rfl (lv_at hl 3 rfl) ?_
    refine lv_aload hx hb d_Al_add3_41 (lv_at hl 0 rfl) ?_
    refine lv_iload_n hx hb d_Al_add3_43 rfl (lv_at hl 3 rfl) ?_
    refine lv_iconst (v := 1) hx hb d_Al_add3_44 (by decide) ?_
    refine lv_iadd hx hb d_Al_add3_45 ?_
    refine lv_iload_n hx hb d_Al_add3_46 rfl (lv_at hl 1 rfl) ?_
    refine lv_iload_n hx hb d_Al_add3_47 rfl (lv_at hl 3 rfl) ?_
    refine lv_isub hx hb d_Al_add3_48 ?_
    refine W.eq (g2 := F0 m 49 ls [.int (nI (n - j)), .int (nI (j + 1)), .ref q15, .int (nI j), .ref q15]) (by rw [pk_sub (by omega), nI_1]) ?_
    have hels1 := ((hels.ne eM7 ht hb_ne3).off ho9 hqn f8).congr hg9
    refine hb_copyq hx hb (by rw [hml]; exact hl.1.symm) hts hown ml_Al_112 nv_arraycopy st_arraycopy in_Sys hK hP hD hS fq9 fq9 (nI_pos (by omega)) (nI_pos (by omega)) (nI_pos (by omega)) (by first | (rw [nI_clamp (by omega), nI_clamp (by omega)]; omega) | (rw [nI_clamp (by omega)]; omega)) (by first | (rw [nI_clamp (by omega), nI_clamp (by omega)]; omega) | (rw [nI_clamp (by omega)]; omega)) (fun i hi y hy => hels1.any hE hG hP (i := j + i) (by rw [nI_clamp (by omega)] at hi; omega) (by rw [nI_clamp (by omega)] at hy; exact hy)) (Nat.le_of_ble_eq_true rfl) (Nat.le_of_ble_eq_true rfl) d_Al_add3_49 (fun M16 H locs eM17 hP hD hS => ?_)
    have f18 : M16 q15 = some (.inl (cO, (n + max 1 (n / 2)), .inr (.inr (.inr (.inr (va_cpy g9 g9 (nI j).toNatClampNeg (nI (j + 1)).toNatClampNeg (nI (n - j)).toNatClampNeg)))))) := by rw [eM17]; exact hb_up_self
    have f19 : M16 t = some (.inr (3, [.ref q15, .int (nI n), .int (md + 1)])) := by rw [eM17, hb_up_ne (fun q9 => by rw [q9, fq9] at ft9; cases ft9)]; exact ft9
    have f20 : M16 x = some (.inr (ci, xs)) := by rw [eM17, hb_up_ne (fun q9 => by rw [q9, fq9] at fx9; cases fx9)]; exact fx9
    refine lv_aload hx hb d_Al_add3_52 (lv_at hl 0 rfl) ?_
    refine lv_iload_n hx hb d_Al_add3_54 rfl (lv_at hl 3 rfl) ?_
    refine lv_aload_n hx hb d_Al_add3_55 rfl (lv_at hl 4 rfl) ?_
    refine hb_astq hx hb hK hP hD hS f18 (hb_any hE hG hP f20 hci) (vp_in_nI (by omega) (by omega)) d_Al_add3_56 (fun M21 H locs eM22 hP hD hS => ?_)
    have f23 : M21 q15 = some (.inl (cO, (n + max 1 (n / 2)), .inr (.inr (.inr (.inr (va_up (va_cpy g9 g9 (nI j).toNatClampNeg (nI (j + 1)).toNatClampNeg (nI (n - j)).toNatClampNeg) (nI j).toNatClampNeg (some x))))))) := by rw [eM22]; exact hb_up_self
    have f24 : M21 t = some (.inr (3, [.ref q15, .int (nI n), .int (md + 1)])) := by rw [eM22, hb_up_ne (fun q9 => by rw [q9, f18] at f19; cases f19)]; exact f19
    have f25 : M21 x = some (.inr (ci, xs)) := by rw [eM22, hb_up_ne (fun q9 => by rw [q9, fq9] at fx9; cases fx9)]; exact f20
    refine lv_aload_n hx hb d_Al_add3_57 rfl (lv_at hl 2 rfl) ?_
    refine lv_iload_n hx hb d_Al_add3_58 rfl (lv_at hl 1 rfl) ?_
    refine lv_iconst (v := 1) hx hb d_Al_add3_59 (by decide) ?_
    refine lv_iadd hx hb d_Al_add3_60 ?_
    refine W.eq (g2 := F0 m 61 ls [.int (nI (n + 1)), .ref t]) (by rw [nI_1]) ?_
    refine hb_put (ty := .int) hx hb hts hown hC_Al hK hP hD hS f24 1 (by decide) rfl fl_Al_48 rfl rfl rfl rfl (Nat.le_of_ble_eq_true rfl) d_Al_add3_61 (fun M26 H locs eM27 hP hD hS => ?_)
    have f28 : M26 t = some (.inr (3, [.ref q15, .int (nI (n + 1)), .int (md + 1)])) := by rw [eM27]; exact hb_up_self
    have f29 : M26 q15 = some (.inl (cO, (n + max 1 (n / 2)), .inr (.inr (.inr (.inr (va_up (va_cpy g9 g9 (nI j).toNatClampNeg (nI (j + 1)).toNatClampNeg (nI (n - j)).toNatClampNeg) (nI j).toNatClampNeg (some x))))))) := by rw [eM27, hb_up_ne (fun q9 => by rw [q9, f24] at f23; cases f23)]; exact f23
    have f30 : M26 x = some (.inr (ci, xs)) := by rw [eM27, hb_up_ne (fun q9 => by rw [q9, ft9] at fx9; cases fx9; rcases hci with hci | hci <;> cases hci)]; exact f25
    exact hb_vret hAe hx hb hr hlocks hP hD hS (Nat.le_of_ble_eq_true rfl) (Nat.le_of_ble_eq_true rfl) (⟨rfl, q15, _, _, f28, f29, by omega, by omega, Or.inr (by have h := hqn; rw [eM7] at h; by_cases z : q15 = t; rw [z, hb_up_self] at h; cases h; rw [hb_up_ne z] at h; exact h), fun i hi => by rw [nI_clamp (show j < 2 ^ 31 by omega), nI_clamp (show j + 1 < 2 ^ 31 by omega), nI_clamp (show n - j < 2 ^ 31 by omega), hb_ins_mid hj hi]; exact hb_ins_congr hg9 hj hi, hb_kpq (q := q15) (t := t) (((((hb_off.rf.up (by simp) eM7).tr ho9 (by simp)).up (by simp) eM17).up (by simp) eM22).up (by simp) eM27) (by have h := hqn; rw [eM7] at h; by_cases z : q15 = t; rw [z, hb_up_self] at h; cases h; rw [hb_up_ne z] at h; exact h)⟩) d_Al_add3_64
set_option maxHeartbeats 4000000 in
set_option maxRecDepth 100000 in
/-- ArrayList.add(j, x), case e -/
theorem c_Al_add3_e {l : Launch} {s0 : State} {D : va_G} {cI cJ cO : ClassId} {e0 mi : Nat} (hE : hb_E l s0 D cI cJ cO e0 mi) (M : hb_M) (t : Nat) (md : Int32) (f : Nat → Option Nat) (x ci : Nat) (xs : List Value) (hx1 : M x = some (.inr (ci, xs))) (hci : ci = 0 ∨ ci = 1) (ht : M t = some (.inr (3, [.ref e0, .int (nI 0), .int md]))) : hb_Met l D hb_cl s0 y_Al_add3 b_Al_add3 5 none { frames := 5, cells := 1, slots := 100, locals := 207 } [.ref t, .int (nI 0), .ref x] M (fun v M1 => v = none ∧ hb_added cO M M1 t e0 0 (md + 1) f 0 x) := by
  refine hb_Met.of (by decide) (Nat.le_of_ble_eq_true rfl) ?_
  intro p e s m below meth c A hAe hX hz hP hD hA hS ls hl
  obtain ⟨hx, hb, hr, hml, hown, hlocks, hnm, hG, hnh⟩ := id hX
  have hown : s.vm.findClass "java/util/ArrayList" = some m.cls := hown
  have hts := hE.ts hG ([.ref t, .int (nI 0), .ref x] : List Value).toArray
  have hK := hE.kn hG
  have hl : lv_has ls 5 [(0, .ref t), (1, .int (nI 0)), (2, .ref x)] := hl
  refine lv_aload_n hx hb d_Al_add3_0 rfl (lv_at hl 0 rfl) ?_
  refine lv_iload_n hx hb d_Al_add3_1 rfl (lv_at hl 1 rfl) ?_
  refine hb_callV (rest := []) hX hts hb_gd Y_Al_rangeCheckForAdd (c_Al_rangeCheckForAdd hE M t (.ref e0) 0 0 md (by omega) (by omega) ht) ml_Al_135 im_Al_rangeCheckForAdd se_Al_rangeCheckForAdd hK ht hC_Al.1 hz hP hD hS hA rfl hl.1 rfl (Nat.le_of_ble_eq_true rfl) ⟨Nat.le_of_ble_eq_true rfl, Nat.le_of_ble_eq_true rfl⟩ ⟨Nat.le_of_ble_eq_true rfl, Nat.le_of_ble_eq_true rfl⟩ d_Al_add3_2 (fun v3 M1 H locs hq2 hP hD hS _ hkp => ?_)
  obtain ⟨ev4, eM5⟩ := hq2
  subst ev4
  rw [eM5] at hP hD
  refine W.eq (g2 := F0 m 5 ls []) rfl ?_
  refine lv_aload_n hx hb d_Al_add3_5 rfl (lv_at hl 0 rfl) ?_
  refine lv_dup hx hb d_Al_add3_6 rfl ?_
  refine hb_getm hx hb hts hown hC_Al hK hP ht 2 (by decide) fl_Al_63 sf_modCount rfl d_Al_add3_7 ?_
  refine lv_iconst (v := 1) hx hb d_Al_add3_10 (by decide) ?_
  refine lv_iadd hx hb d_Al_add3_11 ?_
  refine hb_putm (ty := .int) hx hb hts hown hC_Al hK hP hD hS ht 2 (by decide) fl_Al_63 sf_modCount rfl rfl rfl rfl (Nat.le_of_ble_eq_true rfl) d_Al_add3_12 (fun M6 H locs eM7 hP hD hS => ?_)
  have f8 : M6 t = some (.inr (3, [.ref e0, .int (nI 0), .int (md + 1)])) := by rw [eM7]; exact hb_up_self
  have f9 : M6 x = some (.inr (ci, xs)) := by rw [eM7, hb_up_ne (fun q9 => by rw [q9, ht] at hx1; cases hx1; rcases hci with hci | hci <;> cases hci)]; exact hx1
  refine lv_aload_n hx hb d_Al_add3_15 rfl (lv_at hl 0 rfl) ?_
  refine hb_get hx hb hts hown hC_Al hK hP f8 1 (by decide) rfl fl_Al_48 rfl d_Al_add3_16 ?_
  refine lv_dup hx hb d_Al_add3_19 rfl ?_
  refine lv_istore_n (lv' := [(3, .int (nI 0)), (0, .ref t), (1, .int (nI 0)), (2, .ref x)]) hx hb d_Al_add3_20 rfl hl (by decide) rfl (fun ls hl => ?_)
  refine lv_aload_n hx hb d_Al_add3_21 rfl (lv_at hl 1 rfl) ?_
  refine hb_get hx hb hts hown hC_Al hK hP f8 0 (by decide) rfl fl_Al_9 rfl d_Al_add3_22 ?_
  refine lv_dup hx hb d_Al_add3_25 rfl ?_
  refine lv_astore (lv' := [(4, .ref e0), (3, .int (nI 0)), (0, .ref t), (1, .int (nI 0)), (2, .ref x)]) hx hb d_Al_add3_26 hl (by decide) rfl (fun ls hl => ?_)
  refine va_tlen (v := 0) hx hb (hE.et hG hz) hS rfl d_Al_add3_28 ?_
  refine lv_icmp_ne (tgt := 38) hx hb d_Al_add3_29 (by decide) (fun c10 => ?_) (fun c10 => ?_)
  · skip
    exact absurd rfl c10
  · skip
    refine lv_aload_n hx hb d_Al_add3_32 rfl (lv_at hl 2 rfl) ?_
    refine hb_callV (rest := []) hX hts hb_gd Y_Al_grow1 (c_Al_grow1_e hE M6 t (md + 1) f8) ml_Al_129 im_Al_grow1 se_Al_grow1 hK f8 hC_Al.1 hz hP hD hS hA rfl hl.1 rfl (Nat.le_of_ble_eq_true rfl) ⟨Nat.le_of_ble_eq_true rfl, Nat.le_of_ble_eq_true rfl⟩ ⟨Nat.le_of_ble_eq_true rfl, Nat.le_of_ble_eq_true rfl⟩ d_Al_add3_33 (fun v13 M11 H locs hq12 hP hD hS _ hkp => ?_)
    obtain ⟨q14, g9, ev9, hqn, fq9, ft9, ho9⟩ := hq12
    subst ev9
    have fx9 : M11 x = some (.inr (ci, xs)) := ho9.at (hb_n2 (fun q9 => by rw [q9, hqn] at f9; cases f9) (fun q9 => by rw [q9, ht] at hx1; cases hx1; rcases hci with hci | hci <;> cases hci)) f9
    refine W.eq (g2 := F0 m 36 ls [.ref q14]) rfl ?_
    refine lv_astore (lv' := [(4, .ref q14), (3, .int (nI 0)), (0, .ref t), (1, .int (nI 0)), (2, .ref x)]) hx hb d_Al_add3_36 hl (by decide) rfl (fun ls hl => ?_)
    refine lv_aload hx hb d_Al_add3_38 (lv_at hl 0 rfl) ?_
    refine lv_iload_n hx hb d_Al_add3_40 rfl (lv_at hl 3 rfl) ?_
    refine lv_aload hx hb d_Al_add3_41 (lv_at hl 0 rfl) ?_
    refine lv_iload_n hx hb d_Al_add3_43 rfl (lv_at hl 3 rfl) ?_
    refine lv_iconst (v := 1) hx hb d_Al_add3_44 (by decide) ?_
    refine lv_iadd hx hb d_Al_add3_45 ?_
    refine lv_iload_n hx hb d_Al_add3_46 rfl (lv_at hl 1 rfl) ?_
    refine lv_iload_n hx hb d_Al_add3_47 rfl (lv_at hl 3 rfl) ?_
    refine lv_isub hx hb d_Al_add3_48 ?_
    refine W.eq (g2 := F0 m 49 ls [.int (nI (0 - 0)), .int (nI (0 + 1)), .ref q14, .int (nI 0), .ref q14]) (by rw [pk_sub (by omega), nI_1]) ?_
    refine hb_copyq hx hb (by rw [hml]; exact hl.1.symm) hts hown ml_Al_112 nv_arraycopy st_arraycopy in_Sys hK hP hD hS fq9 fq9 (nI_pos (by omega)) (nI_pos (by omega)) (nI_pos (by omega)) (by first | (rw [nI_clamp (by omega), nI_clamp (by omega)]; omega) | (rw [nI_clamp (by omega)]; omega)) (by first | (rw [nI_clamp (by omega), nI_clamp (by omega)]; omega) | (rw [nI_clamp (by omega)]; omega)) (fun i hi y hy => absurd hi (by rw [nI_clamp (by omega)]; omega)) (Nat.le_of_ble_eq_true rfl) (Nat.le_of_ble_eq_true rfl) d_Al_add3_49 (fun M15 H locs eM16 hP hD hS => ?_)
    have f17 : M15 q14 = some (.inl (cO, 10, .inr (.inr (.inr (.inr (va_cpy g9 g9 (nI 0).toNatClampNeg (nI (0 + 1)).toNatClampNeg (nI (0 - 0)).toNatClampNeg)))))) := by rw [eM16]; exact hb_up_self
    have f18 : M15 t = some (.inr (3, [.ref q14, .int (nI 0), .int (md + 1)])) := by rw [eM16, hb_up_ne (fun q9 => by rw [q9, fq9] at ft9; cases ft9)]; exact ft9
    have f19 : M15 x = some (.inr (ci, xs)) := by rw [eM16, hb_up_ne (fun q9 => by rw [q9, fq9] at fx9; cases fx9)]; exact fx9
    refine lv_aload hx hb d_Al_add3_52 (lv_at hl 0 rfl) ?_
    refine lv_iload_n hx hb d_Al_add3_54 rfl (lv_at hl 3 rfl) ?_
    refine lv_aload_n hx hb d_Al_add3_55 rfl (lv_at hl 4 rfl) ?_
    refine hb_astq hx hb hK hP hD hS f17 (hb_any hE hG hP f19 hci) (vp_in_nI (by omega) (by omega)) d_Al_add3_56 (fun M20 H locs eM21 hP hD hS => ?_)
    have f22 : M20 q14 = some (.inl (cO, 10, .inr (.inr (.inr (.inr (va_up (va_cpy g9 g9 (nI 0).toNatClampNeg (nI (0 + 1)).toNatClampNeg (nI (0 - 0)).toNatClampNeg) (nI 0).toNatClampNeg (some x))))))) := by rw [eM21]; exact hb_up_self
    have f23 : M20 t = some (.inr (3, [.ref q14, .int (nI 0), .int (md + 1)])) := by rw [eM21, hb_up_ne (fun q9 => by rw [q9, f17] at f18; cases f18)]; exact f18
    have f24 : M20 x = some (.inr (ci, xs)) := by rw [eM21, hb_up_ne (fun q9 => by rw [q9, fq9] at fx9; cases fx9)]; exact f19
    refine lv_aload_n hx hb d_Al_add3_57 rfl (lv_at hl 2 rfl) ?_
    refine lv_iload_n hx hb d_Al_add3_58 rfl (lv_at hl 1 rfl) ?_
    refine lv_iconst (v := 1) hx hb d_Al_add3_59 (by decide) ?_
    refine lv_iadd hx hb d_Al_add3_60 ?_
    refine W.eq (g2 := F0 m 61 ls [.int (nI (0 + 1)), .ref t]) (by rw [nI_1]) ?_
    refine hb_put (ty := .int) hx hb hts hown hC_Al hK hP hD hS f23 1 (by decide) rfl fl_Al_48 rfl rfl rfl rfl (Nat.le_of_ble_eq_true rfl) d_Al_add3_61 (fun M25 H locs eM26 hP hD hS => ?_)
    have f27 : M25 t = some (.inr (3, [.ref q14, .int (nI (0 + 1)), .int (md + 1)])) := by rw [eM26]; exact hb_up_self
    have f28 : M25 q14 = some (.inl (cO, 10, .inr (.inr (.inr (.inr (va_up (va_cpy g9 g9 (nI 0).toNatClampNeg (nI (0 + 1)).toNatClampNeg (nI (0 - 0)).toNatClampNeg) (nI 0).toNatClampNeg (some x))))))) := by rw [eM26, hb_up_ne (fun q9 => by rw [q9, f23] at f22; cases f22)]; exact f22
    have f29 : M25 x = some (.inr (ci, xs)) := by rw [eM26, hb_up_ne (fun q9 => by rw [q9, ft9] at fx9; cases fx9; rcases hci with hci | hci <;> cases hci)]; exact f24
    exact hb_vret hAe hx hb hr hlocks hP hD hS (Nat.le_of_ble_eq_true rfl) (Nat.le_of_ble_eq_true rfl) (⟨rfl, q14, _, _, f27, f28, by omega, by omega, Or.inr (by have h := hqn; rw [eM7] at h; by_cases z : q14 = t; rw [z, hb_up_self] at h; cases h; rw [hb_up_ne z] at h; exact h), fun i hi => by rw [nI_clamp (show 0 < 2 ^ 31 by omega), nI_clamp (show 0 + 1 < 2 ^ 31 by omega), show va_cpy g9 g9 0 (0 + 1) 0 = va_cpy g9 g9 0 (0 + 1) (0 - 0) from rfl, hb_ins_mid (Nat.le_refl _) hi]; exact hb_ins_congr (fun i hi => absurd hi (by omega)) (Nat.le_refl _) hi, hb_kpq (q := q14) (t := t) (((((hb_off.rf.up (by simp) eM7).tr ho9 (by simp)).up (by simp) eM16).up (by simp) eM21).up (by simp) eM26) (by have h := hqn; rw [eM7] at h; by_cases z : q14 = t; rw [z, hb_up_self] at h; cases h; rw [hb_up_ne z] at h; exact h)⟩) d_Al_add3_64
end
section
/-! METHODS THAT THROW: hb_Thr says that the method throws an E, with the map as it was -/
def hb_XC (D : va_G) (cl : List vw_C) (sz : Nat) (M : hb_M) (E : String) : String → State → State → Prop := fun E' st t => E' = E ∧ hb_P D cl M t.heap ∧ va_F (hb_A M sz) st t
def hb_Thr (l : Launch) (D : va_G) (cl : List vw_C) (s0 : State) (y : MethodName) (b : ByteArray) (n : Nat) (ret : Option FieldType) (rm : Room) (av : List Value) (M : hb_M) (E : String) : Prop :=
  ∀ sz : Nat, vx_Met l y [.code y b n ret] rm (va_Pc av (hb_Pre D cl s0 sz M)) (fun _ _ _ _ => False) (hb_XC D cl sz M E) rm.cells rm.slots (hb_A M sz)
theorem hb_Thr.of {l : Launch} {D : va_G} {cl : List vw_C} {s0 : State} {y : MethodName} {b : ByteArray} {n : Nat} {ret : Option FieldType} {rm : Room} {av : List Value} {M : hb_M} {E : String}
    (hy : plainName y.cls = true) (hlen : (lg_sl av).length ≤ n)
    (body : ∀ (p : Program) (e : Env) (s : State) (m : MethodId) (below : List Frame) (meth : Method) (c : Code) (A : Nat → Prop), hb_A M s.heap.size = A → hb_Cx p s0 s m meth c y b n ret → hb_Z s0 A → hb_P D cl M s.heap → hb_D A M → (∀ q, s.heap.size ≤ q → A q) → va_S A s.heap s.heap [] → ∀ ls : Array Slot, lv_has ls n (lv_args 0 av) →
      W p l e rm s m av.toArray below meth c s.heap [] 0 0 (vx_MQ below (fun _ _ _ _ => False) (hb_XC D cl s.heap.size M E) av.toArray s rm.cells rm.slots A) (F0 m 0 ls [])) : hb_Thr l D cl s0 y b n ret rm av M E := by
  intro sz
  refine vx_ofW (cc := b) (maxL := n) (ret := ret) hy rfl ?_
  intro p e s m args below meth c s₁ B hml hte hv
  obtain ⟨rfl, hsz, hP, hD, hG⟩ := hv
  subst hsz
  have hl := lv_entry av hlen
  rw [lg_entry_eq]
  exact body p e s m below meth c _ rfl ⟨B.exec, B.bytes, B.returns, hml, findClass_of_methodNamed B.named, B.notSynchronized, (name_of_methodNamed B.named B.method).1, hG, by
    rw [Array.isEmpty_iff]
    apply Array.ext'
    exact List.eq_nil_iff_forall_not_mem.mpr hte⟩ (hb_A.z hD hG.2.1) hP (fun a x ha => Or.inl (by rw [ha]; simp)) (fun q hq => Or.inr hq) va_S.rf _ hl
section HBX
variable {p : Program} {l : Launch} {e : Env} {R : Room} {s0 s : State} {m : MethodId} {args : Array Value} {below : List Frame} {meth : Method} {c : Code} {H : Heap} {locs : List Loc} {cells slots : Nat}
variable {pc : Nat} {ls : Array Slot} {st0 rest : List Value} {D : va_G} {cl : List vw_C} {A : Nat → Prop} {M : hb_M} {Ts : List Cond} {tys : List (ClassId × FieldType)} {E : String}
variable {yo y : MethodName} {bo b : ByteArray} {no n k index : Nat} {ro ret : Option FieldType} {rm : Room} {As : List Value} {mc ms : Nat}
theorem hb_noh (h : c.exceptionTable.isEmpty = true) (pc : Nat) : ∀ x ∈ c.exceptionTable.toList, covers x pc = false := by
  intro x hx
  rw [Array.isEmpty_iff.mp h] at hx
  cases hx
/-- the callee throws, and so does the caller -/
theorem hb_outX {g0 : List Value} (hAe : hb_A M s.heap.size = A) (hX : hb_Cx p s0 s m meth c yo bo no ro) (hr : vx_Run p l e R s m args below meth c H locs cells slots rm.cells rm.slots (F0 m pc ls st0) rest (fun _ _ _ => False) (hb_XC D cl H.size M E) (hb_A M H.size)) (hD : hb_D A M) (hS : va_S A s.heap H locs) (hA : ∀ q, s.heap.size ≤ q → A q) (hc : cells + rm.cells ≤ mc) (hs : slots + rm.slots ≤ ms) :
    W p l e R s m args below meth c H locs cells slots (vx_MQ below (fun _ _ _ _ => False) (hb_XC D cl s.heap.size M E) args s mc ms A) (F0 m pc ls st0) := by
  have hsub : ∀ q, hb_A M H.size q → A q := by
    intro q hq
    rcases hq with hq | hq
    · cases hx : M q with
      | none => exact absurd hx hq
      | some x => exact hD q x hx
    · exact hA q (Nat.le_trans hS.1 hq)
  intro T hT X
  rcases hr T hT X with ⟨v, st₀, t, T', L, h0, X', hL, e1, e2, hf, st⟩ | ⟨q, st₀, t, T', L, E', ce, h0, X', hL, e1, e2, hxc, hce, hcv, hcl, st⟩
  · exact hf.elim
  · obtain ⟨rfl, hP1, hF⟩ := hxc
    obtain ⟨k1, k2, k3⟩ := vx_keep h0 e1 hS (fun q _ h => hsub q h) hsub hL hF
    have out := vx_out (p := p) (l := l) (e := e) (R := R) (s := s) (m := m) (args := args) (below := below) (meth := meth) (c := c) (H := T'.heap) (locs := locs ++ L) (cells := cells + rm.cells) (slots := slots + rm.slots) (Qc := fun _ _ _ _ => False) (XC := hb_XC D cl s.heap.size M E') (free := A) (ls := ls) (rest := rest) (pc := pc) (mc := mc) (ms := ms) (hb_noh hX.2.2.2.2.2.2.2.2 pc) hX.2.2.2.2.2.1 (by rw [e1]; exact hce) hcv hcl (fun t' ht' _ => ⟨rfl, by rw [ht', e1]; exact hP1, by rw [hAe]; exact k3.F ht'⟩) k3.2.2 hc hs
    obtain ⟨t2, a1, b1⟩ := out T' rfl X'
    exact ⟨t2, st.trans a1, b1⟩
theorem hb_thrS (hAe : hb_A M s.heap.size = A) (hX : hb_Cx p s0 s m meth c yo bo no ro) (hts : ∀ w ∈ Ts, w.before args s = true) (hgd : ∀ w ∈ Ts, goodWord w = true) (hY : hb_Y Ts y b n ret k) (hM : hb_Thr l D cl s0 y b n ret rm As M E) (hlink : Cond.methodLink yo.cls index y ∈ Ts) (hst : Cond.static y ∈ Ts)
    (hz : hb_Z s0 A) (hP : hb_P D cl M H) (hD : hb_D A M) (hS : va_S A s.heap H locs) (hA : ∀ q, s.heap.size ≤ q → A q) (hn : As.length = k) (hsz : ls.size = no) (hstack : st0 = As.reverse ++ rest) (hW : (rest.map fun v => v.category).sum ≤ 8) (hR : rm.frames + 1 ≤ R.frames ∧ 8 + (n + 11) + rm.locals ≤ R.locals) (hf : cells + rm.cells ≤ R.cells ∧ slots + rm.slots ≤ R.slots) (hdg : decode bo pc = .ok (.invokestatic index, 3)) (hc : cells + rm.cells ≤ mc) (hs : slots + rm.slots ≤ ms) :
    W p l e R s m args below meth c H locs cells slots (vx_MQ below (fun _ _ _ _ => False) (hb_XC D cl s.heap.size M E) args s mc ms A) (F0 m pc ls st0) := by
  obtain ⟨hx, hb, -, hml, hown, -, -, hG, -⟩ := id hX
  exact hb_outX (g0 := []) hAe hX (vx_runS (Ts := Ts) (own := yo.cls) ⟨hx, hb, hml, hown, hts⟩ (hM H.size) ⟨hb_cb hts hgd hY hlink hR, hts _ hst⟩ (hb_PreS hG hz hP hD hS) rfl hn hsz hstack (lv_room hW) hdg hf) hD hS hA hc hs
theorem hb_thrV {a ci N : Nat} {C : String} {Tt : u_T} {fs : List Value} (hAe : hb_A M s.heap.size = A) (hX : hb_Cx p s0 s m meth c yo bo no ro) (hts : ∀ w ∈ Ts, w.before args s = true) (hgd : ∀ w ∈ Ts, goodWord w = true) (hY : hb_Y Ts y b n ret k) (hM : hb_Thr l D cl s0 y b n ret rm (.ref a :: As) M E) (hlink : Cond.methodLink yo.cls index y ∈ Ts) (hin : Cond.instanceMethod y ∈ Ts) (hsel : Cond.selects C y y ∈ Ts) (hK : va_K D cl tys s) (he : M a = some (.inr (ci, fs))) (hc0 : cl[ci]? = some (C, Tt, N))
    (hz : hb_Z s0 A) (hP : hb_P D cl M H) (hD : hb_D A M) (hS : va_S A s.heap H locs) (hA : ∀ q, s.heap.size ≤ q → A q) (hn : As.length = k) (hsz : ls.size = no) (hstack : st0 = As.reverse ++ .ref a :: rest) (hW : (rest.map fun v => v.category).sum ≤ 8) (hR : rm.frames + 1 ≤ R.frames ∧ 8 + (n + 11) + rm.locals ≤ R.locals) (hf : cells + rm.cells ≤ R.cells ∧ slots + rm.slots ≤ R.slots) (hdg : decode bo pc = .ok (.invokevirtual index, 3)) (hc : cells + rm.cells ≤ mc) (hs : slots + rm.slots ≤ ms) :
    W p l e R s m args below meth c H locs cells slots (vx_MQ below (fun _ _ _ _ => False) (hb_XC D cl s.heap.size M E) args s mc ms A) (F0 m pc ls st0) := by
  obtain ⟨hx, hb, -, hml, hown, -, -, hG, -⟩ := id hX
  have hp := hb_PreS (As := .ref a :: As) hG hz hP hD hS
  exact hb_outX (g0 := []) hAe hX (vx_runV (Ts := Ts) (own := yo.cls) (C := C) ⟨hx, hb, hml, hown, hts⟩ (hM H.size) ⟨hb_cb hts hgd hY hlink hR, hts _ hin, hts _ hsel⟩ ⟨hp.1, va_recv hK (hP.one he) hc0 (q0 := 0) rfl, hp.2⟩ rfl hn hsz hstack (lv_room hW) hdg hf) hD hS hA hc hs
end HBX
theorem hb_iaeS : ∀ w ∈ (vx_atS "HoldBook" 50 "java/lang/IllegalArgumentException" ["java/lang/RuntimeException", "java/lang/Exception"]).filter goodWord, w ∈ lw_tbl := by decide +kernel
theorem hb_iseS : ∀ w ∈ (vx_atS "HoldBook" 63 "java/lang/IllegalStateException" ["java/lang/RuntimeException", "java/lang/Exception"]).filter goodWord, w ∈ lw_tbl := by decide +kernel
theorem hb_iae2 : ∀ w ∈ (vx_atS "HoldBook" 50 "java/lang/IllegalArgumentException" ["java/lang/RuntimeException", "java/lang/Exception"]).filter (fun w => !goodWord w), w ∈ hb_tb2 := by decide +kernel
theorem hb_ise2 : ∀ w ∈ (vx_atS "HoldBook" 63 "java/lang/IllegalStateException" ["java/lang/RuntimeException", "java/lang/Exception"]).filter (fun w => !goodWord w), w ∈ hb_tb2 := by decide +kernel
section HBTH
variable {p : Program} {l : Launch} {e : Env} {R : Room} {s0 s : State} {m : MethodId} {args : Array Value} {below : List Frame} {meth : Method} {c : Code} {H : Heap} {locs : List Loc} {cells slots : Nat}
variable {pc : Nat} {ls : Array Slot} {rest : List Value} {D : va_G} {A : Nat → Prop} {M : hb_M} {cI cJ cO : ClassId} {e0 mi : Nat} {yo : MethodName} {bo : ByteArray} {no : Nat} {ro : Option FieldType} {mc ms : Nat}
theorem hb_E.t2 (hE : hb_E l s0 D cI cJ cO e0 mi) (hG : hb_G s0 s) : ∀ w ∈ hb_tb2, w.before args s = true := by
  intro w hw
  have h := hE.nw w hw
  simp only [hb_tb2, List.mem_cons, List.not_mem_nil, or_false] at hw
  rcases hw with rfl | rfl | rfl | rfl | rfl | rfl | rfl
  · exact va_Nw.use rfl (va_Nw.warmC hG.1 h)
  · exact va_Nw.use rfl (va_Nw.warmC hG.1 h)
  · exact va_Nw.use rfl (va_Nw.warmC hG.1 h)
  · exact va_Nw.use rfl (va_Nw.warmC hG.1 h)
  · exact va_Nw.use rfl (va_Nw.warmD hG.1 h)
  · exact va_Nw.use rfl (va_Nw.warmD hG.1 h)
  · exact va_Nw.use rfl (va_Nw.warmD hG.1 h)
theorem hb_E.un (hE : hb_E l s0 D cI cJ cO e0 mi) (hG : hb_G s0 s) (hz : hb_Z s0 A) : vx_Zq "java/lang/Throwable" "UNASSIGNED_STACK" "[Ljava/lang/StackTraceElement;" A s s.heap := (((hE.2.2.2.2.2.2.2.2.2.1).moved hG.1.alike).kept (fun a h _ => hG.2.2 a h)).narrow hz
theorem hb_E.su (hE : hb_E l s0 D cI cJ cO e0 mi) (hG : hb_G s0 s) (hz : hb_Z s0 A) : vx_Zq "java/lang/Throwable" "SUPPRESSED_SENTINEL" "Ljava/util/List;" A s s.heap := (((hE.2.2.2.2.2.2.2.2.2.2.1).moved hG.1.alike).kept (fun a h _ => hG.2.2 a h)).narrow hz
theorem hb_E.st (hE : hb_E l s0 D cI cJ cO e0 mi) (hG : hb_G s0 s) {k : Nat} {tx : String} (h : Cond.stringRef "HoldBook" k tx ∈ lw_tbl) : ∃ q, vk_R "HoldBook" k tx q s := by
  obtain ⟨q, hq⟩ := hE.2.2.2.2.2.2.2.2.2.2.2.1 k tx h
  exact ⟨q, vk_R.warm hG.1 hq⟩
end HBTH
end
section
/-! CHECKS: the private checks of HoldBook, in bounds (they return) and out of bounds (they throw) -/
theorem hb_iaeG : ∀ w ∈ Cond.classLink "HoldBook" 46 "java/lang/IllegalArgumentException" :: Cond.initialized "java/lang/IllegalArgumentException" :: vx_atS "HoldBook" 50 "java/lang/IllegalArgumentException" ["java/lang/RuntimeException", "java/lang/Exception"], vx_ot w = true := by decide +kernel
theorem hb_iseG : ∀ w ∈ Cond.classLink "HoldBook" 59 "java/lang/IllegalStateException" :: Cond.initialized "java/lang/IllegalStateException" :: vx_atS "HoldBook" 63 "java/lang/IllegalStateException" ["java/lang/RuntimeException", "java/lang/Exception"], vx_ot w = true := by decide +kernel
section HBTR
variable {p : Program} {l : Launch} {e : Env} {R : Room} {s0 s : State} {m : MethodId} {args : Array Value} {below : List Frame} {meth : Method} {c : Code} {H : Heap} {locs : List Loc} {cells slots : Nat}
variable {pc : Nat} {ls : Array Slot} {rest : List Value} {D : va_G} {A : Nat → Prop} {M : hb_M} {cI cJ cO : ClassId} {e0 mi : Nat} {yo : MethodName} {bo : ByteArray} {no : Nat} {ro : Option FieldType} {mc ms : Nat}
theorem hb_iae {is : Nat} {tx : String} (hE : hb_E l s0 D cI cJ cO e0 mi) (hAe : hb_A M s.heap.size = A) (hX : hb_Cx p s0 s m meth c yo bo no ro) (hown : s.vm.findClass "HoldBook" = some m.cls) (hz : hb_Z s0 A) (hP : hb_P D hb_cl M H) (hS : va_S A s.heap H locs) (hsz : ls.size = no) (hstr : Cond.stringRef "HoldBook" is tx ∈ lw_tbl)
    (d0 : decode bo pc = .ok (.new 46, 3)) (d3 : decode bo (pc + 3) = .ok (.dup, 1)) (d4 : decode bo (pc + 4) = .ok (.ldc is, 2)) (d6 : decode bo (pc + 6) = .ok (.invokespecial 50, 3)) (d9 : decode bo (pc + 9) = .ok (.athrow, 1))
    (hRf : 5 < R.frames) (hRl : (rest.map fun v => v.category).sum + (13 * 3 + 43) ≤ R.locals) (hRc : cells + 1 ≤ R.cells) (hRs : slots + 6 ≤ R.slots) (hc : cells + 1 ≤ mc) (hs : slots + 6 ≤ ms) :
    W p l e R s m args below meth c H locs cells slots (vx_MQ below (fun _ _ _ _ => False) (hb_XC D hb_cl s.heap.size M "java/lang/IllegalArgumentException") args s mc ms A) (F0 m pc ls rest) := by
  obtain ⟨hx, hb, -, hml, -, hlk, -, hG, hnh⟩ := id hX
  obtain ⟨q, hq⟩ := hE.st hG hstr
  have hts := hE.ts hG args
  exact vx_throwS (names := ["java/lang/RuntimeException", "java/lang/Exception"]) (A := A) hx hb hE.1 hown (by decide +kernel) (by decide +kernel) (hts _ kl_Hb_46) (hts _ in_Iae) hq (vx_hat (fun w hw => hts w (hb_in (hb_iaeS w hw) (List.mem_filter.mp hw).2)) hb_iae2 (hE.t2 hG)) hb_iaeG (hE.un hG hz) (hE.su hG hz) hS (by rw [hsz, hml]) d0 d3 d4 d6 d9 (hb_noh hnh _) hRf hRl hRc hRs hlk
    (fun t ht h1 h2 => ⟨rfl, hP.kept (fun a x ha => h2 a (hP.lt ha)), by rw [hAe]; exact ⟨Nat.le_trans hS.1 h1, fun z h3 h4 => by rw [h2 z (Nat.lt_of_lt_of_le h3 hS.1)]; exact hS.2.1 z h3 h4⟩⟩) hS.2.2 hc hs
theorem hb_ise {is : Nat} {tx : String} (hE : hb_E l s0 D cI cJ cO e0 mi) (hAe : hb_A M s.heap.size = A) (hX : hb_Cx p s0 s m meth c yo bo no ro) (hown : s.vm.findClass "HoldBook" = some m.cls) (hz : hb_Z s0 A) (hP : hb_P D hb_cl M H) (hS : va_S A s.heap H locs) (hsz : ls.size = no) (hstr : Cond.stringRef "HoldBook" is tx ∈ lw_tbl)
    (d0 : decode bo pc = .ok (.new 59, 3)) (d3 : decode bo (pc + 3) = .ok (.dup, 1)) (d4 : decode bo (pc + 4) = .ok (.ldc is, 2)) (d6 : decode bo (pc + 6) = .ok (.invokespecial 63, 3)) (d9 : decode bo (pc + 9) = .ok (.athrow, 1))
    (hRf : 5 < R.frames) (hRl : (rest.map fun v => v.category).sum + (13 * 3 + 43) ≤ R.locals) (hRc : cells + 1 ≤ R.cells) (hRs : slots + 6 ≤ R.slots) (hc : cells + 1 ≤ mc) (hs : slots + 6 ≤ ms) :
    W p l e R s m args below meth c H locs cells slots (vx_MQ below (fun _ _ _ _ => False) (hb_XC D hb_cl s.heap.size M "java/lang/IllegalStateException") args s mc ms A) (F0 m pc ls rest) := by
  obtain ⟨hx, hb, -, hml, -, hlk, -, hG, hnh⟩ := id hX
  obtain ⟨q, hq⟩ := hE.st hG hstr
  have hts := hE.ts hG args
  exact vx_throwS (names := ["java/lang/RuntimeException", "java/lang/Exception"]) (A := A) hx hb hE.1 hown (by decide +kernel) (by decide +kernel) (hts _ kl_Hb_59) (hts _ in_Ise) hq (vx_hat (fun w hw => hts w (hb_in (hb_iseS w hw) (List.mem_filter.mp hw).2)) hb_ise2 (hE.t2 hG)) hb_iseG (hE.un hG hz) (hE.su hG hz) hS (by rw [hsz, hml]) d0 d3 d4 d6 d9 (hb_noh hnh _) hRf hRl hRc hRs hlk
    (fun t ht h1 h2 => ⟨rfl, hP.kept (fun a x ha => h2 a (hP.lt ha)), by rw [hAe]; exact ⟨Nat.le_trans hS.1 h1, fun z h3 h4 => by rw [h2 z (Nat.lt_of_lt_of_le h3 hS.1)]; exact hS.2.1 z h3 h4⟩⟩) hS.2.2 hc hs
end HBTR
set_option maxHeartbeats 4000000 in
set_option maxRecDepth 100000 in
/-- Hb_checkKey, in bounds -/
theorem c_Hb_checkKey_ok {l : Launch} {s0 : State} {D : va_G} {cI cJ cO : ClassId} {e0 mi : Nat} (hE : hb_E l s0 D cI cJ cO e0 mi) (M : hb_M) (k : Int32) (h : ¬ k < 0 ∧ ¬ 1000000 < k) : hb_Met l D hb_cl s0 y_Hb_checkKey b_Hb_checkKey 1 none { frames := 0, cells := 0, slots := 0, locals := 0 } [.int k] M (fun v M1 => v = none ∧ M1 = M) := by
  refine hb_Met.of (by decide) (Nat.le_of_ble_eq_true rfl) ?_
  intro p e s m below meth c A hAe hX hz hP hD hA hS ls hl
  obtain ⟨hx, hb, hr, hml, hown, hlocks, hnm, hG, hnh⟩ := id hX
  have hown : s.vm.findClass "HoldBook" = some m.cls := hown
  have hts := hE.ts hG ([.int k] : List Value).toArray
  have hK := hE.kn hG
  have hl : lv_has ls 1 [(0, .int k)] := hl
  refine lv_iload_n hx hb d_Hb_checkKey_0 rfl (lv_at hl 0 rfl) ?_
  refine lv_if_lt (tgt := 10) hx hb d_Hb_checkKey_1 (by decide) (fun c1 => ?_) (fun c1 => ?_)
  · skip
    exact absurd c1 h.1
  · skip
    refine lv_iload_n hx hb d_Hb_checkKey_4 rfl (lv_at hl 0 rfl) ?_
    refine lv_ldc (v := 1000000) hx hb hown (hts _ kc_Hb_145) d_Hb_checkKey_5 ?_
    refine lv_icmp_le (tgt := 20) hx hb d_Hb_checkKey_7 (by decide) (fun c2 => ?_) (fun c2 => ?_)
    · skip
      have c2n := hb_ngti c2
      exact hb_vret hAe hx hb hr hlocks hP hD hS (Nat.le_of_ble_eq_true rfl) (Nat.le_of_ble_eq_true rfl) (⟨rfl, rfl⟩) d_Hb_checkKey_20
    · skip
      have c2n := hb_gti c2
      exact absurd c2 (fun z => h.2 (hb_gti z))
set_option maxHeartbeats 4000000 in
set_option maxRecDepth 100000 in
/-- Hb_checkKey, out of bounds -/
theorem c_Hb_checkKey_bad {l : Launch} {s0 : State} {D : va_G} {cI cJ cO : ClassId} {e0 mi : Nat} (hE : hb_E l s0 D cI cJ cO e0 mi) (M : hb_M) (k : Int32) (h : k < 0 ∨ 1000000 < k) : hb_Thr l D hb_cl s0 y_Hb_checkKey b_Hb_checkKey 1 none { frames := 6, cells := 1, slots := 6, locals := 90 } [.int k] M "java/lang/IllegalArgumentException" := by
  refine hb_Thr.of (by decide) (Nat.le_of_ble_eq_true rfl) ?_
  intro p e s m below meth c A hAe hX hz hP hD hA hS ls hl
  obtain ⟨hx, hb, hr, hml, hown, hlocks, hnm, hG, hnh⟩ := id hX
  have hown : s.vm.findClass "HoldBook" = some m.cls := hown
  have hts := hE.ts hG ([.int k] : List Value).toArray
  have hK := hE.kn hG
  have hl : lv_has ls 1 [(0, .int k)] := hl
  refine lv_iload_n hx hb d_Hb_checkKey_0 rfl (lv_at hl 0 rfl) ?_
  refine lv_if_lt (tgt := 10) hx hb d_Hb_checkKey_1 (by decide) (fun c1 => ?_) (fun c1 => ?_)
  · skip
    exact hb_iae hE hAe hX hown hz hP hS hl.1 (List.mem_of_getElem? (i := 362) (by decide +kernel) : Cond.stringRef "HoldBook" 206 "no key" ∈ lw_tbl) d_Hb_checkKey_10 d_Hb_checkKey_13 d_Hb_checkKey_14 d_Hb_checkKey_16 d_Hb_checkKey_19 (Nat.le_of_ble_eq_true rfl) (Nat.le_of_ble_eq_true rfl) (Nat.le_of_ble_eq_true rfl) (Nat.le_of_ble_eq_true rfl) (Nat.le_of_ble_eq_true rfl) (Nat.le_of_ble_eq_true rfl)
  · skip
    refine lv_iload_n hx hb d_Hb_checkKey_4 rfl (lv_at hl 0 rfl) ?_
    refine lv_ldc (v := 1000000) hx hb hown (hts _ kc_Hb_145) d_Hb_checkKey_5 ?_
    refine lv_icmp_le (tgt := 20) hx hb d_Hb_checkKey_7 (by decide) (fun c2 => ?_) (fun c2 => ?_)
    · skip
      have c2n := hb_ngti c2
      exact absurd h (by intro z; rcases z with z | z; exact absurd z (by assumption); exact absurd z c2n)
    · skip
      have c2n := hb_gti c2
      exact hb_iae hE hAe hX hown hz hP hS hl.1 (List.mem_of_getElem? (i := 362) (by decide +kernel) : Cond.stringRef "HoldBook" 206 "no key" ∈ lw_tbl) d_Hb_checkKey_10 d_Hb_checkKey_13 d_Hb_checkKey_14 d_Hb_checkKey_16 d_Hb_checkKey_19 (Nat.le_of_ble_eq_true rfl) (Nat.le_of_ble_eq_true rfl) (Nat.le_of_ble_eq_true rfl) (Nat.le_of_ble_eq_true rfl) (Nat.le_of_ble_eq_true rfl) (Nat.le_of_ble_eq_true rfl)
set_option maxHeartbeats 4000000 in
set_option maxRecDepth 100000 in
/-- Hb_checkAmount, in bounds -/
theorem c_Hb_checkAmount_ok {l : Launch} {s0 : State} {D : va_G} {cI cJ cO : ClassId} {e0 mi : Nat} (hE : hb_E l s0 D cI cJ cO e0 mi) (M : hb_M) (x : Int64) (h : ¬ x < 1 ∧ ¬ 1000000000000 < x) : hb_Met l D hb_cl s0 y_Hb_checkAmount b_Hb_checkAmount 2 none { frames := 0, cells := 0, slots := 0, locals := 0 } [.long x] M (fun v M1 => v = none ∧ M1 = M) := by
  refine hb_Met.of (by decide) (Nat.le_of_ble_eq_true rfl) ?_
  intro p e s m below meth c A hAe hX hz hP hD hA hS ls hl
  obtain ⟨hx, hb, hr, hml, hown, hlocks, hnm, hG, hnh⟩ := id hX
  have hown : s.vm.findClass "HoldBook" = some m.cls := hown
  have hts := hE.ts hG ([.long x] : List Value).toArray
  have hK := hE.kn hG
  have hl : lv_has ls 2 [(0, .long x)] := hl
  refine lv_lload_n hx hb d_Hb_checkAmount_0 rfl (lv_at hl 0 rfl) ?_
  refine lv_lconst (v := 1) hx hb d_Hb_checkAmount_1 (by decide) ?_
  refine hb_lc_lt (tgt := 14) hx hb d_Hb_checkAmount_2 d_Hb_checkAmount_3 (by decide) (fun c1 => ?_) (fun c1 => ?_)
  · skip
    exact absurd c1 h.1
  · skip
    refine lv_lload_n hx hb d_Hb_checkAmount_6 rfl (lv_at hl 0 rfl) ?_
    refine lv_ldc2 (v := 1000000000000) hx hb hown (hts _ kc_Hb_44) d_Hb_checkAmount_7 ?_
    refine hb_lc_le (tgt := 24) hx hb d_Hb_checkAmount_10 d_Hb_checkAmount_11 (by decide) (fun c2 => ?_) (fun c2 => ?_)
    · skip
      have c2n := hb_ngt c2
      exact hb_vret hAe hx hb hr hlocks hP hD hS (Nat.le_of_ble_eq_true rfl) (Nat.le_of_ble_eq_true rfl) (⟨rfl, rfl⟩) d_Hb_checkAmount_24
    · skip
      have c2n := hb_gt c2
      exact absurd c2 (fun z => h.2 (hb_gt z))
set_option maxHeartbeats 4000000 in
set_option maxRecDepth 100000 in
/-- Hb_checkAmount, out of bounds -/
theorem c_Hb_checkAmount_bad {l : Launch} {s0 : State} {D : va_G} {cI cJ cO : ClassId} {e0 mi : Nat} (hE : hb_E l s0 D cI cJ cO e0 mi) (M : hb_M) (x : Int64) (h : x < 1 ∨ 1000000000000 < x) : hb_Thr l D hb_cl s0 y_Hb_checkAmount b_Hb_checkAmount 2 none { frames := 6, cells := 1, slots := 6, locals := 90 } [.long x] M "java/lang/IllegalArgumentException" := by
  refine hb_Thr.of (by decide) (Nat.le_of_ble_eq_true rfl) ?_
  intro p e s m below meth c A hAe hX hz hP hD hA hS ls hl
  obtain ⟨hx, hb, hr, hml, hown, hlocks, hnm, hG, hnh⟩ := id hX
  have hown : s.vm.findClass "HoldBook" = some m.cls := hown
  have hts := hE.ts hG ([.long x] : List Value).toArray
  have hK := hE.kn hG
  have hl : lv_has ls 2 [(0, .long x)] := hl
  refine lv_lload_n hx hb d_Hb_checkAmount_0 rfl (lv_at hl 0 rfl) ?_
  refine lv_lconst (v := 1) hx hb d_Hb_checkAmount_1 (by decide) ?_
  refine hb_lc_lt (tgt := 14) hx hb d_Hb_checkAmount_2 d_Hb_checkAmount_3 (by decide) (fun c1 => ?_) (fun c1 => ?_)
  · skip
    exact hb_iae hE hAe hX hown hz hP hS hl.1 (List.mem_of_getElem? (i := 371) (by decide +kernel) : Cond.stringRef "HoldBook" 208 "the amount is out of its bounds" ∈ lw_tbl) d_Hb_checkAmount_14 d_Hb_checkAmount_17 d_Hb_checkAmount_18 d_Hb_checkAmount_20 d_Hb_checkAmount_23 (Nat.le_of_ble_eq_true rfl) (Nat.le_of_ble_eq_true rfl) (Nat.le_of_ble_eq_true rfl) (Nat.le_of_ble_eq_true rfl) (Nat.le_of_ble_eq_true rfl) (Nat.le_of_ble_eq_true rfl)
  · skip
    refine lv_lload_n hx hb d_Hb_checkAmount_6 rfl (lv_at hl 0 rfl) ?_
    refine lv_ldc2 (v := 1000000000000) hx hb hown (hts _ kc_Hb_44) d_Hb_checkAmount_7 ?_
    refine hb_lc_le (tgt := 24) hx hb d_Hb_checkAmount_10 d_Hb_checkAmount_11 (by decide) (fun c2 => ?_) (fun c2 => ?_)
    · skip
      have c2n := hb_ngt c2
      exact absurd h (by intro z; rcases z with z | z; exact absurd z (by assumption); exact absurd z c2n)
    · skip
      have c2n := hb_gt c2
      exact hb_iae hE hAe hX hown hz hP hS hl.1 (List.mem_of_getElem? (i := 371) (by decide +kernel) : Cond.stringRef "HoldBook" 208 "the amount is out of its bounds" ∈ lw_tbl) d_Hb_checkAmount_14 d_Hb_checkAmount_17 d_Hb_checkAmount_18 d_Hb_checkAmount_20 d_Hb_checkAmount_23 (Nat.le_of_ble_eq_true rfl) (Nat.le_of_ble_eq_true rfl) (Nat.le_of_ble_eq_true rfl) (Nat.le_of_ble_eq_true rfl) (Nat.le_of_ble_eq_true rfl) (Nat.le_of_ble_eq_true rfl)
set_option maxHeartbeats 4000000 in
set_option maxRecDepth 100000 in
/-- Hb_checkWhat, in bounds -/
theorem c_Hb_checkWhat_ok {l : Launch} {s0 : State} {D : va_G} {cI cJ cO : ClassId} {e0 mi : Nat} (hE : hb_E l s0 D cI cJ cO e0 mi) (M : hb_M) (k n : Int32) (h : ¬ k < 0 ∧ ¬ n < k) : hb_Met l D hb_cl s0 y_Hb_checkWhat b_Hb_checkWhat 2 none { frames := 0, cells := 0, slots := 0, locals := 0 } [.int k, .int n] M (fun v M1 => v = none ∧ M1 = M) := by
  refine hb_Met.of (by decide) (Nat.le_of_ble_eq_true rfl) ?_
  intro p e s m below meth c A hAe hX hz hP hD hA hS ls hl
  obtain ⟨hx, hb, hr, hml, hown, hlocks, hnm, hG, hnh⟩ := id hX
  have hown : s.vm.findClass "HoldBook" = some m.cls := hown
  have hts := hE.ts hG ([.int k, .int n] : List Value).toArray
  have hK := hE.kn hG
  have hl : lv_has ls 2 [(0, .int k), (1, .int n)] := hl
  refine lv_iload_n hx hb d_Hb_checkWhat_0 rfl (lv_at hl 0 rfl) ?_
  refine lv_if_lt (tgt := 9) hx hb d_Hb_checkWhat_1 (by decide) (fun c1 => ?_) (fun c1 => ?_)
  · skip
    exact absurd c1 h.1
  · skip
    refine lv_iload_n hx hb d_Hb_checkWhat_4 rfl (lv_at hl 0 rfl) ?_
    refine lv_iload_n hx hb d_Hb_checkWhat_5 rfl (lv_at hl 1 rfl) ?_
    refine lv_icmp_le (tgt := 19) hx hb d_Hb_checkWhat_6 (by decide) (fun c2 => ?_) (fun c2 => ?_)
    · skip
      have c2n := hb_ngti c2
      exact hb_vret hAe hx hb hr hlocks hP hD hS (Nat.le_of_ble_eq_true rfl) (Nat.le_of_ble_eq_true rfl) (⟨rfl, rfl⟩) d_Hb_checkWhat_19
    · skip
      have c2n := hb_gti c2
      exact absurd c2 (fun z => h.2 (hb_gti z))
set_option maxHeartbeats 4000000 in
set_option maxRecDepth 100000 in
/-- Hb_checkWhat, out of bounds -/
theorem c_Hb_checkWhat_bad {l : Launch} {s0 : State} {D : va_G} {cI cJ cO : ClassId} {e0 mi : Nat} (hE : hb_E l s0 D cI cJ cO e0 mi) (M : hb_M) (k n : Int32) (h : k < 0 ∨ n < k) : hb_Thr l D hb_cl s0 y_Hb_checkWhat b_Hb_checkWhat 2 none { frames := 6, cells := 1, slots := 6, locals := 90 } [.int k, .int n] M "java/lang/IllegalArgumentException" := by
  refine hb_Thr.of (by decide) (Nat.le_of_ble_eq_true rfl) ?_
  intro p e s m below meth c A hAe hX hz hP hD hA hS ls hl
  obtain ⟨hx, hb, hr, hml, hown, hlocks, hnm, hG, hnh⟩ := id hX
  have hown : s.vm.findClass "HoldBook" = some m.cls := hown
  have hts := hE.ts hG ([.int k, .int n] : List Value).toArray
  have hK := hE.kn hG
  have hl : lv_has ls 2 [(0, .int k), (1, .int n)] := hl
  refine lv_iload_n hx hb d_Hb_checkWhat_0 rfl (lv_at hl 0 rfl) ?_
  refine lv_if_lt (tgt := 9) hx hb d_Hb_checkWhat_1 (by decide) (fun c1 => ?_) (fun c1 => ?_)
  · skip
    exact hb_iae hE hAe hX hown hz hP hS hl.1 (List.mem_of_getElem? (i := 536) (by decide +kernel) : Cond.stringRef "HoldBook" 210 "there is no such thing to tell" ∈ lw_tbl) d_Hb_checkWhat_9 d_Hb_checkWhat_12 d_Hb_checkWhat_13 d_Hb_checkWhat_15 d_Hb_checkWhat_18 (Nat.le_of_ble_eq_true rfl) (Nat.le_of_ble_eq_true rfl) (Nat.le_of_ble_eq_true rfl) (Nat.le_of_ble_eq_true rfl) (Nat.le_of_ble_eq_true rfl) (Nat.le_of_ble_eq_true rfl)
  · skip
    refine lv_iload_n hx hb d_Hb_checkWhat_4 rfl (lv_at hl 0 rfl) ?_
    refine lv_iload_n hx hb d_Hb_checkWhat_5 rfl (lv_at hl 1 rfl) ?_
    refine lv_icmp_le (tgt := 19) hx hb d_Hb_checkWhat_6 (by decide) (fun c2 => ?_) (fun c2 => ?_)
    · skip
      have c2n := hb_ngti c2
      exact absurd h (by intro z; rcases z with z | z; exact absurd z (by assumption); exact absurd z c2n)
    · skip
      have c2n := hb_gti c2
      exact hb_iae hE hAe hX hown hz hP hS hl.1 (List.mem_of_getElem? (i := 536) (by decide +kernel) : Cond.stringRef "HoldBook" 210 "there is no such thing to tell" ∈ lw_tbl) d_Hb_checkWhat_9 d_Hb_checkWhat_12 d_Hb_checkWhat_13 d_Hb_checkWhat_15 d_Hb_checkWhat_18 (Nat.le_of_ble_eq_true rfl) (Nat.le_of_ble_eq_true rfl) (Nat.le_of_ble_eq_true rfl) (Nat.le_of_ble_eq_true rfl) (Nat.le_of_ble_eq_true rfl) (Nat.le_of_ble_eq_true rfl)
end
section
/-! THE CLASS'S STATE. An account: minimum, free at first, balance, held, locked. A payment: key, account (-1: none), state, held, cleared, until, since, dispute, disputed, deadline -/
abbrev hbA : Type := Int64 × Int64 × Int64 × Int64 × Int64
abbrev hbY : Type := Int32 × Int32 × Int32 × Int64 × Int64 × Int32 × Int32 × Int32 × Int64 × Int32
abbrev aE (n : Int32) (r : hbA) : va_E := .inr (0, [.int n, .long r.1, .long r.2.1, .long r.2.2.1, .long r.2.2.2.1, .long r.2.2.2.2])
abbrev pE (a : Nat) (r : hbY) : va_E := .inr (1, [.int r.1, .ref a, .int r.2.2.1, .long r.2.2.2.1, .long r.2.2.2.2.1, .int r.2.2.2.2.2.1, .int r.2.2.2.2.2.2.1, .int r.2.2.2.2.2.2.2.1, .long r.2.2.2.2.2.2.2.2.1, .int r.2.2.2.2.2.2.2.2.2])
abbrev xE (ho pa : Int32) (la lp nb : Nat) (tm : Int32) : va_E := .inr (2, [.int ho, .int pa, .ref la, .ref lp, .ref nb, .int tm])
def hb_lst (cO : ClassId) (e0 : Nat) (M : hb_M) (t ar : Nat) (xs : List Nat) : Prop := ∃ md : Int32, M t = some (.inr (3, [.ref ar, .int (nI xs.length), .int md])) ∧ ((ar = e0 ∧ xs = []) ∨ ∃ (cap : Nat) (f : Nat → Option Nat), M ar = some (hb_ar cO cap f) ∧ 0 < cap ∧ xs.length ≤ cap ∧ cap ≤ 100 ∧ ∀ i, i < xs.length → f i = xs[i]?)
/-- the cells of the accounts or payments of a list -/
def hb_obj (M : hb_M) (xs : List Nat) : Prop := ∀ x ∈ xs, ∃ ci fs, M x = some (.inr (ci, fs)) ∧ (ci = 0 ∨ ci = 1)
theorem hb_obj.els {M : hb_M} {xs : List Nat} {f : Nat → Option Nat} (h : hb_obj M xs) (hf : ∀ i, i < xs.length → f i = xs[i]?) : hb_els M f xs.length := by
  intro i hi
  obtain ⟨ci, fs, h1, h2⟩ := h xs[i] (List.getElem_mem hi)
  exact ⟨xs[i], ci, fs, by rw [hf i hi, List.getElem?_eq_getElem hi], h1, h2⟩
section LST
variable {l : Launch} {s0 : State} {D : va_G} {cI cJ cO : ClassId} {e0 mi : Nat} (hE : hb_E l s0 D cI cJ cO e0 mi) {M : hb_M} {t ar : Nat} {xs : List Nat}
theorem c_lst_size (hE : hb_E l s0 D cI cJ cO e0 mi) (h : hb_lst cO e0 M t ar xs) : hb_Met l D hb_cl s0 y_Al_size b_Al_size 1 (some .int) { frames := 0, cells := 0, slots := 0, locals := 0 } [.ref t] M (fun v M1 => v = some (.int (nI xs.length)) ∧ M1 = M) := by
  obtain ⟨md, h1, -⟩ := h
  exact c_Al_size hE M t _ _ md h1
theorem c_lst_get (hE : hb_E l s0 D cI cJ cO e0 mi) (h : hb_lst cO e0 M t ar xs) {j x : Nat} (hj : xs[j]? = some x) : hb_Met l D hb_cl s0 y_Al_get b_Al_get 2 (some (.object "java/lang/Object")) { frames := 2, cells := 0, slots := 0, locals := 43 } [.ref t, .int (nI j)] M (fun v M1 => v = some (.ref x) ∧ M1 = M) := by
  obtain ⟨md, h1, h2⟩ := h
  have hjl := (List.getElem?_eq_some_iff.mp hj).1
  rcases h2 with ⟨-, rfl⟩ | ⟨cap, f, h3, h4, h5, h6, h7⟩
  · exact absurd hjl (by simp)
  · exact c_Al_get hE M t ar j xs.length cap md f x hjl h5 h6 (by rw [h7 j hjl]; exact hj) h1 h3
theorem hb_added.lst (hM0 : M e0 = none) {M1 : hb_M} {md : Int32} {f : Nat → Option Nat} {j x : Nat} (hj : j ≤ xs.length) (hf : ∀ i, i < xs.length → f i = xs[i]?) (h : hb_added cO M M1 t ar xs.length md f j x) : ∃ ar1, hb_lst cO e0 M1 t ar1 (xs.insertIdx j x) ∧ (ar1 = ar ∨ M ar1 = none) ∧ hb_kp [t, ar] M M1 := by
  obtain ⟨ar1, cap1, g, a1, a2, a3, a4, a5, a6, a7⟩ := h
  have hl : (xs.insertIdx j x).length = xs.length + 1 := by rw [List.length_insertIdx, if_pos hj]
  refine ⟨ar1, ⟨md, by rw [hl]; exact a1, Or.inr ⟨cap1, g, a2, by omega, by rw [hl]; exact a3, a4, fun i hi => ?_⟩⟩, a5, a7⟩
  rw [hl] at hi
  rw [a6 i hi, List.getElem?_insertIdx]
  unfold hb_ins
  by_cases h1 : i < j
  · rw [if_pos h1, if_pos h1, hf i (by omega)]
  · rw [if_neg h1, if_neg h1]
    by_cases h2 : i = j
    · rw [if_pos h2, if_pos h2, if_pos (by omega)]
    · rw [if_neg h2, if_neg h2, hf (i - 1) (by omega)]
theorem hb_Met.mono {y : MethodName} {b : ByteArray} {n : Nat} {ret : Option FieldType} {rm : Room} {av : List Value} {post post' : Option Value → hb_M → Prop} {cl : List vw_C} (h : hb_Met l D cl s0 y b n ret rm av M post) (hp : ∀ v M1, post v M1 → post' v M1) : hb_Met l D cl s0 y b n ret rm av M post' := by
  intro sz p e ha hc hk s m args below hf happ hP hK
  obtain ⟨n, o, h1, h2, h3, h4, h5⟩ := h sz p e ha hc hk s m args below hf happ hP hK
  obtain ⟨⟨v, M1, a1, a2, a3, a4⟩, a5⟩ := h4
  exact ⟨n, o, h1, h2, h3, ⟨⟨v, M1, a1, hp v M1 a2, a3, a4⟩, a5⟩, h5⟩
theorem c_lst_ins (hE : hb_E l s0 D cI cJ cO e0 mi) (hM0 : M e0 = none) (h : hb_lst cO e0 M t ar xs) (ho : hb_obj M xs) {j x ci : Nat} {fs : List Value} (hj : j ≤ xs.length) (hn : xs.length ≤ 62) (hx : M x = some (.inr (ci, fs))) (hci : ci = 0 ∨ ci = 1) : hb_Met l D hb_cl s0 y_Al_add3 b_Al_add3 5 none { frames := 5, cells := 1, slots := 100, locals := 207 } [.ref t, .int (nI j), .ref x] M (fun v M1 => v = none ∧ ∃ ar1, hb_lst cO e0 M1 t ar1 (xs.insertIdx j x) ∧ (ar1 = ar ∨ M ar1 = none) ∧ hb_kp [t, ar] M M1) := by
  obtain ⟨md, h1, h2⟩ := h
  rcases h2 with ⟨rfl, rfl⟩ | ⟨cap, f, h3, h4, h5, h6, h7⟩
  · have hj0 : j = 0 := by simpa using hj
    subst hj0
    exact (c_Al_add3_e hE M t md (fun _ => none) x ci fs hx hci h1).mono (fun v M1 q => ⟨q.1, hb_added.lst (xs := []) hM0 hj (fun i hi => absurd hi (by simp)) q.2⟩)
  · by_cases hc : xs.length < cap
    · exact (c_Al_add3_a hE M t ar cap xs.length md f hc h6 x ci fs hx hci h1 h3 (ho.els h7) j hj).mono (fun v M1 q => ⟨q.1, hb_added.lst hM0 hj h7 q.2⟩)
    · have hce : cap = xs.length := by omega
      subst hce
      exact (c_Al_add3_f hE M t ar xs.length md f h4 (by omega) (ho.els h7) x ci fs hx hci h1 h3 j hj).mono (fun v M1 q => ⟨q.1, hb_added.lst hM0 hj h7 q.2⟩)
theorem c_lst_add (hE : hb_E l s0 D cI cJ cO e0 mi) (hM0 : M e0 = none) (h : hb_lst cO e0 M t ar xs) (ho : hb_obj M xs) {x ci : Nat} {fs : List Value} (hn : xs.length ≤ 62) (hx : M x = some (.inr (ci, fs))) (hci : ci = 0 ∨ ci = 1) : hb_Met l D hb_cl s0 y_Al_add1 b_Al_add1 2 (some .boolean) { frames := 6, cells := 1, slots := 100, locals := 170 } [.ref t, .ref x] M (fun v M1 => v = some (.int 1) ∧ ∃ ar1, hb_lst cO e0 M1 t ar1 (xs.insertIdx xs.length x) ∧ (ar1 = ar ∨ M ar1 = none) ∧ hb_kp [t, ar] M M1) := by
  obtain ⟨md, h1, h2⟩ := h
  rcases h2 with ⟨rfl, rfl⟩ | ⟨cap, f, h3, h4, h5, h6, h7⟩
  · exact (c_Al_add1_e hE M t md (fun _ => none) x ci fs hx hci h1).mono (fun v M1 q => ⟨q.1, hb_added.lst (xs := []) hM0 (Nat.le_refl _) (fun i hi => absurd hi (by simp)) q.2⟩)
  · by_cases hc : xs.length < cap
    · exact (c_Al_add1_a hE M t ar cap xs.length md f hc h6 x ci fs hx hci h1 h3).mono (fun v M1 q => ⟨q.1, hb_added.lst hM0 (Nat.le_refl _) h7 q.2⟩)
    · have hce : cap = xs.length := by omega
      subst hce
      exact (c_Al_add1_f hE M t ar xs.length md f h4 (by omega) (ho.els h7) x ci fs hx hci h1 h3).mono (fun v M1 q => ⟨q.1, hb_added.lst hM0 (Nat.le_refl _) h7 q.2⟩)
theorem c_lst_rem (hE : hb_E l s0 D cI cJ cO e0 mi) (h : hb_lst cO e0 M t ar xs) (ho : hb_obj M xs) {j x : Nat} (hj : xs[j]? = some x) : hb_Met l D hb_cl s0 y_Al_remove b_Al_remove 4 (some (.object "java/lang/Object")) { frames := 2, cells := 0, slots := 0, locals := 83 } [.ref t, .int (nI j)] M (fun v M1 => v = some (.ref x) ∧ hb_lst cO e0 M1 t ar (xs.eraseIdx j) ∧ hb_off [t, ar] M M1) := by
  obtain ⟨md, h1, h2⟩ := h
  have hjl := (List.getElem?_eq_some_iff.mp hj).1
  rcases h2 with ⟨-, rfl⟩ | ⟨cap, f, h3, h4, h5, h6, h7⟩
  · exact absurd hjl (by simp)
  · obtain ⟨k, hk⟩ : ∃ k, xs.length = k + 1 := ⟨xs.length - 1, by omega⟩
    have hel := ho.els h7
    have hfx : f j = some x := by rw [h7 j hjl]; exact hj
    rw [hk] at h1 h5 h7 hel hjl
    refine (c_Al_remove hE M t ar j k cap md f hjl h5 h6 hel h1 h3 x hfx).mono (fun v M1 q => ⟨q.1, ⟨md + 1, ?_, Or.inr ?_⟩, q.2.2.2⟩)
    · have hl : (xs.eraseIdx j).length = k := by rw [List.length_eraseIdx, if_pos (by omega)]; omega
      rw [hl]
      exact q.2.1
    · have hl : (xs.eraseIdx j).length = k := by rw [List.length_eraseIdx, if_pos (by omega)]; omega
      obtain ⟨g, g1, g2⟩ := q.2.2.1
      refine ⟨cap, g, g1, h4, by omega, h6, fun i hi => ?_⟩
      rw [hl] at hi
      rw [g2 i hi, List.getElem?_eraseIdx]
      by_cases hij : i < j
      · rw [if_pos hij, if_pos hij, h7 i (by omega)]
      · rw [if_neg hij, if_neg hij, h7 (i + 1) (by omega)]
end LST
/-- where a payment's account lies -/
def hb_acc (nb : Nat) (Ac : List (Nat × hbA)) (k : Int32) : Nat := if k = -1 then nb else ((Ac[k.toNatClampNeg]?).map Prod.fst).getD nb
def cR (cO : ClassId) (e0 : Nat) (M : hb_M) (x la lp nb ra rp : Nat) (ho pa tm : Int32) (Ac : List (Nat × hbA)) (Py : List (Nat × hbY)) : Prop :=
  M x = some (xE ho pa la lp nb tm) ∧ hb_lst cO e0 M la ra (Ac.map Prod.fst) ∧ hb_lst cO e0 M lp rp (Py.map Prod.fst) ∧ la ≠ lp ∧ (ra = rp → ra = e0) ∧ M e0 = none ∧ M nb = some (aE (-1) (0, 0, 0, 0, 0)) ∧
  (∀ (i a : Nat) (r : hbA), Ac[i]? = some (a, r) → M a = some (aE (nI i) r)) ∧ (∀ (i q : Nat) (r : hbY), Py[i]? = some (q, r) → M q = some (pE (hb_acc nb Ac r.2.1) r))
/-- the pure conditions: not too many, keys grow, accounts are there -/
def cOK (Ac : List (Nat × hbA)) (Py : List (Nat × hbY)) : Prop := Ac.length ≤ 16 ∧ Py.length ≤ 60 ∧ Py.Pairwise (fun p q => p.2.1 < q.2.1) ∧ ∀ q ∈ Py, q.2.2.1 = -1 ∨ ∃ k, k < Ac.length ∧ q.2.2.1 = nI k
end
section
/-! HOLDBOOK: reading lists; the private methods that only read -/
section CR
variable {l : Launch} {s0 : State} {D : va_G} {cI cJ cO : ClassId} {e0 mi : Nat} {M : hb_M} {x la lp nb ra rp : Nat} {ho pa tm : Int32} {Ac : List (Nat × hbA)} {Py : List (Nat × hbY)}
theorem c_ac_size (hE : hb_E l s0 D cI cJ cO e0 mi) (h : cR cO e0 M x la lp nb ra rp ho pa tm Ac Py) : hb_Met l D hb_cl s0 y_Al_size b_Al_size 1 (some .int) { frames := 0, cells := 0, slots := 0, locals := 0 } [.ref la] M (fun v M1 => v = some (.int (nI Ac.length)) ∧ M1 = M) := by
  have h2 := c_lst_size hE h.2.1
  rw [List.length_map] at h2
  exact h2
theorem c_py_size (hE : hb_E l s0 D cI cJ cO e0 mi) (h : cR cO e0 M x la lp nb ra rp ho pa tm Ac Py) : hb_Met l D hb_cl s0 y_Al_size b_Al_size 1 (some .int) { frames := 0, cells := 0, slots := 0, locals := 0 } [.ref lp] M (fun v M1 => v = some (.int (nI Py.length)) ∧ M1 = M) := by
  have h2 := c_lst_size hE h.2.2.1
  rw [List.length_map] at h2
  exact h2
theorem c_ac_get (hE : hb_E l s0 D cI cJ cO e0 mi) (h : cR cO e0 M x la lp nb ra rp ho pa tm Ac Py) {j a : Nat} {r : hbA} (hj : Ac[j]? = some (a, r)) : hb_Met l D hb_cl s0 y_Al_get b_Al_get 2 (some (.object "java/lang/Object")) { frames := 2, cells := 0, slots := 0, locals := 43 } [.ref la, .int (nI j)] M (fun v M1 => v = some (.ref a) ∧ M1 = M) :=
  c_lst_get hE h.2.1 (by rw [List.getElem?_map, hj]; rfl)
theorem c_py_get (hE : hb_E l s0 D cI cJ cO e0 mi) (h : cR cO e0 M x la lp nb ra rp ho pa tm Ac Py) {j q : Nat} {r : hbY} (hj : Py[j]? = some (q, r)) : hb_Met l D hb_cl s0 y_Al_get b_Al_get 2 (some (.object "java/lang/Object")) { frames := 2, cells := 0, slots := 0, locals := 43 } [.ref lp, .int (nI j)] M (fun v M1 => v = some (.ref q) ∧ M1 = M) :=
  c_lst_get hE h.2.2.1 (by rw [List.getElem?_map, hj]; rfl)
theorem cR.fla (h : cR cO e0 M x la lp nb ra rp ho pa tm Ac Py) : ∃ md, M la = some (.inr (3, [.ref ra, .int (nI Ac.length), .int md])) := by
  obtain ⟨md, h1, -⟩ := h.2.1
  rw [List.length_map] at h1
  exact ⟨md, h1⟩
theorem cR.flp (h : cR cO e0 M x la lp nb ra rp ho pa tm Ac Py) : ∃ md, M lp = some (.inr (3, [.ref rp, .int (nI Py.length), .int md])) := by
  obtain ⟨md, h1, -⟩ := h.2.2.1
  rw [List.length_map] at h1
  exact ⟨md, h1⟩
theorem cR.ac (h : cR cO e0 M x la lp nb ra rp ho pa tm Ac Py) {i a : Nat} {r : hbA} (hi : Ac[i]? = some (a, r)) : M a = some (aE (nI i) r) := h.2.2.2.2.2.2.2.1 i a r hi
theorem cR.py (h : cR cO e0 M x la lp nb ra rp ho pa tm Ac Py) {i q : Nat} {r : hbY} (hi : Py[i]? = some (q, r)) : M q = some (pE (hb_acc nb Ac r.2.1) r) := h.2.2.2.2.2.2.2.2 i q r hi
theorem hb_getL {α : Type} {L : List α} {j : Nat} (h : j < L.length) : ∃ a, L[j]? = some a := ⟨L[j], List.getElem?_eq_getElem h⟩
theorem hb_get2 {α β : Type} {L : List (α × β)} {j : Nat} (h : j < L.length) : ∃ a b, L[j]? = some (a, b) := ⟨L[j].1, L[j].2, List.getElem?_eq_getElem h⟩
theorem hb_tw {α : Type} {p : α → Bool} : ∀ {L : List α} {j : Nat}, (∀ i a, i < j → L[i]? = some a → p a = true) → j ≤ L.length → (∀ a, L[j]? = some a → p a = false) → (L.takeWhile p).length = j := by
  intro L
  induction L with
  | nil => intro j _ h2 _; simp at h2; simp [h2]
  | cons b L ih =>
    intro j h1 h2 h3
    cases j with
    | zero =>
      have := h3 b rfl
      simp [List.takeWhile, this]
    | succ j =>
      have hb := h1 0 b (by omega) rfl
      rw [List.takeWhile_cons, if_pos hb, List.length_cons, ih (fun i a hi ha => h1 (i + 1) a (by omega) ha) (by simpa using h2) (fun a ha => h3 a ha)]
end CR
/-- the place of the first payment whose key is not below k -/
def hb_pos (Py : List (Nat × hbY)) (k : Int32) : Nat := (Py.takeWhile (fun q => decide (q.2.1 < k))).length
theorem hb_pos_eq {Py : List (Nat × hbY)} {k : Int32} {j : Nat} (h1 : ∀ (i q : Nat) (r : hbY), i < j → Py[i]? = some (q, r) → r.1 < k) (h2 : j ≤ Py.length) (h3 : ∀ (q : Nat) (r : hbY), Py[j]? = some (q, r) → ¬ r.1 < k) : hb_pos Py k = j := hb_tw (fun i a hi ha => decide_eq_true (h1 i a.1 a.2 hi ha)) h2 (fun a ha => decide_eq_false (h3 a.1 a.2 ha))
theorem hb_pos_le (Py : List (Nat × hbY)) (k : Int32) : hb_pos Py k ≤ Py.length := by
  unfold hb_pos
  exact (List.takeWhile_sublist _).length_le
/-- the payment with this key, and its place -/
def hb_find (Py : List (Nat × hbY)) (k : Int32) : Option Nat := match Py[hb_pos Py k]? with
  | some q => if q.2.1 = k then some q.1 else none
  | none => none
set_option maxHeartbeats 4000000 in
set_option maxRecDepth 100000 in
/-- checkAccount -/
theorem c_Hb_checkAccount_ok {l : Launch} {s0 : State} {D : va_G} {cI cJ cO : ClassId} {e0 mi : Nat} (hE : hb_E l s0 D cI cJ cO e0 mi) (M : hb_M) (x la lp nb ra rp : Nat) (ho pa tm : Int32) (Ac : List (Nat × hbA)) (Py : List (Nat × hbY)) (h : cR cO e0 M x la lp nb ra rp ho pa tm Ac Py) (hk : cOK Ac Py) (k : Nat) (hk9 : k < Ac.length) : hb_Met l D hb_cl s0 y_Hb_checkAccount b_Hb_checkAccount 2 none { frames := 1, cells := 0, slots := 0, locals := 20 } [.ref x, .int (nI k)] M (fun v M1 => v = none ∧ M1 = M) := by
  refine hb_Met.of (by decide) (Nat.le_of_ble_eq_true rfl) ?_
  intro p e s m below meth c A hAe hX hz hP hD hA hS ls hl
  obtain ⟨hx, hb, hr, hml, hown, hlocks, hnm, hG, hnh⟩ := id hX
  have hown : s.vm.findClass "HoldBook" = some m.cls := hown
  have hts := hE.ts hG ([.ref x, .int (nI k)] : List Value).toArray
  have hK := hE.kn hG
  have hl : lv_has ls 2 [(0, .ref x), (1, .int (nI k))] := hl
  have fx := h.1
  obtain ⟨mda, fla⟩ := h.fla
  obtain ⟨mdp, flp⟩ := h.flp
  have hlA := hk.1
  have hlP := hk.2.1
  refine lv_iload_n hx hb d_Hb_checkAccount_0 rfl (lv_at hl 1 rfl) ?_
  refine lv_if_lt (tgt := 15) hx hb d_Hb_checkAccount_1 (by decide) (fun c1 => ?_) (fun c1 => ?_)
  · skip
    exact absurd c1 (nI_pos (by omega))
  · skip
    refine lv_iload_n hx hb d_Hb_checkAccount_4 rfl (lv_at hl 1 rfl) ?_
    refine lv_aload_n hx hb d_Hb_checkAccount_5 rfl (lv_at hl 0 rfl) ?_
    refine hb_get hx hb hts hown hC_Hb hK hP fx 2 (by decide) rfl fl_Hb_10 rfl d_Hb_checkAccount_6 ?_
    refine hb_callV (rest := [.int (nI k)]) hX hts hb_gd Y_Al_size (c_ac_size hE h) ml_Hb_55 im_Al_size se_Al_size hK fla hC_Al.1 hz hP hD hS hA rfl hl.1 rfl (Nat.le_of_ble_eq_true rfl) ⟨Nat.le_of_ble_eq_true rfl, Nat.le_of_ble_eq_true rfl⟩ ⟨Nat.le_of_ble_eq_true rfl, Nat.le_of_ble_eq_true rfl⟩ d_Hb_checkAccount_9 (fun v4 M2 H locs hq3 hP hD hS _ hkp => ?_)
    obtain ⟨ev5, eM6⟩ := hq3
    subst ev5
    rw [eM6] at hP hD
    refine W.eq (g2 := F0 m 12 ls [.int (nI Ac.length), .int (nI k)]) rfl ?_
    refine lv_icmp_lt (tgt := 25) hx hb d_Hb_checkAccount_12 (by decide) (fun c7 => ?_) (fun c7 => ?_)
    · skip
      exact hb_vret hAe hx hb hr hlocks hP hD hS (Nat.le_of_ble_eq_true rfl) (Nat.le_of_ble_eq_true rfl) (⟨rfl, rfl⟩) d_Hb_checkAccount_25
    · skip
      exact absurd (nI_lt hk9 (by omega)) c7
set_option maxHeartbeats 4000000 in
set_option maxRecDepth 100000 in
/-- checkAccount -/
theorem c_Hb_checkAccount_bad {l : Launch} {s0 : State} {D : va_G} {cI cJ cO : ClassId} {e0 mi : Nat} (hE : hb_E l s0 D cI cJ cO e0 mi) (M : hb_M) (x la lp nb ra rp : Nat) (ho pa tm : Int32) (Ac : List (Nat × hbA)) (Py : List (Nat × hbY)) (h : cR cO e0 M x la lp nb ra rp ho pa tm Ac Py) (hk : cOK Ac Py) (k : Int32) (hk9 : k < 0 ∨ nI Ac.length ≤ k) : hb_Thr l D hb_cl s0 y_Hb_checkAccount b_Hb_checkAccount 2 none { frames := 6, cells := 1, slots := 6, locals := 90 } [.ref x, .int k] M "java/lang/IllegalArgumentException" := by
  refine hb_Thr.of (by decide) (Nat.le_of_ble_eq_true rfl) ?_
  intro p e s m below meth c A hAe hX hz hP hD hA hS ls hl
  obtain ⟨hx, hb, hr, hml, hown, hlocks, hnm, hG, hnh⟩ := id hX
  have hown : s.vm.findClass "HoldBook" = some m.cls := hown
  have hts := hE.ts hG ([.ref x, .int k] : List Value).toArray
  have hK := hE.kn hG
  have hl : lv_has ls 2 [(0, .ref x), (1, .int k)] := hl
  have fx := h.1
  obtain ⟨mda, fla⟩ := h.fla
  obtain ⟨mdp, flp⟩ := h.flp
  have hlA := hk.1
  have hlP := hk.2.1
  refine lv_iload_n hx hb d_Hb_checkAccount_0 rfl (lv_at hl 1 rfl) ?_
  refine lv_if_lt (tgt := 15) hx hb d_Hb_checkAccount_1 (by decide) (fun c1 => ?_) (fun c1 => ?_)
  · skip
    exact hb_iae hE hAe hX hown hz hP hS hl.1 (List.mem_of_getElem? (i := 367) (by decide +kernel) : Cond.stringRef "HoldBook" 212 "there is no such account" ∈ lw_tbl) d_Hb_checkAccount_15 d_Hb_checkAccount_18 d_Hb_checkAccount_19 d_Hb_checkAccount_21 d_Hb_checkAccount_24 (Nat.le_of_ble_eq_true rfl) (Nat.le_of_ble_eq_true rfl) (Nat.le_of_ble_eq_true rfl) (Nat.le_of_ble_eq_true rfl) (Nat.le_of_ble_eq_true rfl) (Nat.le_of_ble_eq_true rfl)
  · skip
    refine lv_iload_n hx hb d_Hb_checkAccount_4 rfl (lv_at hl 1 rfl) ?_
    refine lv_aload_n hx hb d_Hb_checkAccount_5 rfl (lv_at hl 0 rfl) ?_
    refine hb_get hx hb hts hown hC_Hb hK hP fx 2 (by decide) rfl fl_Hb_10 rfl d_Hb_checkAccount_6 ?_
    refine hb_callV (rest := [.int k]) hX hts hb_gd Y_Al_size (c_ac_size hE h) ml_Hb_55 im_Al_size se_Al_size hK fla hC_Al.1 hz hP hD hS hA rfl hl.1 rfl (Nat.le_of_ble_eq_true rfl) ⟨Nat.le_of_ble_eq_true rfl, Nat.le_of_ble_eq_true rfl⟩ ⟨Nat.le_of_ble_eq_true rfl, Nat.le_of_ble_eq_true rfl⟩ d_Hb_checkAccount_9 (fun v4 M2 H locs hq3 hP hD hS _ hkp => ?_)
    obtain ⟨ev5, eM6⟩ := hq3
    subst ev5
    rw [eM6] at hP hD
    refine W.eq (g2 := F0 m 12 ls [.int (nI Ac.length), .int k]) rfl ?_
    refine lv_icmp_lt (tgt := 25) hx hb d_Hb_checkAccount_12 (by decide) (fun c7 => ?_) (fun c7 => ?_)
    · skip
      exact absurd hk9 (by intro z; rcases z with z | z; exact absurd z (by assumption); exact absurd c7 (hb_ngti z))
    · skip
      exact hb_iae hE hAe hX hown hz hP hS hl.1 (List.mem_of_getElem? (i := 367) (by decide +kernel) : Cond.stringRef "HoldBook" 212 "there is no such account" ∈ lw_tbl) d_Hb_checkAccount_15 d_Hb_checkAccount_18 d_Hb_checkAccount_19 d_Hb_checkAccount_21 d_Hb_checkAccount_24 (Nat.le_of_ble_eq_true rfl) (Nat.le_of_ble_eq_true rfl) (Nat.le_of_ble_eq_true rfl) (Nat.le_of_ble_eq_true rfl) (Nat.le_of_ble_eq_true rfl) (Nat.le_of_ble_eq_true rfl)
set_option maxHeartbeats 4000000 in
set_option maxRecDepth 100000 in
/-- placeOf(k) -/
theorem c_Hb_placeOf {l : Launch} {s0 : State} {D : va_G} {cI cJ cO : ClassId} {e0 mi : Nat} (hE : hb_E l s0 D cI cJ cO e0 mi) (M : hb_M) (x la lp nb ra rp : Nat) (ho pa tm : Int32) (Ac : List (Nat × hbA)) (Py : List (Nat × hbY)) (h : cR cO e0 M x la lp nb ra rp ho pa tm Ac Py) (hk : cOK Ac Py) (k : Int32) : hb_Met l D hb_cl s0 y_Hb_placeOf b_Hb_placeOf 3 (some .int) { frames := 3, cells := 0, slots := 0, locals := 64 } [.ref x, .int k] M (fun v M1 => v = some (.int (nI (hb_pos Py k))) ∧ M1 = M) := by
  refine hb_Met.of (by decide) (Nat.le_of_ble_eq_true rfl) ?_
  intro p e s m below meth c A hAe hX hz hP hD hA hS ls hl
  obtain ⟨hx, hb, hr, hml, hown, hlocks, hnm, hG, hnh⟩ := id hX
  have hown : s.vm.findClass "HoldBook" = some m.cls := hown
  have hts := hE.ts hG ([.ref x, .int k] : List Value).toArray
  have hK := hE.kn hG
  have hl : lv_has ls 3 [(0, .ref x), (1, .int k)] := hl
  have fx := h.1
  obtain ⟨mda, fla⟩ := h.fla
  obtain ⟨mdp, flp⟩ := h.flp
  have hlA := hk.1
  have hlP := hk.2.1
  refine lv_iconst (v := 0) hx hb d_Hb_placeOf_0 (by decide) ?_
  refine lv_istore_n (lv' := [(2, .int 0), (0, .ref x), (1, .int k)]) hx hb d_Hb_placeOf_1 rfl hl (by decide) rfl (fun ls hl => ?_)
  have loop : ∀ (d j : Nat), Py.length - j < d → j ≤ Py.length → (∀ (i q : Nat) (r : hbY), i < j → Py[i]? = some (q, r) → r.1 < k) → ∀ (H : Heap) (locs : List Loc), hb_P D hb_cl M H → hb_D A M → va_S A s.heap H locs → ∀ ls : Array Slot, lv_has ls 3 [(2, .int (nI j)), (0, .ref x), (1, .int k)] → W p l e ({ frames := 3, cells := 0, slots := 0, locals := 64 } : Room) s m ([.ref x, .int k] : List Value).toArray below meth c H locs 0 0 (MQ below (hb_Post D hb_cl s.heap.size M (fun v M1 => v = some (.int (nI (hb_pos Py k))) ∧ M1 = M)) ([.ref x, .int k] : List Value).toArray s 0 0 A) (F0 m 2 ls []) := by
    intro d
    induction d with
    | zero => intro j h9; exact absurd h9 (by omega)
    | succ d ih =>
      intro j hd hjn hinv H locs hP hD hS ls hl
      refine lv_iload_n hx hb d_Hb_placeOf_2 rfl (lv_at hl 0 rfl) ?_
      refine lv_aload_n hx hb d_Hb_placeOf_3 rfl (lv_at hl 1 rfl) ?_
      refine hb_get hx hb hts hown hC_Hb hK hP fx 3 (by decide) rfl fl_Hb_16 rfl d_Hb_placeOf_4 ?_
      refine hb_callV (rest := [.int (nI j)]) hX hts hb_gd Y_Al_size (c_py_size hE h) ml_Hb_55 im_Al_size se_Al_size hK flp hC_Al.1 hz hP hD hS hA rfl hl.1 rfl (Nat.le_of_ble_eq_true rfl) ⟨Nat.le_of_ble_eq_true rfl, Nat.le_of_ble_eq_true rfl⟩ ⟨Nat.le_of_ble_eq_true rfl, Nat.le_of_ble_eq_true rfl⟩ d_Hb_placeOf_7 (fun v3 M1 H locs hq2 hP hD hS _ hkp => ?_)
      obtain ⟨ev4, eM5⟩ := hq2
      subst ev4
      rw [eM5] at hP hD
      refine W.eq (g2 := F0 m 10 ls [.int (nI Py.length), .int (nI j)]) rfl ?_
      refine lv_icmp_ge (tgt := 37) hx hb d_Hb_placeOf_10 (by decide) (fun c6 => ?_) (fun c6 => ?_)
      · skip
        have c6n := hb_ngti c6
        refine lv_iload_n hx hb d_Hb_placeOf_37 rfl (lv_at hl 0 rfl) ?_
        exact hb_iret hAe hx hb hr hlocks hP hD hS (Nat.le_of_ble_eq_true rfl) (Nat.le_of_ble_eq_true rfl) (⟨by rw [hb_pos_eq hinv hjn (fun q r hq => absurd (List.getElem?_eq_some_iff.mp hq).1 (by have := (nI_leI (by omega) (by omega)).mp c6; omega))], rfl⟩) d_Hb_placeOf_38
      · skip
        have c6n := hb_gti c6
        refine lv_aload_n hx hb d_Hb_placeOf_13 rfl (lv_at hl 1 rfl) ?_
        refine hb_get hx hb hts hown hC_Hb hK hP fx 3 (by decide) rfl fl_Hb_16 rfl d_Hb_placeOf_14 ?_
        refine lv_iload_n hx hb d_Hb_placeOf_17 rfl (lv_at hl 0 rfl) ?_
        obtain ⟨q0, r0, hj0⟩ := hb_get2 (L := Py) (j := j) (Nat.lt_of_not_le (fun z => c6 (nI_le z (by omega))))
        have hjlt := (List.getElem?_eq_some_iff.mp hj0).1
        refine hb_callV (rest := []) hX hts hb_gd Y_Al_get (c_py_get hE h hj0) ml_Hb_87 im_Al_get se_Al_get hK flp hC_Al.1 hz hP hD hS hA rfl hl.1 rfl (Nat.le_of_ble_eq_true rfl) ⟨Nat.le_of_ble_eq_true rfl, Nat.le_of_ble_eq_true rfl⟩ ⟨Nat.le_of_ble_eq_true rfl, Nat.le_of_ble_eq_true rfl⟩ d_Hb_placeOf_18 (fun v9 M7 H locs hq8 hP hD hS _ hkp => ?_)
        obtain ⟨ev10, eM11⟩ := hq8
        subst ev10
        rw [eM11] at hP hD
        have fq0 := h.py hj0
        refine W.eq (g2 := F0 m 21 ls [.ref q0]) rfl ?_
        refine va_castS hx hb hown (hts _ kl_Hb_97) (hK.1 1 _ rfl).2 (va_recv hK (hP.one fq0) (ci := 1) (q0 := 0) rfl rfl) d_Hb_placeOf_21 ?_
        refine hb_get hx hb hts hown hC_Pay hK hP fq0 0 (by decide) rfl fl_Hb_189 rfl d_Hb_placeOf_24 ?_
        refine lv_iload_n hx hb d_Hb_placeOf_27 rfl (lv_at hl 2 rfl) ?_
        refine lv_icmp_ge (tgt := 37) hx hb d_Hb_placeOf_28 (by decide) (fun c12 => ?_) (fun c12 => ?_)
        · skip
          have c12n := hb_ngti c12
          refine lv_iload_n hx hb d_Hb_placeOf_37 rfl (lv_at hl 0 rfl) ?_
          exact hb_iret hAe hx hb hr hlocks hP hD hS (Nat.le_of_ble_eq_true rfl) (Nat.le_of_ble_eq_true rfl) (⟨by rw [hb_pos_eq hinv hjn (fun q r hq => by rw [hj0] at hq; cases hq; exact hb_ngti c12)], rfl⟩) d_Hb_placeOf_38
        · skip
          have c12n := hb_gti c12
          refine lv_iinc (v := (nI j) + 1) (lv' := [(2, .int ((nI j) + 1)), (0, .ref x), (1, .int k)]) hx hb d_Hb_placeOf_31 hl (k := 0) rfl (by rfl) (by decide) rfl (fun ls hl => ?_)
          refine lv_goto (tgt := 2) hx hb d_Hb_placeOf_34 (by decide) ?_
          have hl : lv_has ls 3 [(2, .int (nI (j + 1))), (0, .ref x), (1, .int k)] := by rw [← nI_1]; exact lv_sub hl [0, 1, 2] rfl
          exact ih (j + 1) (by omega) (by omega) (fun i q r hi hq => by by_cases z : i = j; subst z; rw [hj0] at hq; cases hq; exact hb_gti c12; exact hinv i q r (by omega) hq) _ _ hP hD hS _ hl
  exact loop (Py.length + 1) 0 (by omega) (by omega) (fun i q r hi => absurd hi (by omega)) _ _ hP hD hS _ (lv_sub hl [0, 1, 2] rfl)
end
section
/-! HOLDBOOK: methods that only read -/
section CR2
variable {Ac : List (Nat × hbA)} {Py : List (Nat × hbY)}
theorem hb_pw {Py : List (Nat × hbY)} (h : Py.Pairwise (fun p q => p.2.1 < q.2.1)) {i j q q' : Nat} {r r' : hbY} (hij : i < j) (hi : Py[i]? = some (q, r)) (hj : Py[j]? = some (q', r')) : r.1 < r'.1 := by
  obtain ⟨h1, e1⟩ := List.getElem?_eq_some_iff.mp hi
  obtain ⟨h2, e2⟩ := List.getElem?_eq_some_iff.mp hj
  have := List.pairwise_iff_getElem.mp h i j h1 h2 hij
  rw [e1, e2] at this
  exact this
theorem hb_lti {x y : Int32} (h : x < y) : ¬ y < x := by
  rw [Int32.lt_iff_toInt_lt] at h ⊢
  omega
theorem hb_irr (x : Int32) : ¬ x < x := by
  rw [Int32.lt_iff_toInt_lt]
  omega
theorem hb_pos_at (hk : cOK Ac Py) {i q : Nat} {r : hbY} (hi : Py[i]? = some (q, r)) : hb_pos Py r.1 = i :=
  hb_pos_eq (fun j q' r' hj hq => hb_pw hk.2.2.1 hj hq hi) (Nat.le_of_lt (List.getElem?_eq_some_iff.mp hi).1) (fun q' r' hq => by rw [hi] at hq; cases hq; exact hb_irr _)
end CR2
set_option maxHeartbeats 4000000 in
set_option maxRecDepth 100000 in
/-- find(k), there -/
theorem c_Hb_find_at {l : Launch} {s0 : State} {D : va_G} {cI cJ cO : ClassId} {e0 mi : Nat} (hE : hb_E l s0 D cI cJ cO e0 mi) (M : hb_M) (x la lp nb ra rp : Nat) (ho pa tm : Int32) (Ac : List (Nat × hbA)) (Py : List (Nat × hbY)) (h : cR cO e0 M x la lp nb ra rp ho pa tm Ac Py) (hk : cOK Ac Py) (i q : Nat) (r : hbY) (hi : Py[i]? = some (q, r)) : hb_Met l D hb_cl s0 y_Hb_find b_Hb_find 4 (some (.object "HoldBook$Payment")) { frames := 4, cells := 0, slots := 0, locals := 86 } [.ref x, .int r.1] M (fun v M1 => v = some (.ref q) ∧ M1 = M) := by
  refine hb_Met.of (by decide) (Nat.le_of_ble_eq_true rfl) ?_
  intro p e s m below meth c A hAe hX hz hP hD hA hS ls hl
  obtain ⟨hx, hb, hr, hml, hown, hlocks, hnm, hG, hnh⟩ := id hX
  have hown : s.vm.findClass "HoldBook" = some m.cls := hown
  have hts := hE.ts hG ([.ref x, .int r.1] : List Value).toArray
  have hK := hE.kn hG
  have hl : lv_has ls 4 [(0, .ref x), (1, .int r.1)] := hl
  have fx := h.1
  obtain ⟨mda, fla⟩ := h.fla
  obtain ⟨mdp, flp⟩ := h.flp
  have hlA := hk.1
  have hlP := hk.2.1
  refine lv_aload_n hx hb d_Hb_find_0 rfl (lv_at hl 0 rfl) ?_
  refine lv_iload_n hx hb d_Hb_find_1 rfl (lv_at hl 1 rfl) ?_
  refine hb_callV (rest := []) hX hts hb_gd Y_Hb_placeOf (c_Hb_placeOf hE M x la lp nb ra rp ho pa tm Ac Py h hk r.1) ml_Hb_214 im_Hb_placeOf se_Hb_placeOf hK fx hC_Hb.1 hz hP hD hS hA rfl hl.1 rfl (Nat.le_of_ble_eq_true rfl) ⟨Nat.le_of_ble_eq_true rfl, Nat.le_of_ble_eq_true rfl⟩ ⟨Nat.le_of_ble_eq_true rfl, Nat.le_of_ble_eq_true rfl⟩ d_Hb_find_2 (fun v3 M1 H locs hq2 hP hD hS _ hkp => ?_)
  obtain ⟨ev4, eM5⟩ := hq2
  subst ev4
  rw [eM5] at hP hD
  refine W.eq (g2 := F0 m 5 ls [.int (nI (hb_pos Py r.1))]) rfl ?_
  have hil := (List.getElem?_eq_some_iff.mp hi).1
  refine W.eq (g2 := F0 m 5 ls [.int (nI i)]) (by rw [hb_pos_at hk hi]) ?_
  refine lv_istore_n (lv' := [(2, .int (nI i)), (0, .ref x), (1, .int r.1)]) hx hb d_Hb_find_5 rfl hl (by decide) rfl (fun ls hl => ?_)
  refine lv_iload_n hx hb d_Hb_find_6 rfl (lv_at hl 0 rfl) ?_
  refine lv_aload_n hx hb d_Hb_find_7 rfl (lv_at hl 1 rfl) ?_
  refine hb_get hx hb hts hown hC_Hb hK hP fx 3 (by decide) rfl fl_Hb_16 rfl d_Hb_find_8 ?_
  refine hb_callV (rest := [.int (nI i)]) hX hts hb_gd Y_Al_size (c_py_size hE h) ml_Hb_55 im_Al_size se_Al_size hK flp hC_Al.1 hz hP hD hS hA rfl hl.1 rfl (Nat.le_of_ble_eq_true rfl) ⟨Nat.le_of_ble_eq_true rfl, Nat.le_of_ble_eq_true rfl⟩ ⟨Nat.le_of_ble_eq_true rfl, Nat.le_of_ble_eq_true rfl⟩ d_Hb_find_11 (fun v8 M6 H locs hq7 hP hD hS _ hkp => ?_)
  obtain ⟨ev9, eM10⟩ := hq7
  subst ev9
  rw [eM10] at hP hD
  refine W.eq (g2 := F0 m 14 ls [.int (nI Py.length), .int (nI i)]) rfl ?_
  refine lv_icmp_lt (tgt := 19) hx hb d_Hb_find_14 (by decide) (fun c11 => ?_) (fun c11 => ?_)
  · skip
    refine lv_aload_n hx hb d_Hb_find_19 rfl (lv_at hl 1 rfl) ?_
    refine hb_get hx hb hts hown hC_Hb hK hP fx 3 (by decide) rfl fl_Hb_16 rfl d_Hb_find_20 ?_
    refine lv_iload_n hx hb d_Hb_find_23 rfl (lv_at hl 0 rfl) ?_
    refine hb_callV (rest := []) hX hts hb_gd Y_Al_get (c_py_get hE h hi) ml_Hb_87 im_Al_get se_Al_get hK flp hC_Al.1 hz hP hD hS hA rfl hl.1 rfl (Nat.le_of_ble_eq_true rfl) ⟨Nat.le_of_ble_eq_true rfl, Nat.le_of_ble_eq_true rfl⟩ ⟨Nat.le_of_ble_eq_true rfl, Nat.le_of_ble_eq_true rfl⟩ d_Hb_find_24 (fun v14 M12 H locs hq13 hP hD hS _ hkp => ?_)
    obtain ⟨ev15, eM16⟩ := hq13
    subst ev15
    rw [eM16] at hP hD
    have fq := h.py hi
    refine W.eq (g2 := F0 m 27 ls [.ref q]) rfl ?_
    refine va_castS hx hb hown (hts _ kl_Hb_97) (hK.1 1 _ rfl).2 (va_recv hK (hP.one fq) (ci := 1) (q0 := 0) rfl rfl) d_Hb_find_27 ?_
    refine lv_astore_n (lv' := [(3, .ref q), (2, .int (nI i)), (0, .ref x), (1, .int r.1)]) hx hb d_Hb_find_30 rfl hl (by decide) rfl (fun ls hl => ?_)
    refine lv_aload_n hx hb d_Hb_find_31 rfl (lv_at hl 0 rfl) ?_
    refine hb_get hx hb hts hown hC_Pay hK hP fq 0 (by decide) rfl fl_Hb_189 rfl d_Hb_find_32 ?_
    refine lv_iload_n hx hb d_Hb_find_35 rfl (lv_at hl 3 rfl) ?_
    refine lv_icmp_ne (tgt := 43) hx hb d_Hb_find_36 (by decide) (fun c17 => ?_) (fun c17 => ?_)
    · skip
      exact absurd rfl c17
    · skip
      refine lv_aload_n hx hb d_Hb_find_39 rfl (lv_at hl 0 rfl) ?_
      refine lv_goto (tgt := 44) hx hb d_Hb_find_40 (by decide) ?_
      exact hb_aret hAe hx hb hr (Or.inl ⟨_, rfl⟩) (Or.inr ⟨_, rfl⟩) hlocks hP hD hS (Nat.le_of_ble_eq_true rfl) (Nat.le_of_ble_eq_true rfl) (⟨rfl, rfl⟩) d_Hb_find_44
  · skip
    exact absurd (nI_lt hil (by omega)) c11
set_option maxHeartbeats 4000000 in
set_option maxRecDepth 100000 in
/-- find(k), not there -/
theorem c_Hb_find_no {l : Launch} {s0 : State} {D : va_G} {cI cJ cO : ClassId} {e0 mi : Nat} (hE : hb_E l s0 D cI cJ cO e0 mi) (M : hb_M) (x la lp nb ra rp : Nat) (ho pa tm : Int32) (Ac : List (Nat × hbA)) (Py : List (Nat × hbY)) (h : cR cO e0 M x la lp nb ra rp ho pa tm Ac Py) (hk : cOK Ac Py) (k : Int32) (hno : ∀ (i q : Nat) (r : hbY), Py[i]? = some (q, r) → r.1 ≠ k) : hb_Met l D hb_cl s0 y_Hb_find b_Hb_find 4 (some (.object "HoldBook$Payment")) { frames := 4, cells := 0, slots := 0, locals := 86 } [.ref x, .int k] M (fun v M1 => v = some .null ∧ M1 = M) := by
  refine hb_Met.of (by decide) (Nat.le_of_ble_eq_true rfl) ?_
  intro p e s m below meth c A hAe hX hz hP hD hA hS ls hl
  obtain ⟨hx, hb, hr, hml, hown, hlocks, hnm, hG, hnh⟩ := id hX
  have hown : s.vm.findClass "HoldBook" = some m.cls := hown
  have hts := hE.ts hG ([.ref x, .int k] : List Value).toArray
  have hK := hE.kn hG
  have hl : lv_has ls 4 [(0, .ref x), (1, .int k)] := hl
  have fx := h.1
  obtain ⟨mda, fla⟩ := h.fla
  obtain ⟨mdp, flp⟩ := h.flp
  have hlA := hk.1
  have hlP := hk.2.1
  refine lv_aload_n hx hb d_Hb_find_0 rfl (lv_at hl 0 rfl) ?_
  refine lv_iload_n hx hb d_Hb_find_1 rfl (lv_at hl 1 rfl) ?_
  refine hb_callV (rest := []) hX hts hb_gd Y_Hb_placeOf (c_Hb_placeOf hE M x la lp nb ra rp ho pa tm Ac Py h hk k) ml_Hb_214 im_Hb_placeOf se_Hb_placeOf hK fx hC_Hb.1 hz hP hD hS hA rfl hl.1 rfl (Nat.le_of_ble_eq_true rfl) ⟨Nat.le_of_ble_eq_true rfl, Nat.le_of_ble_eq_true rfl⟩ ⟨Nat.le_of_ble_eq_true rfl, Nat.le_of_ble_eq_true rfl⟩ d_Hb_find_2 (fun v3 M1 H locs hq2 hP hD hS _ hkp => ?_)
  obtain ⟨ev4, eM5⟩ := hq2
  subst ev4
  rw [eM5] at hP hD
  refine W.eq (g2 := F0 m 5 ls [.int (nI (hb_pos Py k))]) rfl ?_
  refine lv_istore_n (lv' := [(2, .int (nI (hb_pos Py k))), (0, .ref x), (1, .int k)]) hx hb d_Hb_find_5 rfl hl (by decide) rfl (fun ls hl => ?_)
  refine lv_iload_n hx hb d_Hb_find_6 rfl (lv_at hl 0 rfl) ?_
  refine lv_aload_n hx hb d_Hb_find_7 rfl (lv_at hl 1 rfl) ?_
  refine hb_get hx hb hts hown hC_Hb hK hP fx 3 (by decide) rfl fl_Hb_16 rfl d_Hb_find_8 ?_
  refine hb_callV (rest := [.int (nI (hb_pos Py k))]) hX hts hb_gd Y_Al_size (c_py_size hE h) ml_Hb_55 im_Al_size se_Al_size hK flp hC_Al.1 hz hP hD hS hA rfl hl.1 rfl (Nat.le_of_ble_eq_true rfl) ⟨Nat.le_of_ble_eq_true rfl, Nat.le_of_ble_eq_true rfl⟩ ⟨Nat.le_of_ble_eq_true rfl, Nat.le_of_ble_eq_true rfl⟩ d_Hb_find_11 (fun v8 M6 H locs hq7 hP hD hS _ hkp => ?_)
  obtain ⟨ev9, eM10⟩ := hq7
  subst ev9
  rw [eM10] at hP hD
  refine W.eq (g2 := F0 m 14 ls [.int (nI Py.length), .int (nI (hb_pos Py k))]) rfl ?_
  refine lv_icmp_lt (tgt := 19) hx hb d_Hb_find_14 (by decide) (fun c11 => ?_) (fun c11 => ?_)
  · skip
    refine lv_aload_n hx hb d_Hb_find_19 rfl (lv_at hl 1 rfl) ?_
    refine hb_get hx hb hts hown hC_Hb hK hP fx 3 (by decide) rfl fl_Hb_16 rfl d_Hb_find_20 ?_
    refine lv_iload_n hx hb d_Hb_find_23 rfl (lv_at hl 0 rfl) ?_
    obtain ⟨q0, r0, hj0⟩ := hb_get2 (L := Py) (j := hb_pos Py k) (Nat.lt_of_not_le (fun z => nI_nlt z (by have := hb_pos_le Py k; omega) c11))
    refine hb_callV (rest := []) hX hts hb_gd Y_Al_get (c_py_get hE h hj0) ml_Hb_87 im_Al_get se_Al_get hK flp hC_Al.1 hz hP hD hS hA rfl hl.1 rfl (Nat.le_of_ble_eq_true rfl) ⟨Nat.le_of_ble_eq_true rfl, Nat.le_of_ble_eq_true rfl⟩ ⟨Nat.le_of_ble_eq_true rfl, Nat.le_of_ble_eq_true rfl⟩ d_Hb_find_24 (fun v14 M12 H locs hq13 hP hD hS _ hkp => ?_)
    obtain ⟨ev15, eM16⟩ := hq13
    subst ev15
    rw [eM16] at hP hD
    have fq0 := h.py hj0
    refine W.eq (g2 := F0 m 27 ls [.ref q0]) rfl ?_
    refine va_castS hx hb hown (hts _ kl_Hb_97) (hK.1 1 _ rfl).2 (va_recv hK (hP.one fq0) (ci := 1) (q0 := 0) rfl rfl) d_Hb_find_27 ?_
    refine lv_astore_n (lv' := [(3, .ref q0), (2, .int (nI (hb_pos Py k))), (0, .ref x), (1, .int k)]) hx hb d_Hb_find_30 rfl hl (by decide) rfl (fun ls hl => ?_)
    refine lv_aload_n hx hb d_Hb_find_31 rfl (lv_at hl 0 rfl) ?_
    refine hb_get hx hb hts hown hC_Pay hK hP fq0 0 (by decide) rfl fl_Hb_189 rfl d_Hb_find_32 ?_
    refine lv_iload_n hx hb d_Hb_find_35 rfl (lv_at hl 3 rfl) ?_
    refine lv_icmp_ne (tgt := 43) hx hb d_Hb_find_36 (by decide) (fun c17 => ?_) (fun c17 => ?_)
    · skip
      refine lv_null hx hb d_Hb_find_43 ?_
      exact hb_aret hAe hx hb hr (Or.inl ⟨_, rfl⟩) (Or.inl rfl) hlocks hP hD hS (Nat.le_of_ble_eq_true rfl) (Nat.le_of_ble_eq_true rfl) (⟨rfl, rfl⟩) d_Hb_find_44
    · skip
      exact absurd c17 (hno _ _ _ hj0)
  · skip
    refine lv_null hx hb d_Hb_find_17 ?_
    exact hb_aret hAe hx hb hr (Or.inl ⟨_, rfl⟩) (Or.inl rfl) hlocks hP hD hS (Nat.le_of_ble_eq_true rfl) (Nat.le_of_ble_eq_true rfl) (⟨rfl, rfl⟩) d_Hb_find_18
set_option maxHeartbeats 4000000 in
set_option maxRecDepth 100000 in
/-- isLongDone -/
theorem c_Hb_isLongDone {l : Launch} {s0 : State} {D : va_G} {cI cJ cO : ClassId} {e0 mi : Nat} (hE : hb_E l s0 D cI cJ cO e0 mi) (M : hb_M) (x la lp nb : Nat) (ho pa tm : Int32) (fx : M x = some (xE ho pa la lp nb tm)) (q a : Nat) (r : hbY) (fq : M q = some (pE a r)) : hb_Met l D hb_cl s0 y_Hb_isLongDone b_Hb_isLongDone 2 (some .boolean) { frames := 0, cells := 0, slots := 0, locals := 0 } [.ref x, .ref q] M (fun v M1 => v = some (.int (if (r.2.2.1 = 3 ∧ pa < tm - r.2.2.2.2.2.2.1) then 1 else 0)) ∧ M1 = M) := by
  refine hb_Met.of (by decide) (Nat.le_of_ble_eq_true rfl) ?_
  intro p e s m below meth c A hAe hX hz hP hD hA hS ls hl
  obtain ⟨hx, hb, hr, hml, hown, hlocks, hnm, hG, hnh⟩ := id hX
  have hown : s.vm.findClass "HoldBook" = some m.cls := hown
  have hts := hE.ts hG ([.ref x, .ref q] : List Value).toArray
  have hK := hE.kn hG
  have hl : lv_has ls 2 [(0, .ref x), (1, .ref q)] := hl
  refine lv_aload_n hx hb d_Hb_isLongDone_0 rfl (lv_at hl 1 rfl) ?_
  refine hb_get hx hb hts hown hC_Pay hK hP fq 2 (by decide) rfl fl_Hb_122 rfl d_Hb_isLongDone_1 ?_
  refine lv_iconst (v := 3) hx hb d_Hb_isLongDone_4 (by decide) ?_
  refine lv_icmp_ne (tgt := 28) hx hb d_Hb_isLongDone_5 (by decide) (fun c1 => ?_) (fun c1 => ?_)
  · skip
    refine lv_iconst (v := 0) hx hb d_Hb_isLongDone_28 (by decide) ?_
    exact hb_zret hAe hx hb hr (by decide) hlocks hP hD hS (Nat.le_of_ble_eq_true rfl) (Nat.le_of_ble_eq_true rfl) (⟨by first | (rw [if_pos ⟨by assumption, by assumption⟩]) | (rw [if_neg (fun h => absurd h.1 (by assumption))]) | (rw [if_neg (fun h => absurd h.2 (by assumption))]), rfl⟩) d_Hb_isLongDone_29
  · skip
    refine lv_aload_n hx hb d_Hb_isLongDone_8 rfl (lv_at hl 0 rfl) ?_
    refine hb_get hx hb hts hown hC_Hb hK hP fx 5 (by decide) rfl fl_Hb_28 rfl d_Hb_isLongDone_9 ?_
    refine lv_aload_n hx hb d_Hb_isLongDone_12 rfl (lv_at hl 1 rfl) ?_
    refine hb_get hx hb hts hown hC_Pay hK hP fq 6 (by decide) rfl fl_Hb_220 rfl d_Hb_isLongDone_13 ?_
    refine lv_isub hx hb d_Hb_isLongDone_16 ?_
    refine lv_aload_n hx hb d_Hb_isLongDone_17 rfl (lv_at hl 0 rfl) ?_
    refine hb_get hx hb hts hown hC_Hb hK hP fx 1 (by decide) rfl fl_Hb_39 rfl d_Hb_isLongDone_18 ?_
    refine lv_icmp_le (tgt := 28) hx hb d_Hb_isLongDone_21 (by decide) (fun c2 => ?_) (fun c2 => ?_)
    · skip
      have c2n := hb_ngti c2
      refine lv_iconst (v := 0) hx hb d_Hb_isLongDone_28 (by decide) ?_
      exact hb_zret hAe hx hb hr (by decide) hlocks hP hD hS (Nat.le_of_ble_eq_true rfl) (Nat.le_of_ble_eq_true rfl) (⟨by first | (rw [if_pos ⟨by assumption, by assumption⟩]) | (rw [if_neg (fun h => absurd h.1 (by assumption))]) | (rw [if_neg (fun h => absurd h.2 (by assumption))]), rfl⟩) d_Hb_isLongDone_29
    · skip
      have c2n := hb_gti c2
      refine lv_iconst (v := 1) hx hb d_Hb_isLongDone_24 (by decide) ?_
      refine lv_goto (tgt := 29) hx hb d_Hb_isLongDone_25 (by decide) ?_
      exact hb_zret hAe hx hb hr (by decide) hlocks hP hD hS (Nat.le_of_ble_eq_true rfl) (Nat.le_of_ble_eq_true rfl) (⟨by first | (rw [if_pos ⟨by assumption, by assumption⟩]) | (rw [if_neg (fun h => absurd h.1 (by assumption))]) | (rw [if_neg (fun h => absurd h.2 (by assumption))]), rfl⟩) d_Hb_isLongDone_29
set_option maxHeartbeats 4000000 in
set_option maxRecDepth 100000 in
/-- isOver -/
theorem c_Hb_isOver {l : Launch} {s0 : State} {D : va_G} {cI cJ cO : ClassId} {e0 mi : Nat} (hE : hb_E l s0 D cI cJ cO e0 mi) (M : hb_M) (x la lp nb : Nat) (ho pa tm : Int32) (fx : M x = some (xE ho pa la lp nb tm)) (q a : Nat) (r : hbY) (fq : M q = some (pE a r)) : hb_Met l D hb_cl s0 y_Hb_isOver b_Hb_isOver 2 (some .boolean) { frames := 1, cells := 0, slots := 0, locals := 21 } [.ref x, .ref q] M (fun v M1 => v = some (.int (if (if r.2.2.2.2.2.2.2.1 = 0 then (r.2.2.1 = 2 ∨ (r.2.2.1 = 3 ∧ pa < tm - r.2.2.2.2.2.2.1)) else (r.2.2.2.2.2.2.2.1 = 3 ∨ r.2.2.2.2.2.2.2.1 = 4)) then 1 else 0)) ∧ M1 = M) := by
  refine hb_Met.of (by decide) (Nat.le_of_ble_eq_true rfl) ?_
  intro p e s m below meth c A hAe hX hz hP hD hA hS ls hl
  obtain ⟨hx, hb, hr, hml, hown, hlocks, hnm, hG, hnh⟩ := id hX
  have hown : s.vm.findClass "HoldBook" = some m.cls := hown
  have hts := hE.ts hG ([.ref x, .ref q] : List Value).toArray
  have hK := hE.kn hG
  have hl : lv_has ls 2 [(0, .ref x), (1, .ref q)] := hl
  refine lv_aload_n hx hb d_Hb_isOver_0 rfl (lv_at hl 1 rfl) ?_
  refine hb_get hx hb hts hown hC_Pay hK hP fq 7 (by decide) rfl fl_Hb_153 rfl d_Hb_isOver_1 ?_
  refine lv_if_ne (tgt := 29) hx hb d_Hb_isOver_4 (by decide) (fun c1 => ?_) (fun c1 => ?_)
  · skip
    refine lv_aload_n hx hb d_Hb_isOver_29 rfl (lv_at hl 1 rfl) ?_
    refine hb_get hx hb hts hown hC_Pay hK hP fq 7 (by decide) rfl fl_Hb_153 rfl d_Hb_isOver_30 ?_
    refine lv_iconst (v := 3) hx hb d_Hb_isOver_33 (by decide) ?_
    refine lv_icmp_eq (tgt := 45) hx hb d_Hb_isOver_34 (by decide) (fun c2 => ?_) (fun c2 => ?_)
    · skip
      refine lv_iconst (v := 1) hx hb d_Hb_isOver_45 (by decide) ?_
      refine lv_goto (tgt := 50) hx hb d_Hb_isOver_46 (by decide) ?_
      exact hb_zret hAe hx hb hr (by decide) hlocks hP hD hS (Nat.le_of_ble_eq_true rfl) (Nat.le_of_ble_eq_true rfl) (⟨by simp_all, rfl⟩) d_Hb_isOver_50
    · skip
      refine lv_aload_n hx hb d_Hb_isOver_37 rfl (lv_at hl 1 rfl) ?_
      refine hb_get hx hb hts hown hC_Pay hK hP fq 7 (by decide) rfl fl_Hb_153 rfl d_Hb_isOver_38 ?_
      refine lv_iconst (v := 4) hx hb d_Hb_isOver_41 (by decide) ?_
      refine lv_icmp_ne (tgt := 49) hx hb d_Hb_isOver_42 (by decide) (fun c3 => ?_) (fun c3 => ?_)
      · skip
        refine lv_iconst (v := 0) hx hb d_Hb_isOver_49 (by decide) ?_
        exact hb_zret hAe hx hb hr (by decide) hlocks hP hD hS (Nat.le_of_ble_eq_true rfl) (Nat.le_of_ble_eq_true rfl) (⟨by simp_all, rfl⟩) d_Hb_isOver_50
      · skip
        refine lv_iconst (v := 1) hx hb d_Hb_isOver_45 (by decide) ?_
        refine lv_goto (tgt := 50) hx hb d_Hb_isOver_46 (by decide) ?_
        exact hb_zret hAe hx hb hr (by decide) hlocks hP hD hS (Nat.le_of_ble_eq_true rfl) (Nat.le_of_ble_eq_true rfl) (⟨by simp_all, rfl⟩) d_Hb_isOver_50
  · skip
    refine lv_aload_n hx hb d_Hb_isOver_7 rfl (lv_at hl 1 rfl) ?_
    refine hb_get hx hb hts hown hC_Pay hK hP fq 2 (by decide) rfl fl_Hb_122 rfl d_Hb_isOver_8 ?_
    refine lv_iconst (v := 2) hx hb d_Hb_isOver_11 (by decide) ?_
    refine lv_icmp_eq (tgt := 23) hx hb d_Hb_isOver_12 (by decide) (fun c4 => ?_) (fun c4 => ?_)
    · skip
      refine lv_iconst (v := 1) hx hb d_Hb_isOver_23 (by decide) ?_
      refine lv_goto (tgt := 28) hx hb d_Hb_isOver_24 (by decide) ?_
      exact hb_zret hAe hx hb hr (by decide) hlocks hP hD hS (Nat.le_of_ble_eq_true rfl) (Nat.le_of_ble_eq_true rfl) (⟨by simp_all, rfl⟩) d_Hb_isOver_28
    · skip
      refine lv_aload_n hx hb d_Hb_isOver_15 rfl (lv_at hl 0 rfl) ?_
      refine lv_aload_n hx hb d_Hb_isOver_16 rfl (lv_at hl 1 rfl) ?_
      refine hb_callV (rest := []) hX hts hb_gd Y_Hb_isLongDone (c_Hb_isLongDone hE M x la lp nb ho pa tm fx q a r fq) ml_Hb_156 im_Hb_isLongDone se_Hb_isLongDone hK fx hC_Hb.1 hz hP hD hS hA rfl hl.1 rfl (Nat.le_of_ble_eq_true rfl) ⟨Nat.le_of_ble_eq_true rfl, Nat.le_of_ble_eq_true rfl⟩ ⟨Nat.le_of_ble_eq_true rfl, Nat.le_of_ble_eq_true rfl⟩ d_Hb_isOver_17 (fun v7 M5 H locs hq6 hP hD hS _ hkp => ?_)
      obtain ⟨ev8, eM9⟩ := hq6
      subst ev8
      rw [eM9] at hP hD
      refine W.eq (g2 := F0 m 20 ls [.int (if (r.2.2.1 = 3 ∧ pa < tm - r.2.2.2.2.2.2.1) then 1 else 0)]) rfl ?_
      refine lv_if_eq (tgt := 27) hx hb d_Hb_isOver_20 (by decide) (fun c10 => ?_) (fun c10 => ?_)
      · skip
        have c_l : ¬ (r.2.2.1 = 3 ∧ pa < tm - r.2.2.2.2.2.2.1) := fun z => by rw [if_pos z] at c10; exact absurd c10 (by decide)
        refine lv_iconst (v := 0) hx hb d_Hb_isOver_27 (by decide) ?_
        exact hb_zret hAe hx hb hr (by decide) hlocks hP hD hS (Nat.le_of_ble_eq_true rfl) (Nat.le_of_ble_eq_true rfl) (⟨by simp_all, rfl⟩) d_Hb_isOver_28
      · skip
        have c_l : (r.2.2.1 = 3 ∧ pa < tm - r.2.2.2.2.2.2.1) := Classical.byContradiction (fun z => by rw [if_neg z] at c10; exact c10 rfl)
        refine lv_iconst (v := 1) hx hb d_Hb_isOver_23 (by decide) ?_
        refine lv_goto (tgt := 28) hx hb d_Hb_isOver_24 (by decide) ?_
        exact hb_zret hAe hx hb hr (by decide) hlocks hP hD hS (Nat.le_of_ble_eq_true rfl) (Nat.le_of_ble_eq_true rfl) (⟨by simp_all, rfl⟩) d_Hb_isOver_28
set_option maxHeartbeats 4000000 in
set_option maxRecDepth 100000 in
/-- spanOf -/
theorem c_Hb_spanOf {l : Launch} {s0 : State} {D : va_G} {cI cJ cO : ClassId} {e0 mi : Nat} (hE : hb_E l s0 D cI cJ cO e0 mi) (M : hb_M) (k : Int32) : hb_Met l D hb_cl s0 y_Hb_spanOf b_Hb_spanOf 1 (some .int) { frames := 1, cells := 0, slots := 0, locals := 20 } [.int k] M (fun v M1 => v = some (.int (if 1 < (if k < 5000 then k else 5000) then (if k < 5000 then k else 5000) else 1)) ∧ M1 = M) := by
  refine hb_Met.of (by decide) (Nat.le_of_ble_eq_true rfl) ?_
  intro p e s m below meth c A hAe hX hz hP hD hA hS ls hl
  obtain ⟨hx, hb, hr, hml, hown, hlocks, hnm, hG, hnh⟩ := id hX
  have hown : s.vm.findClass "HoldBook" = some m.cls := hown
  have hts := hE.ts hG ([.int k] : List Value).toArray
  have hK := hE.kn hG
  have hl : lv_has ls 1 [(0, .int k)] := hl
  refine lv_iconst (v := 1) hx hb d_Hb_spanOf_0 (by decide) ?_
  refine lv_sipush (v := 5000) hx hb d_Hb_spanOf_1 (by decide) ?_
  refine lv_iload_n hx hb d_Hb_spanOf_4 rfl (lv_at hl 0 rfl) ?_
  refine va_mmin hx hb (by rw [hml]; exact hl.1.symm) hown (hts _ ml_Hb_200) (hts _ st_Mth_min1) (hts _ in_Mth) (hts _ cd_Mth_min1) (Nat.le_of_ble_eq_true rfl) (Nat.le_of_ble_eq_true rfl) (Nat.le_of_ble_eq_true rfl) (Nat.le_of_ble_eq_true rfl) d_Hb_spanOf_5 ?_
  refine va_mmax hx hb (by rw [hml]; exact hl.1.symm) hown (hts _ ml_Hb_203) (hts _ st_Mth_max) (hts _ in_Mth) (hts _ cd_Mth_max) (Nat.le_of_ble_eq_true rfl) (Nat.le_of_ble_eq_true rfl) (Nat.le_of_ble_eq_true rfl) (Nat.le_of_ble_eq_true rfl) d_Hb_spanOf_8 ?_
  exact hb_iret hAe hx hb hr hlocks hP hD hS (Nat.le_of_ble_eq_true rfl) (Nat.le_of_ble_eq_true rfl) (⟨rfl, rfl⟩) d_Hb_spanOf_11
set_option maxHeartbeats 4000000 in
set_option maxRecDepth 100000 in
/-- payments() -/
theorem c_Hb_payments {l : Launch} {s0 : State} {D : va_G} {cI cJ cO : ClassId} {e0 mi : Nat} (hE : hb_E l s0 D cI cJ cO e0 mi) (M : hb_M) (x la lp nb ra rp : Nat) (ho pa tm : Int32) (Ac : List (Nat × hbA)) (Py : List (Nat × hbY)) (h : cR cO e0 M x la lp nb ra rp ho pa tm Ac Py) (hk : cOK Ac Py) : hb_Met l D hb_cl s0 y_Hb_payments b_Hb_payments 1 (some .int) { frames := 1, cells := 0, slots := 0, locals := 20 } [.ref x] M (fun v M1 => v = some (.int (nI Py.length)) ∧ M1 = M) := by
  refine hb_Met.of (by decide) (Nat.le_of_ble_eq_true rfl) ?_
  intro p e s m below meth c A hAe hX hz hP hD hA hS ls hl
  obtain ⟨hx, hb, hr, hml, hown, hlocks, hnm, hG, hnh⟩ := id hX
  have hown : s.vm.findClass "HoldBook" = some m.cls := hown
  have hts := hE.ts hG ([.ref x] : List Value).toArray
  have hK := hE.kn hG
  have hl : lv_has ls 1 [(0, .ref x)] := hl
  have fx := h.1
  obtain ⟨mda, fla⟩ := h.fla
  obtain ⟨mdp, flp⟩ := h.flp
  have hlA := hk.1
  have hlP := hk.2.1
  refine lv_aload_n hx hb d_Hb_payments_0 rfl (lv_at hl 0 rfl) ?_
  refine hb_get hx hb hts hown hC_Hb hK hP fx 3 (by decide) rfl fl_Hb_16 rfl d_Hb_payments_1 ?_
  refine hb_callV (rest := []) hX hts hb_gd Y_Al_size (c_py_size hE h) ml_Hb_55 im_Al_size se_Al_size hK flp hC_Al.1 hz hP hD hS hA rfl hl.1 rfl (Nat.le_of_ble_eq_true rfl) ⟨Nat.le_of_ble_eq_true rfl, Nat.le_of_ble_eq_true rfl⟩ ⟨Nat.le_of_ble_eq_true rfl, Nat.le_of_ble_eq_true rfl⟩ d_Hb_payments_4 (fun v3 M1 H locs hq2 hP hD hS _ hkp => ?_)
  obtain ⟨ev4, eM5⟩ := hq2
  subst ev4
  rw [eM5] at hP hD
  refine W.eq (g2 := F0 m 7 ls [.int (nI Py.length)]) rfl ?_
  exact hb_iret hAe hx hb hr hlocks hP hD hS (Nat.le_of_ble_eq_true rfl) (Nat.le_of_ble_eq_true rfl) (⟨rfl, rfl⟩) d_Hb_payments_7
set_option maxHeartbeats 4000000 in
set_option maxRecDepth 100000 in
/-- key(i), there -/
theorem c_Hb_key_at {l : Launch} {s0 : State} {D : va_G} {cI cJ cO : ClassId} {e0 mi : Nat} (hE : hb_E l s0 D cI cJ cO e0 mi) (M : hb_M) (x la lp nb ra rp : Nat) (ho pa tm : Int32) (Ac : List (Nat × hbA)) (Py : List (Nat × hbY)) (h : cR cO e0 M x la lp nb ra rp ho pa tm Ac Py) (hk : cOK Ac Py) (i q : Nat) (r : hbY) (hi : Py[i]? = some (q, r)) : hb_Met l D hb_cl s0 y_Hb_key b_Hb_key 2 (some .int) { frames := 3, cells := 0, slots := 0, locals := 64 } [.ref x, .int (nI i)] M (fun v M1 => v = some (.int r.1) ∧ M1 = M) := by
  refine hb_Met.of (by decide) (Nat.le_of_ble_eq_true rfl) ?_
  intro p e s m below meth c A hAe hX hz hP hD hA hS ls hl
  obtain ⟨hx, hb, hr, hml, hown, hlocks, hnm, hG, hnh⟩ := id hX
  have hown : s.vm.findClass "HoldBook" = some m.cls := hown
  have hts := hE.ts hG ([.ref x, .int (nI i)] : List Value).toArray
  have hK := hE.kn hG
  have hl : lv_has ls 2 [(0, .ref x), (1, .int (nI i))] := hl
  have fx := h.1
  obtain ⟨mda, fla⟩ := h.fla
  obtain ⟨mdp, flp⟩ := h.flp
  have hlA := hk.1
  have hlP := hk.2.1
  have hil := (List.getElem?_eq_some_iff.mp hi).1
  refine lv_iload_n hx hb d_Hb_key_0 rfl (lv_at hl 1 rfl) ?_
  refine lv_if_ge (tgt := 14) hx hb d_Hb_key_1 (by decide) (fun c1 => ?_) (fun c1 => ?_)
  · skip
    have c1n := hb_ngti c1
    refine lv_iload_n hx hb d_Hb_key_14 rfl (lv_at hl 1 rfl) ?_
    refine lv_aload_n hx hb d_Hb_key_15 rfl (lv_at hl 0 rfl) ?_
    refine hb_get hx hb hts hown hC_Hb hK hP fx 3 (by decide) rfl fl_Hb_16 rfl d_Hb_key_16 ?_
    refine hb_callV (rest := [.int (nI i)]) hX hts hb_gd Y_Al_size (c_py_size hE h) ml_Hb_55 im_Al_size se_Al_size hK flp hC_Al.1 hz hP hD hS hA rfl hl.1 rfl (Nat.le_of_ble_eq_true rfl) ⟨Nat.le_of_ble_eq_true rfl, Nat.le_of_ble_eq_true rfl⟩ ⟨Nat.le_of_ble_eq_true rfl, Nat.le_of_ble_eq_true rfl⟩ d_Hb_key_19 (fun v4 M2 H locs hq3 hP hD hS _ hkp => ?_)
    obtain ⟨ev5, eM6⟩ := hq3
    subst ev5
    rw [eM6] at hP hD
    refine W.eq (g2 := F0 m 22 ls [.int (nI Py.length), .int (nI i)]) rfl ?_
    refine lv_icmp_ge (tgt := 42) hx hb d_Hb_key_22 (by decide) (fun c7 => ?_) (fun c7 => ?_)
    · skip
      have c7n := hb_ngti c7
      exact absurd c7 (by intro z; have := (nI_leI (by omega) (by omega)).mp z; omega)
    · skip
      have c7n := hb_gti c7
      refine lv_aload_n hx hb d_Hb_key_25 rfl (lv_at hl 0 rfl) ?_
      refine hb_get hx hb hts hown hC_Hb hK hP fx 3 (by decide) rfl fl_Hb_16 rfl d_Hb_key_26 ?_
      refine lv_iload_n hx hb d_Hb_key_29 rfl (lv_at hl 1 rfl) ?_
      refine hb_callV (rest := []) hX hts hb_gd Y_Al_get (c_py_get hE h hi) ml_Hb_87 im_Al_get se_Al_get hK flp hC_Al.1 hz hP hD hS hA rfl hl.1 rfl (Nat.le_of_ble_eq_true rfl) ⟨Nat.le_of_ble_eq_true rfl, Nat.le_of_ble_eq_true rfl⟩ ⟨Nat.le_of_ble_eq_true rfl, Nat.le_of_ble_eq_true rfl⟩ d_Hb_key_30 (fun v10 M8 H locs hq9 hP hD hS _ hkp => ?_)
      obtain ⟨ev11, eM12⟩ := hq9
      subst ev11
      rw [eM12] at hP hD
      have fq := h.py hi
      refine W.eq (g2 := F0 m 33 ls [.ref q]) rfl ?_
      refine va_castS hx hb hown (hts _ kl_Hb_97) (hK.1 1 _ rfl).2 (va_recv hK (hP.one fq) (ci := 1) (q0 := 0) rfl rfl) d_Hb_key_33 ?_
      refine hb_get hx hb hts hown hC_Pay hK hP fq 0 (by decide) rfl fl_Hb_189 rfl d_Hb_key_36 ?_
      refine lv_goto (tgt := 43) hx hb d_Hb_key_39 (by decide) ?_
      exact hb_iret hAe hx hb hr hlocks hP hD hS (Nat.le_of_ble_eq_true rfl) (Nat.le_of_ble_eq_true rfl) (⟨rfl, rfl⟩) d_Hb_key_43
  · skip
    have c1n := hb_gti c1
    exact absurd (nI_pos' (by omega)) c1
set_option maxHeartbeats 4000000 in
set_option maxRecDepth 100000 in
/-- key(k), beyond -/
theorem c_Hb_key_no {l : Launch} {s0 : State} {D : va_G} {cI cJ cO : ClassId} {e0 mi : Nat} (hE : hb_E l s0 D cI cJ cO e0 mi) (M : hb_M) (x la lp nb ra rp : Nat) (ho pa tm : Int32) (Ac : List (Nat × hbA)) (Py : List (Nat × hbY)) (h : cR cO e0 M x la lp nb ra rp ho pa tm Ac Py) (hk : cOK Ac Py) (k : Int32) (h0 : ¬ k < 0) (h1 : nI Py.length ≤ k) : hb_Met l D hb_cl s0 y_Hb_key b_Hb_key 2 (some .int) { frames := 3, cells := 0, slots := 0, locals := 64 } [.ref x, .int k] M (fun v M1 => v = some (.int (-1)) ∧ M1 = M) := by
  refine hb_Met.of (by decide) (Nat.le_of_ble_eq_true rfl) ?_
  intro p e s m below meth c A hAe hX hz hP hD hA hS ls hl
  obtain ⟨hx, hb, hr, hml, hown, hlocks, hnm, hG, hnh⟩ := id hX
  have hown : s.vm.findClass "HoldBook" = some m.cls := hown
  have hts := hE.ts hG ([.ref x, .int k] : List Value).toArray
  have hK := hE.kn hG
  have hl : lv_has ls 2 [(0, .ref x), (1, .int k)] := hl
  have fx := h.1
  obtain ⟨mda, fla⟩ := h.fla
  obtain ⟨mdp, flp⟩ := h.flp
  have hlA := hk.1
  have hlP := hk.2.1
  refine lv_iload_n hx hb d_Hb_key_0 rfl (lv_at hl 1 rfl) ?_
  refine lv_if_ge (tgt := 14) hx hb d_Hb_key_1 (by decide) (fun c1 => ?_) (fun c1 => ?_)
  · skip
    have c1n := hb_ngti c1
    refine lv_iload_n hx hb d_Hb_key_14 rfl (lv_at hl 1 rfl) ?_
    refine lv_aload_n hx hb d_Hb_key_15 rfl (lv_at hl 0 rfl) ?_
    refine hb_get hx hb hts hown hC_Hb hK hP fx 3 (by decide) rfl fl_Hb_16 rfl d_Hb_key_16 ?_
    refine hb_callV (rest := [.int k]) hX hts hb_gd Y_Al_size (c_py_size hE h) ml_Hb_55 im_Al_size se_Al_size hK flp hC_Al.1 hz hP hD hS hA rfl hl.1 rfl (Nat.le_of_ble_eq_true rfl) ⟨Nat.le_of_ble_eq_true rfl, Nat.le_of_ble_eq_true rfl⟩ ⟨Nat.le_of_ble_eq_true rfl, Nat.le_of_ble_eq_true rfl⟩ d_Hb_key_19 (fun v4 M2 H locs hq3 hP hD hS _ hkp => ?_)
    obtain ⟨ev5, eM6⟩ := hq3
    subst ev5
    rw [eM6] at hP hD
    refine W.eq (g2 := F0 m 22 ls [.int (nI Py.length), .int k]) rfl ?_
    refine lv_icmp_ge (tgt := 42) hx hb d_Hb_key_22 (by decide) (fun c7 => ?_) (fun c7 => ?_)
    · skip
      have c7n := hb_ngti c7
      refine lv_iconst (v := (-1)) hx hb d_Hb_key_42 (by decide) ?_
      exact hb_iret hAe hx hb hr hlocks hP hD hS (Nat.le_of_ble_eq_true rfl) (Nat.le_of_ble_eq_true rfl) (⟨rfl, rfl⟩) d_Hb_key_43
    · skip
      have c7n := hb_gti c7
      exact absurd h1 c7
  · skip
    have c1n := hb_gti c1
    exact absurd (hb_le h0) c1
set_option maxHeartbeats 4000000 in
set_option maxRecDepth 100000 in
/-- key(k), k < 0 -/
theorem c_Hb_key_bad {l : Launch} {s0 : State} {D : va_G} {cI cJ cO : ClassId} {e0 mi : Nat} (hE : hb_E l s0 D cI cJ cO e0 mi) (M : hb_M) (x la lp nb ra rp : Nat) (ho pa tm : Int32) (Ac : List (Nat × hbA)) (Py : List (Nat × hbY)) (h : cR cO e0 M x la lp nb ra rp ho pa tm Ac Py) (hk : cOK Ac Py) (k : Int32) (h0 : k < 0) : hb_Thr l D hb_cl s0 y_Hb_key b_Hb_key 2 (some .int) { frames := 6, cells := 1, slots := 6, locals := 90 } [.ref x, .int k] M "java/lang/IllegalArgumentException" := by
  refine hb_Thr.of (by decide) (Nat.le_of_ble_eq_true rfl) ?_
  intro p e s m below meth c A hAe hX hz hP hD hA hS ls hl
  obtain ⟨hx, hb, hr, hml, hown, hlocks, hnm, hG, hnh⟩ := id hX
  have hown : s.vm.findClass "HoldBook" = some m.cls := hown
  have hts := hE.ts hG ([.ref x, .int k] : List Value).toArray
  have hK := hE.kn hG
  have hl : lv_has ls 2 [(0, .ref x), (1, .int k)] := hl
  have fx := h.1
  obtain ⟨mda, fla⟩ := h.fla
  obtain ⟨mdp, flp⟩ := h.flp
  have hlA := hk.1
  have hlP := hk.2.1
  refine lv_iload_n hx hb d_Hb_key_0 rfl (lv_at hl 1 rfl) ?_
  refine lv_if_ge (tgt := 14) hx hb d_Hb_key_1 (by decide) (fun c1 => ?_) (fun c1 => ?_)
  · skip
    have c1n := hb_ngti c1
    exact absurd h0 (hb_ngti c1)
  · skip
    have c1n := hb_gti c1
    exact hb_iae hE hAe hX hown hz hP hS hl.1 (List.mem_of_getElem? (i := 560) (by decide +kernel) : Cond.stringRef "HoldBook" 187 "the place is below 0" ∈ lw_tbl) d_Hb_key_4 d_Hb_key_7 d_Hb_key_8 d_Hb_key_10 d_Hb_key_13 (Nat.le_of_ble_eq_true rfl) (Nat.le_of_ble_eq_true rfl) (Nat.le_of_ble_eq_true rfl) (Nat.le_of_ble_eq_true rfl) (Nat.le_of_ble_eq_true rfl) (Nat.le_of_ble_eq_true rfl)
set_option maxHeartbeats 4000000 in
set_option maxRecDepth 100000 in
/-- funds(ka, wh) -/
theorem c_Hb_funds_ok {l : Launch} {s0 : State} {D : va_G} {cI cJ cO : ClassId} {e0 mi : Nat} (hE : hb_E l s0 D cI cJ cO e0 mi) (M : hb_M) (x la lp nb ra rp : Nat) (ho pa tm : Int32) (Ac : List (Nat × hbA)) (Py : List (Nat × hbY)) (h : cR cO e0 M x la lp nb ra rp ho pa tm Ac Py) (hk : cOK Ac Py) (ka a : Nat) (rk : hbA) (hka0 : Ac[ka]? = some (a, rk)) (wh : Int32) (hw : ¬ wh < 0 ∧ ¬ 3 < wh) : hb_Met l D hb_cl s0 y_Hb_funds b_Hb_funds 3 (some .long) { frames := 3, cells := 0, slots := 0, locals := 64 } [.ref x, .int (nI ka), .int wh] M (fun v M1 => v = some (.long (if wh = 0 then rk.2.2.1 else if wh = 1 then rk.2.2.2.1 else if wh = 2 then rk.2.2.2.2 else rk.2.2.1 - rk.1 - rk.2.2.2.1 - rk.2.2.2.2)) ∧ M1 = M) := by
  refine hb_Met.of (by decide) (Nat.le_of_ble_eq_true rfl) ?_
  intro p e s m below meth c A hAe hX hz hP hD hA hS ls hl
  obtain ⟨hx, hb, hr, hml, hown, hlocks, hnm, hG, hnh⟩ := id hX
  have hown : s.vm.findClass "HoldBook" = some m.cls := hown
  have hts := hE.ts hG ([.ref x, .int (nI ka), .int wh] : List Value).toArray
  have hK := hE.kn hG
  have hl : lv_has ls 3 [(0, .ref x), (1, .int (nI ka)), (2, .int wh)] := hl
  have fx := h.1
  obtain ⟨mda, fla⟩ := h.fla
  obtain ⟨mdp, flp⟩ := h.flp
  have hlA := hk.1
  have hlP := hk.2.1
  have hka := (List.getElem?_eq_some_iff.mp hka0).1
  refine lv_aload_n hx hb d_Hb_funds_0 rfl (lv_at hl 0 rfl) ?_
  refine lv_iload_n hx hb d_Hb_funds_1 rfl (lv_at hl 1 rfl) ?_
  refine hb_callV (rest := []) hX hts hb_gd Y_Hb_checkAccount (c_Hb_checkAccount_ok hE M x la lp nb ra rp ho pa tm Ac Py h hk ka hka) ml_Hb_72 im_Hb_checkAccount se_Hb_checkAccount hK fx hC_Hb.1 hz hP hD hS hA rfl hl.1 rfl (Nat.le_of_ble_eq_true rfl) ⟨Nat.le_of_ble_eq_true rfl, Nat.le_of_ble_eq_true rfl⟩ ⟨Nat.le_of_ble_eq_true rfl, Nat.le_of_ble_eq_true rfl⟩ d_Hb_funds_2 (fun v3 M1 H locs hq2 hP hD hS _ hkp => ?_)
  obtain ⟨ev4, eM5⟩ := hq2
  subst ev4
  rw [eM5] at hP hD
  refine W.eq (g2 := F0 m 5 ls []) rfl ?_
  refine lv_iload_n hx hb d_Hb_funds_5 rfl (lv_at hl 2 rfl) ?_
  refine lv_iconst (v := 3) hx hb d_Hb_funds_6 (by decide) ?_
  refine hb_callS (rest := []) hX hts hb_gd Y_Hb_checkWhat (c_Hb_checkWhat_ok hE M wh 3 hw) ml_Hb_176 st_Hb_checkWhat hz hP hD hS hA rfl hl.1 rfl (Nat.le_of_ble_eq_true rfl) ⟨Nat.le_of_ble_eq_true rfl, Nat.le_of_ble_eq_true rfl⟩ ⟨Nat.le_of_ble_eq_true rfl, Nat.le_of_ble_eq_true rfl⟩ d_Hb_funds_7 (fun v8 M6 H locs hq7 hP hD hS _ hkp => ?_)
  obtain ⟨ev9, eM10⟩ := hq7
  subst ev9
  rw [eM10] at hP hD
  refine W.eq (g2 := F0 m 10 ls []) rfl ?_
  refine lv_aload_n hx hb d_Hb_funds_10 rfl (lv_at hl 0 rfl) ?_
  refine hb_get hx hb hts hown hC_Hb hK hP fx 2 (by decide) rfl fl_Hb_10 rfl d_Hb_funds_11 ?_
  refine lv_iload_n hx hb d_Hb_funds_14 rfl (lv_at hl 1 rfl) ?_
  refine hb_callV (rest := []) hX hts hb_gd Y_Al_get (c_ac_get hE h hka0) ml_Hb_87 im_Al_get se_Al_get hK fla hC_Al.1 hz hP hD hS hA rfl hl.1 rfl (Nat.le_of_ble_eq_true rfl) ⟨Nat.le_of_ble_eq_true rfl, Nat.le_of_ble_eq_true rfl⟩ ⟨Nat.le_of_ble_eq_true rfl, Nat.le_of_ble_eq_true rfl⟩ d_Hb_funds_15 (fun v13 M11 H locs hq12 hP hD hS _ hkp => ?_)
  obtain ⟨ev14, eM15⟩ := hq12
  subst ev14
  rw [eM15] at hP hD
  have fa := h.ac hka0
  refine W.eq (g2 := F0 m 18 ls [.ref a]) rfl ?_
  refine va_castS hx hb hown (hts _ kl_Hb_19) (hK.1 0 _ rfl).2 (va_recv hK (hP.one fa) (ci := 0) (q0 := 0) rfl rfl) d_Hb_funds_18 ?_
  refine lv_iload_n hx hb d_Hb_funds_21 rfl (lv_at hl 2 rfl) ?_
  refine hb_callV (rest := []) hX hts hb_gd Y_Acc_tell (c_Acc_tell hE M a (nI ka) rk.1 rk.2.1 rk.2.2.1 rk.2.2.2.1 rk.2.2.2.2 fa wh) ml_Hb_180 im_Acc_tell se_Acc_tell hK fa hC_Acc.1 hz hP hD hS hA rfl hl.1 rfl (Nat.le_of_ble_eq_true rfl) ⟨Nat.le_of_ble_eq_true rfl, Nat.le_of_ble_eq_true rfl⟩ ⟨Nat.le_of_ble_eq_true rfl, Nat.le_of_ble_eq_true rfl⟩ d_Hb_funds_22 (fun v18 M16 H locs hq17 hP hD hS _ hkp => ?_)
  obtain ⟨ev19, eM20⟩ := hq17
  subst ev19
  rw [eM20] at hP hD
  refine W.eq (g2 := F0 m 25 ls [.long (if wh = 0 then rk.2.2.1 else if wh = 1 then rk.2.2.2.1 else if wh = 2 then rk.2.2.2.2 else rk.2.2.1 - rk.1 - rk.2.2.2.1 - rk.2.2.2.2)]) rfl ?_
  exact hb_lret hAe hx hb hr hlocks hP hD hS (Nat.le_of_ble_eq_true rfl) (Nat.le_of_ble_eq_true rfl) (⟨rfl, rfl⟩) d_Hb_funds_25
end
section
/-! HOLDBOOK: payment, represent, decide, clear -/
set_option maxHeartbeats 4000000 in
set_option maxRecDepth 100000 in
/-- payment(k, wh), there -/
theorem c_Hb_payment_at {l : Launch} {s0 : State} {D : va_G} {cI cJ cO : ClassId} {e0 mi : Nat} (hE : hb_E l s0 D cI cJ cO e0 mi) (M : hb_M) (x la lp nb ra rp : Nat) (ho pa tm : Int32) (Ac : List (Nat × hbA)) (Py : List (Nat × hbY)) (h : cR cO e0 M x la lp nb ra rp ho pa tm Ac Py) (hk : cOK Ac Py) (i q : Nat) (r : hbY) (hi : Py[i]? = some (q, r)) (a : Nat) (an : Int32) (ak : hbA) (hac : hb_acc nb Ac r.2.1 = a) (fa : M a = some (aE an ak)) (hkk : ¬ r.1 < 0 ∧ ¬ 1000000 < r.1) (wh : Int32) (hw : ¬ wh < 0 ∧ ¬ 8 < wh) : hb_Met l D hb_cl s0 y_Hb_payment b_Hb_payment 4 (some .long) { frames := 5, cells := 0, slots := 0, locals := 109 } [.ref x, .int r.1, .int wh] M (fun v M1 => v = some (.long (if wh = 0 then r.2.2.1.toInt64 else if wh = 1 then r.2.2.2.1 else if wh = 2 then r.2.2.2.2.1 else if wh = 3 then r.2.2.2.2.2.1.toInt64 else if wh = 4 then r.2.2.2.2.2.2.1.toInt64 else if wh = 5 then an.toInt64 else if wh = 6 then r.2.2.2.2.2.2.2.1.toInt64 else if wh = 7 then r.2.2.2.2.2.2.2.2.1 else r.2.2.2.2.2.2.2.2.2.toInt64)) ∧ M1 = M) := by
  refine hb_Met.of (by decide) (Nat.le_of_ble_eq_true rfl) ?_
  intro p e s m below meth c A hAe hX hz hP hD hA hS ls hl
  obtain ⟨hx, hb, hr, hml, hown, hlocks, hnm, hG, hnh⟩ := id hX
  have hown : s.vm.findClass "HoldBook" = some m.cls := hown
  have hts := hE.ts hG ([.ref x, .int r.1, .int wh] : List Value).toArray
  have hK := hE.kn hG
  have hl : lv_has ls 4 [(0, .ref x), (1, .int r.1), (2, .int wh)] := hl
  have fx := h.1
  obtain ⟨mda, fla⟩ := h.fla
  obtain ⟨mdp, flp⟩ := h.flp
  have hlA := hk.1
  have hlP := hk.2.1
  have fq : M q = some (pE a r) := by have h9 := h.py hi; rw [hac] at h9; exact h9
  refine lv_iload_n hx hb d_Hb_payment_0 rfl (lv_at hl 1 rfl) ?_
  refine hb_callS (rest := []) hX hts hb_gd Y_Hb_checkKey (c_Hb_checkKey_ok hE M r.1 hkk) ml_Hb_68 st_Hb_checkKey hz hP hD hS hA rfl hl.1 rfl (Nat.le_of_ble_eq_true rfl) ⟨Nat.le_of_ble_eq_true rfl, Nat.le_of_ble_eq_true rfl⟩ ⟨Nat.le_of_ble_eq_true rfl, Nat.le_of_ble_eq_true rfl⟩ d_Hb_payment_1 (fun v3 M1 H locs hq2 hP hD hS _ hkp => ?_)
  obtain ⟨ev4, eM5⟩ := hq2
  subst ev4
  rw [eM5] at hP hD
  refine W.eq (g2 := F0 m 4 ls []) rfl ?_
  refine lv_iload_n hx hb d_Hb_payment_4 rfl (lv_at hl 2 rfl) ?_
  refine lv_bipush (v := 8) hx hb d_Hb_payment_5 (by decide) ?_
  refine hb_callS (rest := []) hX hts hb_gd Y_Hb_checkWhat (c_Hb_checkWhat_ok hE M wh 8 hw) ml_Hb_176 st_Hb_checkWhat hz hP hD hS hA rfl hl.1 rfl (Nat.le_of_ble_eq_true rfl) ⟨Nat.le_of_ble_eq_true rfl, Nat.le_of_ble_eq_true rfl⟩ ⟨Nat.le_of_ble_eq_true rfl, Nat.le_of_ble_eq_true rfl⟩ d_Hb_payment_7 (fun v8 M6 H locs hq7 hP hD hS _ hkp => ?_)
  obtain ⟨ev9, eM10⟩ := hq7
  subst ev9
  rw [eM10] at hP hD
  refine W.eq (g2 := F0 m 10 ls []) rfl ?_
  refine lv_aload_n hx hb d_Hb_payment_10 rfl (lv_at hl 0 rfl) ?_
  refine lv_iload_n hx hb d_Hb_payment_11 rfl (lv_at hl 1 rfl) ?_
  refine hb_callV (rest := []) hX hts hb_gd Y_Hb_find (c_Hb_find_at hE M x la lp nb ra rp ho pa tm Ac Py h hk i q r hi) ml_Hb_79 im_Hb_find se_Hb_find hK fx hC_Hb.1 hz hP hD hS hA rfl hl.1 rfl (Nat.le_of_ble_eq_true rfl) ⟨Nat.le_of_ble_eq_true rfl, Nat.le_of_ble_eq_true rfl⟩ ⟨Nat.le_of_ble_eq_true rfl, Nat.le_of_ble_eq_true rfl⟩ d_Hb_payment_12 (fun v13 M11 H locs hq12 hP hD hS _ hkp => ?_)
  obtain ⟨ev14, eM15⟩ := hq12
  subst ev14
  rw [eM15] at hP hD
  refine W.eq (g2 := F0 m 15 ls [.ref q]) rfl ?_
  refine lv_astore_n (lv' := [(3, .ref q), (0, .ref x), (1, .int r.1), (2, .int wh)]) hx hb d_Hb_payment_15 rfl hl (by decide) rfl (fun ls hl => ?_)
  refine lv_aload_n hx hb d_Hb_payment_16 rfl (lv_at hl 0 rfl) ?_
  refine lv_ifnonnull (tgt := 32) hx hb d_Hb_payment_17 (by decide) ?_
  refine lv_aload_n hx hb d_Hb_payment_32 rfl (lv_at hl 0 rfl) ?_
  refine lv_iload_n hx hb d_Hb_payment_33 rfl (lv_at hl 3 rfl) ?_
  refine hb_callV (rest := []) hX hts hb_gd Y_Pay_tell (c_Pay_tell hE M q a an ak.1 ak.2.1 ak.2.2.1 ak.2.2.2.1 ak.2.2.2.2 r.1 r.2.2.1 r.2.2.2.2.2.1 r.2.2.2.2.2.2.1 r.2.2.2.2.2.2.2.1 r.2.2.2.2.2.2.2.2.2 r.2.2.2.1 r.2.2.2.2.1 r.2.2.2.2.2.2.2.2.1 fa fq wh) ml_Hb_186 im_Pay_tell se_Pay_tell hK fq hC_Pay.1 hz hP hD hS hA rfl hl.1 rfl (Nat.le_of_ble_eq_true rfl) ⟨Nat.le_of_ble_eq_true rfl, Nat.le_of_ble_eq_true rfl⟩ ⟨Nat.le_of_ble_eq_true rfl, Nat.le_of_ble_eq_true rfl⟩ d_Hb_payment_34 (fun v18 M16 H locs hq17 hP hD hS _ hkp => ?_)
  obtain ⟨ev19, eM20⟩ := hq17
  subst ev19
  rw [eM20] at hP hD
  refine W.eq (g2 := F0 m 37 ls [.long (if wh = 0 then r.2.2.1.toInt64 else if wh = 1 then r.2.2.2.1 else if wh = 2 then r.2.2.2.2.1 else if wh = 3 then r.2.2.2.2.2.1.toInt64 else if wh = 4 then r.2.2.2.2.2.2.1.toInt64 else if wh = 5 then an.toInt64 else if wh = 6 then r.2.2.2.2.2.2.2.1.toInt64 else if wh = 7 then r.2.2.2.2.2.2.2.2.1 else r.2.2.2.2.2.2.2.2.2.toInt64)]) rfl ?_
  exact hb_lret hAe hx hb hr hlocks hP hD hS (Nat.le_of_ble_eq_true rfl) (Nat.le_of_ble_eq_true rfl) (⟨rfl, rfl⟩) d_Hb_payment_37
set_option maxHeartbeats 4000000 in
set_option maxRecDepth 100000 in
/-- payment(k, wh), not there -/
theorem c_Hb_payment_no {l : Launch} {s0 : State} {D : va_G} {cI cJ cO : ClassId} {e0 mi : Nat} (hE : hb_E l s0 D cI cJ cO e0 mi) (M : hb_M) (x la lp nb ra rp : Nat) (ho pa tm : Int32) (Ac : List (Nat × hbA)) (Py : List (Nat × hbY)) (h : cR cO e0 M x la lp nb ra rp ho pa tm Ac Py) (hk : cOK Ac Py) (k : Int32) (hno : ∀ (i q : Nat) (r : hbY), Py[i]? = some (q, r) → r.1 ≠ k) (hkk : ¬ k < 0 ∧ ¬ 1000000 < k) (wh : Int32) (hw : ¬ wh < 0 ∧ ¬ 8 < wh) : hb_Met l D hb_cl s0 y_Hb_payment b_Hb_payment 4 (some .long) { frames := 5, cells := 0, slots := 0, locals := 109 } [.ref x, .int k, .int wh] M (fun v M1 => v = some (.long (if wh = 0 then 0 else -1)) ∧ M1 = M) := by
  refine hb_Met.of (by decide) (Nat.le_of_ble_eq_true rfl) ?_
  intro p e s m below meth c A hAe hX hz hP hD hA hS ls hl
  obtain ⟨hx, hb, hr, hml, hown, hlocks, hnm, hG, hnh⟩ := id hX
  have hown : s.vm.findClass "HoldBook" = some m.cls := hown
  have hts := hE.ts hG ([.ref x, .int k, .int wh] : List Value).toArray
  have hK := hE.kn hG
  have hl : lv_has ls 4 [(0, .ref x), (1, .int k), (2, .int wh)] := hl
  have fx := h.1
  obtain ⟨mda, fla⟩ := h.fla
  obtain ⟨mdp, flp⟩ := h.flp
  have hlA := hk.1
  have hlP := hk.2.1
  refine lv_iload_n hx hb d_Hb_payment_0 rfl (lv_at hl 1 rfl) ?_
  refine hb_callS (rest := []) hX hts hb_gd Y_Hb_checkKey (c_Hb_checkKey_ok hE M k hkk) ml_Hb_68 st_Hb_checkKey hz hP hD hS hA rfl hl.1 rfl (Nat.le_of_ble_eq_true rfl) ⟨Nat.le_of_ble_eq_true rfl, Nat.le_of_ble_eq_true rfl⟩ ⟨Nat.le_of_ble_eq_true rfl, Nat.le_of_ble_eq_true rfl⟩ d_Hb_payment_1 (fun v3 M1 H locs hq2 hP hD hS _ hkp => ?_)
  obtain ⟨ev4, eM5⟩ := hq2
  subst ev4
  rw [eM5] at hP hD
  refine W.eq (g2 := F0 m 4 ls []) rfl ?_
  refine lv_iload_n hx hb d_Hb_payment_4 rfl (lv_at hl 2 rfl) ?_
  refine lv_bipush (v := 8) hx hb d_Hb_payment_5 (by decide) ?_
  refine hb_callS (rest := []) hX hts hb_gd Y_Hb_checkWhat (c_Hb_checkWhat_ok hE M wh 8 hw) ml_Hb_176 st_Hb_checkWhat hz hP hD hS hA rfl hl.1 rfl (Nat.le_of_ble_eq_true rfl) ⟨Nat.le_of_ble_eq_true rfl, Nat.le_of_ble_eq_true rfl⟩ ⟨Nat.le_of_ble_eq_true rfl, Nat.le_of_ble_eq_true rfl⟩ d_Hb_payment_7 (fun v8 M6 H locs hq7 hP hD hS _ hkp => ?_)
  obtain ⟨ev9, eM10⟩ := hq7
  subst ev9
  rw [eM10] at hP hD
  refine W.eq (g2 := F0 m 10 ls []) rfl ?_
  refine lv_aload_n hx hb d_Hb_payment_10 rfl (lv_at hl 0 rfl) ?_
  refine lv_iload_n hx hb d_Hb_payment_11 rfl (lv_at hl 1 rfl) ?_
  refine hb_callV (rest := []) hX hts hb_gd Y_Hb_find (c_Hb_find_no hE M x la lp nb ra rp ho pa tm Ac Py h hk k hno) ml_Hb_79 im_Hb_find se_Hb_find hK fx hC_Hb.1 hz hP hD hS hA rfl hl.1 rfl (Nat.le_of_ble_eq_true rfl) ⟨Nat.le_of_ble_eq_true rfl, Nat.le_of_ble_eq_true rfl⟩ ⟨Nat.le_of_ble_eq_true rfl, Nat.le_of_ble_eq_true rfl⟩ d_Hb_payment_12 (fun v13 M11 H locs hq12 hP hD hS _ hkp => ?_)
  obtain ⟨ev14, eM15⟩ := hq12
  subst ev14
  rw [eM15] at hP hD
  refine W.eq (g2 := F0 m 15 ls [.null]) rfl ?_
  refine lv_astore_nN (lv' := [(3, .null), (0, .ref x), (1, .int k), (2, .int wh)]) hx hb d_Hb_payment_15 rfl hl (by decide) rfl (fun ls hl => ?_)
  refine lv_aload_nN hx hb d_Hb_payment_16 rfl (lv_at hl 0 rfl) ?_
  refine lv_ifnonnullN hx hb d_Hb_payment_17 ?_
  refine lv_iload_n hx hb d_Hb_payment_20 rfl (lv_at hl 3 rfl) ?_
  refine lv_if_ne (tgt := 28) hx hb d_Hb_payment_21 (by decide) (fun c16 => ?_) (fun c16 => ?_)
  · skip
    refine lv_ldc2 (v := (-1)) hx hb hown (hts _ kc_Hb_184) d_Hb_payment_28 ?_
    exact hb_lret hAe hx hb hr hlocks hP hD hS (Nat.le_of_ble_eq_true rfl) (Nat.le_of_ble_eq_true rfl) (⟨by first | rw [if_pos (by assumption)] | rw [if_neg (by assumption)], rfl⟩) d_Hb_payment_31
  · skip
    refine lv_lconst (v := 0) hx hb d_Hb_payment_24 (by decide) ?_
    refine lv_goto (tgt := 31) hx hb d_Hb_payment_25 (by decide) ?_
    exact hb_lret hAe hx hb hr hlocks hP hD hS (Nat.le_of_ble_eq_true rfl) (Nat.le_of_ble_eq_true rfl) (⟨by first | rw [if_pos (by assumption)] | rw [if_neg (by assumption)], rfl⟩) d_Hb_payment_31
set_option maxHeartbeats 4000000 in
set_option maxRecDepth 100000 in
theorem c_Hb_represent_no {l : Launch} {s0 : State} {D : va_G} {cI cJ cO : ClassId} {e0 mi : Nat} (hE : hb_E l s0 D cI cJ cO e0 mi) (M : hb_M) (x la lp nb ra rp : Nat) (ho pa tm : Int32) (Ac : List (Nat × hbA)) (Py : List (Nat × hbY)) (h : cR cO e0 M x la lp nb ra rp ho pa tm Ac Py) (hk : cOK Ac Py) (k : Int32) (hno : ∀ (i q : Nat) (r : hbY), Py[i]? = some (q, r) → r.1 ≠ k) (hkk : ¬ k < 0 ∧ ¬ 1000000 < k) : hb_Met l D hb_cl s0 y_Hb_represent b_Hb_represent 3 (some .int) { frames := 5, cells := 0, slots := 0, locals := 109 } [.ref x, .int k] M (fun v M1 => v = some (.int (-6)) ∧ M1 = M) := by
  refine hb_Met.of (by decide) (Nat.le_of_ble_eq_true rfl) ?_
  intro p e s m below meth c A hAe hX hz hP hD hA hS ls hl
  obtain ⟨hx, hb, hr, hml, hown, hlocks, hnm, hG, hnh⟩ := id hX
  have hown : s.vm.findClass "HoldBook" = some m.cls := hown
  have hts := hE.ts hG ([.ref x, .int k] : List Value).toArray
  have hK := hE.kn hG
  have hl : lv_has ls 3 [(0, .ref x), (1, .int k)] := hl
  have fx := h.1
  obtain ⟨mda, fla⟩ := h.fla
  obtain ⟨mdp, flp⟩ := h.flp
  have hlA := hk.1
  have hlP := hk.2.1
  refine lv_iload_n hx hb d_Hb_represent_0 rfl (lv_at hl 1 rfl) ?_
  refine hb_callS (rest := []) hX hts hb_gd Y_Hb_checkKey (c_Hb_checkKey_ok hE M k hkk) ml_Hb_68 st_Hb_checkKey hz hP hD hS hA rfl hl.1 rfl (Nat.le_of_ble_eq_true rfl) ⟨Nat.le_of_ble_eq_true rfl, Nat.le_of_ble_eq_true rfl⟩ ⟨Nat.le_of_ble_eq_true rfl, Nat.le_of_ble_eq_true rfl⟩ d_Hb_represent_1 (fun v3 M1 H locs hq2 hP hD hS _ hkp => ?_)
  obtain ⟨ev4, eM5⟩ := hq2
  subst ev4
  rw [eM5] at hP hD
  refine W.eq (g2 := F0 m 4 ls []) rfl ?_
  refine lv_aload_n hx hb d_Hb_represent_4 rfl (lv_at hl 0 rfl) ?_
  refine lv_iload_n hx hb d_Hb_represent_5 rfl (lv_at hl 1 rfl) ?_
  refine hb_callV (rest := []) hX hts hb_gd Y_Hb_find (c_Hb_find_no hE M x la lp nb ra rp ho pa tm Ac Py h hk k hno) ml_Hb_79 im_Hb_find se_Hb_find hK fx hC_Hb.1 hz hP hD hS hA rfl hl.1 rfl (Nat.le_of_ble_eq_true rfl) ⟨Nat.le_of_ble_eq_true rfl, Nat.le_of_ble_eq_true rfl⟩ ⟨Nat.le_of_ble_eq_true rfl, Nat.le_of_ble_eq_true rfl⟩ d_Hb_represent_6 (fun v8 M6 H locs hq7 hP hD hS _ hkp => ?_)
  obtain ⟨ev9, eM10⟩ := hq7
  subst ev9
  rw [eM10] at hP hD
  refine W.eq (g2 := F0 m 9 ls [.null]) rfl ?_
  refine lv_astore_nN (lv' := [(2, .null), (0, .ref x), (1, .int k)]) hx hb d_Hb_represent_9 rfl hl (by decide) rfl (fun ls hl => ?_)
  refine lv_aload_nN hx hb d_Hb_represent_10 rfl (lv_at hl 0 rfl) ?_
  refine lv_ifnonnullN hx hb d_Hb_represent_11 ?_
  refine lv_bipush (v := (-6)) hx hb d_Hb_represent_14 (by decide) ?_
  exact hb_iret hAe hx hb hr hlocks hP hD hS (Nat.le_of_ble_eq_true rfl) (Nat.le_of_ble_eq_true rfl) (⟨rfl, rfl⟩) d_Hb_represent_16
set_option maxHeartbeats 4000000 in
set_option maxRecDepth 100000 in
theorem c_Hb_represent_st {l : Launch} {s0 : State} {D : va_G} {cI cJ cO : ClassId} {e0 mi : Nat} (hE : hb_E l s0 D cI cJ cO e0 mi) (M : hb_M) (x la lp nb ra rp : Nat) (ho pa tm : Int32) (Ac : List (Nat × hbA)) (Py : List (Nat × hbY)) (h : cR cO e0 M x la lp nb ra rp ho pa tm Ac Py) (hk : cOK Ac Py) (i q : Nat) (r : hbY) (hi : Py[i]? = some (q, r)) (a : Nat) (an : Int32) (ak : hbA) (hac : hb_acc nb Ac r.2.1 = a) (fa : M a = some (aE an ak)) (hkk : ¬ r.1 < 0 ∧ ¬ 1000000 < r.1) (hs : r.2.2.2.2.2.2.2.1 ≠ 1) : hb_Met l D hb_cl s0 y_Hb_represent b_Hb_represent 3 (some .int) { frames := 5, cells := 0, slots := 0, locals := 109 } [.ref x, .int r.1] M (fun v M1 => v = some (.int (-9)) ∧ M1 = M) := by
  refine hb_Met.of (by decide) (Nat.le_of_ble_eq_true rfl) ?_
  intro p e s m below meth c A hAe hX hz hP hD hA hS ls hl
  obtain ⟨hx, hb, hr, hml, hown, hlocks, hnm, hG, hnh⟩ := id hX
  have hown : s.vm.findClass "HoldBook" = some m.cls := hown
  have hts := hE.ts hG ([.ref x, .int r.1] : List Value).toArray
  have hK := hE.kn hG
  have hl : lv_has ls 3 [(0, .ref x), (1, .int r.1)] := hl
  have fx := h.1
  obtain ⟨mda, fla⟩ := h.fla
  obtain ⟨mdp, flp⟩ := h.flp
  have hlA := hk.1
  have hlP := hk.2.1
  have fq : M q = some (pE a r) := by have h9 := h.py hi; rw [hac] at h9; exact h9
  refine lv_iload_n hx hb d_Hb_represent_0 rfl (lv_at hl 1 rfl) ?_
  refine hb_callS (rest := []) hX hts hb_gd Y_Hb_checkKey (c_Hb_checkKey_ok hE M r.1 hkk) ml_Hb_68 st_Hb_checkKey hz hP hD hS hA rfl hl.1 rfl (Nat.le_of_ble_eq_true rfl) ⟨Nat.le_of_ble_eq_true rfl, Nat.le_of_ble_eq_true rfl⟩ ⟨Nat.le_of_ble_eq_true rfl, Nat.le_of_ble_eq_true rfl⟩ d_Hb_represent_1 (fun v3 M1 H locs hq2 hP hD hS _ hkp => ?_)
  obtain ⟨ev4, eM5⟩ := hq2
  subst ev4
  rw [eM5] at hP hD
  refine W.eq (g2 := F0 m 4 ls []) rfl ?_
  refine lv_aload_n hx hb d_Hb_represent_4 rfl (lv_at hl 0 rfl) ?_
  refine lv_iload_n hx hb d_Hb_represent_5 rfl (lv_at hl 1 rfl) ?_
  refine hb_callV (rest := []) hX hts hb_gd Y_Hb_find (c_Hb_find_at hE M x la lp nb ra rp ho pa tm Ac Py h hk i q r hi) ml_Hb_79 im_Hb_find se_Hb_find hK fx hC_Hb.1 hz hP hD hS hA rfl hl.1 rfl (Nat.le_of_ble_eq_true rfl) ⟨Nat.le_of_ble_eq_true rfl, Nat.le_of_ble_eq_true rfl⟩ ⟨Nat.le_of_ble_eq_true rfl, Nat.le_of_ble_eq_true rfl⟩ d_Hb_represent_6 (fun v8 M6 H locs hq7 hP hD hS _ hkp => ?_)
  obtain ⟨ev9, eM10⟩ := hq7
  subst ev9
  rw [eM10] at hP hD
  refine W.eq (g2 := F0 m 9 ls [.ref q]) rfl ?_
  refine lv_astore_n (lv' := [(2, .ref q), (0, .ref x), (1, .int r.1)]) hx hb d_Hb_represent_9 rfl hl (by decide) rfl (fun ls hl => ?_)
  refine lv_aload_n hx hb d_Hb_represent_10 rfl (lv_at hl 0 rfl) ?_
  refine lv_ifnonnull (tgt := 17) hx hb d_Hb_represent_11 (by decide) ?_
  refine lv_aload_n hx hb d_Hb_represent_17 rfl (lv_at hl 0 rfl) ?_
  refine hb_get hx hb hts hown hC_Pay hK hP fq 7 (by decide) rfl fl_Hb_153 rfl d_Hb_represent_18 ?_
  refine lv_iconst (v := 1) hx hb d_Hb_represent_21 (by decide) ?_
  refine lv_icmp_eq (tgt := 28) hx hb d_Hb_represent_22 (by decide) (fun c11 => ?_) (fun c11 => ?_)
  · skip
    exact absurd c11 hs
  · skip
    refine lv_bipush (v := (-9)) hx hb d_Hb_represent_25 (by decide) ?_
    exact hb_iret hAe hx hb hr hlocks hP hD hS (Nat.le_of_ble_eq_true rfl) (Nat.le_of_ble_eq_true rfl) (⟨rfl, rfl⟩) d_Hb_represent_27
set_option maxHeartbeats 4000000 in
set_option maxRecDepth 100000 in
theorem c_Hb_represent_ok {l : Launch} {s0 : State} {D : va_G} {cI cJ cO : ClassId} {e0 mi : Nat} (hE : hb_E l s0 D cI cJ cO e0 mi) (M : hb_M) (x la lp nb ra rp : Nat) (ho pa tm : Int32) (Ac : List (Nat × hbA)) (Py : List (Nat × hbY)) (h : cR cO e0 M x la lp nb ra rp ho pa tm Ac Py) (hk : cOK Ac Py) (i q : Nat) (r : hbY) (hi : Py[i]? = some (q, r)) (a : Nat) (an : Int32) (ak : hbA) (hac : hb_acc nb Ac r.2.1 = a) (fa : M a = some (aE an ak)) (hkk : ¬ r.1 < 0 ∧ ¬ 1000000 < r.1) (hs : r.2.2.2.2.2.2.2.1 = 1) : hb_Met l D hb_cl s0 y_Hb_represent b_Hb_represent 3 (some .int) { frames := 5, cells := 0, slots := 0, locals := 109 } [.ref x, .int r.1] M (fun v M1 => v = some (.int 1) ∧ M1 q = some (.inr (1, [.int r.1, .ref a, .int r.2.2.1, .long r.2.2.2.1, .long r.2.2.2.2.1, .int r.2.2.2.2.2.1, .int r.2.2.2.2.2.2.1, .int 2, .long r.2.2.2.2.2.2.2.2.1, .int (tm + pa)])) ∧ hb_off [q] M M1) := by
  refine hb_Met.of (by decide) (Nat.le_of_ble_eq_true rfl) ?_
  intro p e s m below meth c A hAe hX hz hP hD hA hS ls hl
  obtain ⟨hx, hb, hr, hml, hown, hlocks, hnm, hG, hnh⟩ := id hX
  have hown : s.vm.findClass "HoldBook" = some m.cls := hown
  have hts := hE.ts hG ([.ref x, .int r.1] : List Value).toArray
  have hK := hE.kn hG
  have hl : lv_has ls 3 [(0, .ref x), (1, .int r.1)] := hl
  have fx := h.1
  obtain ⟨mda, fla⟩ := h.fla
  obtain ⟨mdp, flp⟩ := h.flp
  have hlA := hk.1
  have hlP := hk.2.1
  have fq : M q = some (pE a r) := by have h9 := h.py hi; rw [hac] at h9; exact h9
  refine lv_iload_n hx hb d_Hb_represent_0 rfl (lv_at hl 1 rfl) ?_
  refine hb_callS (rest := []) hX hts hb_gd Y_Hb_checkKey (c_Hb_checkKey_ok hE M r.1 hkk) ml_Hb_68 st_Hb_checkKey hz hP hD hS hA rfl hl.1 rfl (Nat.le_of_ble_eq_true rfl) ⟨Nat.le_of_ble_eq_true rfl, Nat.le_of_ble_eq_true rfl⟩ ⟨Nat.le_of_ble_eq_true rfl, Nat.le_of_ble_eq_true rfl⟩ d_Hb_represent_1 (fun v3 M1 H locs hq2 hP hD hS _ hkp => ?_)
  obtain ⟨ev4, eM5⟩ := hq2
  subst ev4
  rw [eM5] at hP hD
  refine W.eq (g2 := F0 m 4 ls []) rfl ?_
  refine lv_aload_n hx hb d_Hb_represent_4 rfl (lv_at hl 0 rfl) ?_
  refine lv_iload_n hx hb d_Hb_represent_5 rfl (lv_at hl 1 rfl) ?_
  refine hb_callV (rest := []) hX hts hb_gd Y_Hb_find (c_Hb_find_at hE M x la lp nb ra rp ho pa tm Ac Py h hk i q r hi) ml_Hb_79 im_Hb_find se_Hb_find hK fx hC_Hb.1 hz hP hD hS hA rfl hl.1 rfl (Nat.le_of_ble_eq_true rfl) ⟨Nat.le_of_ble_eq_true rfl, Nat.le_of_ble_eq_true rfl⟩ ⟨Nat.le_of_ble_eq_true rfl, Nat.le_of_ble_eq_true rfl⟩ d_Hb_represent_6 (fun v8 M6 H locs hq7 hP hD hS _ hkp => ?_)
  obtain ⟨ev9, eM10⟩ := hq7
  subst ev9
  rw [eM10] at hP hD
  refine W.eq (g2 := F0 m 9 ls [.ref q]) rfl ?_
  refine lv_astore_n (lv' := [(2, .ref q), (0, .ref x), (1, .int r.1)]) hx hb d_Hb_represent_9 rfl hl (by decide) rfl (fun ls hl => ?_)
  refine lv_aload_n hx hb d_Hb_represent_10 rfl (lv_at hl 0 rfl) ?_
  refine lv_ifnonnull (tgt := 17) hx hb d_Hb_represent_11 (by decide) ?_
  refine lv_aload_n hx hb d_Hb_represent_17 rfl (lv_at hl 0 rfl) ?_
  refine hb_get hx hb hts hown hC_Pay hK hP fq 7 (by decide) rfl fl_Hb_153 rfl d_Hb_represent_18 ?_
  refine lv_iconst (v := 1) hx hb d_Hb_represent_21 (by decide) ?_
  refine lv_icmp_eq (tgt := 28) hx hb d_Hb_represent_22 (by decide) (fun c11 => ?_) (fun c11 => ?_)
  · skip
    refine lv_aload_n hx hb d_Hb_represent_28 rfl (lv_at hl 0 rfl) ?_
    refine lv_aload_n hx hb d_Hb_represent_29 rfl (lv_at hl 1 rfl) ?_
    refine hb_get hx hb hts hown hC_Hb hK hP fx 5 (by decide) rfl fl_Hb_28 rfl d_Hb_represent_30 ?_
    refine lv_aload_n hx hb d_Hb_represent_33 rfl (lv_at hl 1 rfl) ?_
    refine hb_get hx hb hts hown hC_Hb hK hP fx 1 (by decide) rfl fl_Hb_39 rfl d_Hb_represent_34 ?_
    refine lv_iadd hx hb d_Hb_represent_37 ?_
    refine hb_callV (rest := []) hX hts hb_gd Y_Pay_answerDispute (c_Pay_answerDispute hE M q a r.1 r.2.2.1 r.2.2.2.2.2.1 r.2.2.2.2.2.2.1 r.2.2.2.2.2.2.2.1 r.2.2.2.2.2.2.2.2.2 r.2.2.2.1 r.2.2.2.2.1 r.2.2.2.2.2.2.2.2.1 fq (tm + pa)) ml_Hb_163 im_Pay_answerDispute se_Pay_answerDispute hK fq hC_Pay.1 hz hP hD hS hA rfl hl.1 rfl (Nat.le_of_ble_eq_true rfl) ⟨Nat.le_of_ble_eq_true rfl, Nat.le_of_ble_eq_true rfl⟩ ⟨Nat.le_of_ble_eq_true rfl, Nat.le_of_ble_eq_true rfl⟩ d_Hb_represent_38 (fun v14 M12 H locs hq13 hP hD hS _ hkp => ?_)
    obtain ⟨ev17, f15, ho16⟩ := hq13
    subst ev17
    have f18 : M12 x = some (.inr (2, [.int ho, .int pa, .ref la, .ref lp, .ref nb, .int tm])) := ho16.at (hb_n1 (fun q9 => by rw [q9, fq] at fx; cases fx)) fx
    have f19 : M12 la = some (.inr (3, [.ref ra, .int (nI Ac.length), .int mda])) := ho16.at (hb_n1 (fun q9 => by rw [q9, fq] at fla; cases fla)) fla
    have f20 : M12 lp = some (.inr (3, [.ref rp, .int (nI Py.length), .int mdp])) := ho16.at (hb_n1 (fun q9 => by rw [q9, fq] at flp; cases flp)) flp
    have f21 : M12 a = some (.inr (0, [.int an, .long ak.1, .long ak.2.1, .long ak.2.2.1, .long ak.2.2.2.1, .long ak.2.2.2.2])) := ho16.at (hb_n1 (fun q9 => by rw [q9, fq] at fa; cases fa)) fa
    refine W.eq (g2 := F0 m 41 ls []) rfl ?_
    refine lv_iconst (v := 1) hx hb d_Hb_represent_41 (by decide) ?_
    exact hb_iret hAe hx hb hr hlocks hP hD hS (Nat.le_of_ble_eq_true rfl) (Nat.le_of_ble_eq_true rfl) (⟨rfl, f15, (hb_off.rf.tr ho16 (by simp))⟩) d_Hb_represent_42
  · skip
    exact absurd hs c11
set_option maxHeartbeats 4000000 in
set_option maxRecDepth 100000 in
theorem c_Hb_decide_no {l : Launch} {s0 : State} {D : va_G} {cI cJ cO : ClassId} {e0 mi : Nat} (hE : hb_E l s0 D cI cJ cO e0 mi) (M : hb_M) (x la lp nb ra rp : Nat) (ho pa tm : Int32) (Ac : List (Nat × hbA)) (Py : List (Nat × hbY)) (h : cR cO e0 M x la lp nb ra rp ho pa tm Ac Py) (hk : cOK Ac Py) (k : Int32) (hno : ∀ (i q : Nat) (r : hbY), Py[i]? = some (q, r) → r.1 ≠ k) (hkk : ¬ k < 0 ∧ ¬ 1000000 < k) (w : Int32) : hb_Met l D hb_cl s0 y_Hb_decide b_Hb_decide 4 (some .int) { frames := 5, cells := 0, slots := 0, locals := 109 } [.ref x, .int k, .int w] M (fun v M1 => v = some (.int (-6)) ∧ M1 = M) := by
  refine hb_Met.of (by decide) (Nat.le_of_ble_eq_true rfl) ?_
  intro p e s m below meth c A hAe hX hz hP hD hA hS ls hl
  obtain ⟨hx, hb, hr, hml, hown, hlocks, hnm, hG, hnh⟩ := id hX
  have hown : s.vm.findClass "HoldBook" = some m.cls := hown
  have hts := hE.ts hG ([.ref x, .int k, .int w] : List Value).toArray
  have hK := hE.kn hG
  have hl : lv_has ls 4 [(0, .ref x), (1, .int k), (2, .int w)] := hl
  have fx := h.1
  obtain ⟨mda, fla⟩ := h.fla
  obtain ⟨mdp, flp⟩ := h.flp
  have hlA := hk.1
  have hlP := hk.2.1
  refine lv_iload_n hx hb d_Hb_decide_0 rfl (lv_at hl 1 rfl) ?_
  refine hb_callS (rest := []) hX hts hb_gd Y_Hb_checkKey (c_Hb_checkKey_ok hE M k hkk) ml_Hb_68 st_Hb_checkKey hz hP hD hS hA rfl hl.1 rfl (Nat.le_of_ble_eq_true rfl) ⟨Nat.le_of_ble_eq_true rfl, Nat.le_of_ble_eq_true rfl⟩ ⟨Nat.le_of_ble_eq_true rfl, Nat.le_of_ble_eq_true rfl⟩ d_Hb_decide_1 (fun v3 M1 H locs hq2 hP hD hS _ hkp => ?_)
  obtain ⟨ev4, eM5⟩ := hq2
  subst ev4
  rw [eM5] at hP hD
  refine W.eq (g2 := F0 m 4 ls []) rfl ?_
  refine lv_aload_n hx hb d_Hb_decide_4 rfl (lv_at hl 0 rfl) ?_
  refine lv_iload_n hx hb d_Hb_decide_5 rfl (lv_at hl 1 rfl) ?_
  refine hb_callV (rest := []) hX hts hb_gd Y_Hb_find (c_Hb_find_no hE M x la lp nb ra rp ho pa tm Ac Py h hk k hno) ml_Hb_79 im_Hb_find se_Hb_find hK fx hC_Hb.1 hz hP hD hS hA rfl hl.1 rfl (Nat.le_of_ble_eq_true rfl) ⟨Nat.le_of_ble_eq_true rfl, Nat.le_of_ble_eq_true rfl⟩ ⟨Nat.le_of_ble_eq_true rfl, Nat.le_of_ble_eq_true rfl⟩ d_Hb_decide_6 (fun v8 M6 H locs hq7 hP hD hS _ hkp => ?_)
  obtain ⟨ev9, eM10⟩ := hq7
  subst ev9
  rw [eM10] at hP hD
  refine W.eq (g2 := F0 m 9 ls [.null]) rfl ?_
  refine lv_astore_nN (lv' := [(3, .null), (0, .ref x), (1, .int k), (2, .int w)]) hx hb d_Hb_decide_9 rfl hl (by decide) rfl (fun ls hl => ?_)
  refine lv_aload_nN hx hb d_Hb_decide_10 rfl (lv_at hl 0 rfl) ?_
  refine lv_ifnonnullN hx hb d_Hb_decide_11 ?_
  refine lv_bipush (v := (-6)) hx hb d_Hb_decide_14 (by decide) ?_
  exact hb_iret hAe hx hb hr hlocks hP hD hS (Nat.le_of_ble_eq_true rfl) (Nat.le_of_ble_eq_true rfl) (⟨rfl, rfl⟩) d_Hb_decide_16
set_option maxHeartbeats 4000000 in
set_option maxRecDepth 100000 in
theorem c_Hb_decide_st {l : Launch} {s0 : State} {D : va_G} {cI cJ cO : ClassId} {e0 mi : Nat} (hE : hb_E l s0 D cI cJ cO e0 mi) (M : hb_M) (x la lp nb ra rp : Nat) (ho pa tm : Int32) (Ac : List (Nat × hbA)) (Py : List (Nat × hbY)) (h : cR cO e0 M x la lp nb ra rp ho pa tm Ac Py) (hk : cOK Ac Py) (i q : Nat) (r : hbY) (hi : Py[i]? = some (q, r)) (a : Nat) (an : Int32) (ak : hbA) (hac : hb_acc nb Ac r.2.1 = a) (fa : M a = some (aE an ak)) (hkk : ¬ r.1 < 0 ∧ ¬ 1000000 < r.1) (w : Int32) (hs : r.2.2.2.2.2.2.2.1 ≠ 2) : hb_Met l D hb_cl s0 y_Hb_decide b_Hb_decide 4 (some .int) { frames := 5, cells := 0, slots := 0, locals := 109 } [.ref x, .int r.1, .int w] M (fun v M1 => v = some (.int (-9)) ∧ M1 = M) := by
  refine hb_Met.of (by decide) (Nat.le_of_ble_eq_true rfl) ?_
  intro p e s m below meth c A hAe hX hz hP hD hA hS ls hl
  obtain ⟨hx, hb, hr, hml, hown, hlocks, hnm, hG, hnh⟩ := id hX
  have hown : s.vm.findClass "HoldBook" = some m.cls := hown
  have hts := hE.ts hG ([.ref x, .int r.1, .int w] : List Value).toArray
  have hK := hE.kn hG
  have hl : lv_has ls 4 [(0, .ref x), (1, .int r.1), (2, .int w)] := hl
  have fx := h.1
  obtain ⟨mda, fla⟩ := h.fla
  obtain ⟨mdp, flp⟩ := h.flp
  have hlA := hk.1
  have hlP := hk.2.1
  have fq : M q = some (pE a r) := by have h9 := h.py hi; rw [hac] at h9; exact h9
  refine lv_iload_n hx hb d_Hb_decide_0 rfl (lv_at hl 1 rfl) ?_
  refine hb_callS (rest := []) hX hts hb_gd Y_Hb_checkKey (c_Hb_checkKey_ok hE M r.1 hkk) ml_Hb_68 st_Hb_checkKey hz hP hD hS hA rfl hl.1 rfl (Nat.le_of_ble_eq_true rfl) ⟨Nat.le_of_ble_eq_true rfl, Nat.le_of_ble_eq_true rfl⟩ ⟨Nat.le_of_ble_eq_true rfl, Nat.le_of_ble_eq_true rfl⟩ d_Hb_decide_1 (fun v3 M1 H locs hq2 hP hD hS _ hkp => ?_)
  obtain ⟨ev4, eM5⟩ := hq2
  subst ev4
  rw [eM5] at hP hD
  refine W.eq (g2 := F0 m 4 ls []) rfl ?_
  refine lv_aload_n hx hb d_Hb_decide_4 rfl (lv_at hl 0 rfl) ?_
  refine lv_iload_n hx hb d_Hb_decide_5 rfl (lv_at hl 1 rfl) ?_
  refine hb_callV (rest := []) hX hts hb_gd Y_Hb_find (c_Hb_find_at hE M x la lp nb ra rp ho pa tm Ac Py h hk i q r hi) ml_Hb_79 im_Hb_find se_Hb_find hK fx hC_Hb.1 hz hP hD hS hA rfl hl.1 rfl (Nat.le_of_ble_eq_true rfl) ⟨Nat.le_of_ble_eq_true rfl, Nat.le_of_ble_eq_true rfl⟩ ⟨Nat.le_of_ble_eq_true rfl, Nat.le_of_ble_eq_true rfl⟩ d_Hb_decide_6 (fun v8 M6 H locs hq7 hP hD hS _ hkp => ?_)
  obtain ⟨ev9, eM10⟩ := hq7
  subst ev9
  rw [eM10] at hP hD
  refine W.eq (g2 := F0 m 9 ls [.ref q]) rfl ?_
  refine lv_astore_n (lv' := [(3, .ref q), (0, .ref x), (1, .int r.1), (2, .int w)]) hx hb d_Hb_decide_9 rfl hl (by decide) rfl (fun ls hl => ?_)
  refine lv_aload_n hx hb d_Hb_decide_10 rfl (lv_at hl 0 rfl) ?_
  refine lv_ifnonnull (tgt := 17) hx hb d_Hb_decide_11 (by decide) ?_
  refine lv_aload_n hx hb d_Hb_decide_17 rfl (lv_at hl 0 rfl) ?_
  refine hb_get hx hb hts hown hC_Pay hK hP fq 7 (by decide) rfl fl_Hb_153 rfl d_Hb_decide_18 ?_
  refine lv_iconst (v := 2) hx hb d_Hb_decide_21 (by decide) ?_
  refine lv_icmp_eq (tgt := 28) hx hb d_Hb_decide_22 (by decide) (fun c11 => ?_) (fun c11 => ?_)
  · skip
    exact absurd c11 hs
  · skip
    refine lv_bipush (v := (-9)) hx hb d_Hb_decide_25 (by decide) ?_
    exact hb_iret hAe hx hb hr hlocks hP hD hS (Nat.le_of_ble_eq_true rfl) (Nat.le_of_ble_eq_true rfl) (⟨rfl, rfl⟩) d_Hb_decide_27
set_option maxHeartbeats 4000000 in
set_option maxRecDepth 100000 in
theorem c_Hb_decide_ok {l : Launch} {s0 : State} {D : va_G} {cI cJ cO : ClassId} {e0 mi : Nat} (hE : hb_E l s0 D cI cJ cO e0 mi) (M : hb_M) (x la lp nb ra rp : Nat) (ho pa tm : Int32) (Ac : List (Nat × hbA)) (Py : List (Nat × hbY)) (h : cR cO e0 M x la lp nb ra rp ho pa tm Ac Py) (hk : cOK Ac Py) (i q : Nat) (r : hbY) (hi : Py[i]? = some (q, r)) (a : Nat) (an : Int32) (ak : hbA) (hac : hb_acc nb Ac r.2.1 = a) (fa : M a = some (aE an ak)) (hkk : ¬ r.1 < 0 ∧ ¬ 1000000 < r.1) (w : Int32) (hs : r.2.2.2.2.2.2.2.1 = 2) : hb_Met l D hb_cl s0 y_Hb_decide b_Hb_decide 4 (some .int) { frames := 5, cells := 0, slots := 0, locals := 109 } [.ref x, .int r.1, .int w] M (fun v M1 => v = some (.int 1) ∧ M1 a = some (.inr (0, [.int an, .long ak.1, .long ak.2.1, .long (if w = 0 then ak.2.2.1 - r.2.2.2.2.2.2.2.2.1 else ak.2.2.1), .long ak.2.2.2.1, .long (ak.2.2.2.2 - r.2.2.2.2.2.2.2.2.1)])) ∧ M1 q = some (.inr (1, [.int r.1, .ref a, .int r.2.2.1, .long r.2.2.2.1, .long r.2.2.2.2.1, .int r.2.2.2.2.2.1, .int r.2.2.2.2.2.2.1, .int (if w = 0 then 4 else 3), .long r.2.2.2.2.2.2.2.2.1, .int (-1)])) ∧ hb_off [a, q] M M1) := by
  refine hb_Met.of (by decide) (Nat.le_of_ble_eq_true rfl) ?_
  intro p e s m below meth c A hAe hX hz hP hD hA hS ls hl
  obtain ⟨hx, hb, hr, hml, hown, hlocks, hnm, hG, hnh⟩ := id hX
  have hown : s.vm.findClass "HoldBook" = some m.cls := hown
  have hts := hE.ts hG ([.ref x, .int r.1, .int w] : List Value).toArray
  have hK := hE.kn hG
  have hl : lv_has ls 4 [(0, .ref x), (1, .int r.1), (2, .int w)] := hl
  have fx := h.1
  obtain ⟨mda, fla⟩ := h.fla
  obtain ⟨mdp, flp⟩ := h.flp
  have hlA := hk.1
  have hlP := hk.2.1
  have fq : M q = some (pE a r) := by have h9 := h.py hi; rw [hac] at h9; exact h9
  refine lv_iload_n hx hb d_Hb_decide_0 rfl (lv_at hl 1 rfl) ?_
  refine hb_callS (rest := []) hX hts hb_gd Y_Hb_checkKey (c_Hb_checkKey_ok hE M r.1 hkk) ml_Hb_68 st_Hb_checkKey hz hP hD hS hA rfl hl.1 rfl (Nat.le_of_ble_eq_true rfl) ⟨Nat.le_of_ble_eq_true rfl, Nat.le_of_ble_eq_true rfl⟩ ⟨Nat.le_of_ble_eq_true rfl, Nat.le_of_ble_eq_true rfl⟩ d_Hb_decide_1 (fun v3 M1 H locs hq2 hP hD hS _ hkp => ?_)
  obtain ⟨ev4, eM5⟩ := hq2
  subst ev4
  rw [eM5] at hP hD
  refine W.eq (g2 := F0 m 4 ls []) rfl ?_
  refine lv_aload_n hx hb d_Hb_decide_4 rfl (lv_at hl 0 rfl) ?_
  refine lv_iload_n hx hb d_Hb_decide_5 rfl (lv_at hl 1 rfl) ?_
  refine hb_callV (rest := []) hX hts hb_gd Y_Hb_find (c_Hb_find_at hE M x la lp nb ra rp ho pa tm Ac Py h hk i q r hi) ml_Hb_79 im_Hb_find se_Hb_find hK fx hC_Hb.1 hz hP hD hS hA rfl hl.1 rfl (Nat.le_of_ble_eq_true rfl) ⟨Nat.le_of_ble_eq_true rfl, Nat.le_of_ble_eq_true rfl⟩ ⟨Nat.le_of_ble_eq_true rfl, Nat.le_of_ble_eq_true rfl⟩ d_Hb_decide_6 (fun v8 M6 H locs hq7 hP hD hS _ hkp => ?_)
  obtain ⟨ev9, eM10⟩ := hq7
  subst ev9
  rw [eM10] at hP hD
  refine W.eq (g2 := F0 m 9 ls [.ref q]) rfl ?_
  refine lv_astore_n (lv' := [(3, .ref q), (0, .ref x), (1, .int r.1), (2, .int w)]) hx hb d_Hb_decide_9 rfl hl (by decide) rfl (fun ls hl => ?_)
  refine lv_aload_n hx hb d_Hb_decide_10 rfl (lv_at hl 0 rfl) ?_
  refine lv_ifnonnull (tgt := 17) hx hb d_Hb_decide_11 (by decide) ?_
  refine lv_aload_n hx hb d_Hb_decide_17 rfl (lv_at hl 0 rfl) ?_
  refine hb_get hx hb hts hown hC_Pay hK hP fq 7 (by decide) rfl fl_Hb_153 rfl d_Hb_decide_18 ?_
  refine lv_iconst (v := 2) hx hb d_Hb_decide_21 (by decide) ?_
  refine lv_icmp_eq (tgt := 28) hx hb d_Hb_decide_22 (by decide) (fun c11 => ?_) (fun c11 => ?_)
  · skip
    refine lv_aload_n hx hb d_Hb_decide_28 rfl (lv_at hl 0 rfl) ?_
    refine lv_iload_n hx hb d_Hb_decide_29 rfl (lv_at hl 3 rfl) ?_
    refine hb_callV (rest := []) hX hts hb_gd Y_Pay_endDispute (c_Pay_endDispute hE M q a an ak.1 ak.2.1 ak.2.2.1 ak.2.2.2.1 ak.2.2.2.2 r.1 r.2.2.1 r.2.2.2.2.2.1 r.2.2.2.2.2.2.1 r.2.2.2.2.2.2.2.1 r.2.2.2.2.2.2.2.2.2 r.2.2.2.1 r.2.2.2.2.1 r.2.2.2.2.2.2.2.2.1 fa fq w) ml_Hb_166 im_Pay_endDispute se_Pay_endDispute hK fq hC_Pay.1 hz hP hD hS hA rfl hl.1 rfl (Nat.le_of_ble_eq_true rfl) ⟨Nat.le_of_ble_eq_true rfl, Nat.le_of_ble_eq_true rfl⟩ ⟨Nat.le_of_ble_eq_true rfl, Nat.le_of_ble_eq_true rfl⟩ d_Hb_decide_30 (fun v14 M12 H locs hq13 hP hD hS _ hkp => ?_)
    obtain ⟨ev18, f15, f16, ho17⟩ := hq13
    subst ev18
    have f19 : M12 x = some (.inr (2, [.int ho, .int pa, .ref la, .ref lp, .ref nb, .int tm])) := ho17.at (hb_n2 (fun q9 => by rw [q9, fa] at fx; cases fx) (fun q9 => by rw [q9, fq] at fx; cases fx)) fx
    have f20 : M12 la = some (.inr (3, [.ref ra, .int (nI Ac.length), .int mda])) := ho17.at (hb_n2 (fun q9 => by rw [q9, fa] at fla; cases fla) (fun q9 => by rw [q9, fq] at fla; cases fla)) fla
    have f21 : M12 lp = some (.inr (3, [.ref rp, .int (nI Py.length), .int mdp])) := ho17.at (hb_n2 (fun q9 => by rw [q9, fa] at flp; cases flp) (fun q9 => by rw [q9, fq] at flp; cases flp)) flp
    refine W.eq (g2 := F0 m 33 ls []) rfl ?_
    refine lv_iconst (v := 1) hx hb d_Hb_decide_33 (by decide) ?_
    exact hb_iret hAe hx hb hr hlocks hP hD hS (Nat.le_of_ble_eq_true rfl) (Nat.le_of_ble_eq_true rfl) (⟨rfl, f15, f16, (hb_off.rf.tr ho17 (by simp))⟩) d_Hb_decide_34
  · skip
    exact absurd hs c11
set_option maxHeartbeats 4000000 in
set_option maxRecDepth 100000 in
theorem c_Hb_clear_no {l : Launch} {s0 : State} {D : va_G} {cI cJ cO : ClassId} {e0 mi : Nat} (hE : hb_E l s0 D cI cJ cO e0 mi) (M : hb_M) (x la lp nb ra rp : Nat) (ho pa tm : Int32) (Ac : List (Nat × hbA)) (Py : List (Nat × hbY)) (h : cR cO e0 M x la lp nb ra rp ho pa tm Ac Py) (hk : cOK Ac Py) (k : Int32) (hno : ∀ (i q : Nat) (r : hbY), Py[i]? = some (q, r) → r.1 ≠ k) (hkk : ¬ k < 0 ∧ ¬ 1000000 < k) (am : Int64) (hm : ¬ am < 1 ∧ ¬ 1000000000000 < am) (mo : Int32) : hb_Met l D hb_cl s0 y_Hb_clear b_Hb_clear 6 (some .long) { frames := 5, cells := 0, slots := 0, locals := 109 } [.ref x, .int k, .long am, .int mo] M (fun v M1 => v = some (.long (-6)) ∧ M1 = M) := by
  refine hb_Met.of (by decide) (Nat.le_of_ble_eq_true rfl) ?_
  intro p e s m below meth c A hAe hX hz hP hD hA hS ls hl
  obtain ⟨hx, hb, hr, hml, hown, hlocks, hnm, hG, hnh⟩ := id hX
  have hown : s.vm.findClass "HoldBook" = some m.cls := hown
  have hts := hE.ts hG ([.ref x, .int k, .long am, .int mo] : List Value).toArray
  have hK := hE.kn hG
  have hl : lv_has ls 6 [(0, .ref x), (1, .int k), (2, .long am), (4, .int mo)] := hl
  have fx := h.1
  obtain ⟨mda, fla⟩ := h.fla
  obtain ⟨mdp, flp⟩ := h.flp
  have hlA := hk.1
  have hlP := hk.2.1
  refine lv_iload_n hx hb d_Hb_clear_0 rfl (lv_at hl 1 rfl) ?_
  refine hb_callS (rest := []) hX hts hb_gd Y_Hb_checkKey (c_Hb_checkKey_ok hE M k hkk) ml_Hb_68 st_Hb_checkKey hz hP hD hS hA rfl hl.1 rfl (Nat.le_of_ble_eq_true rfl) ⟨Nat.le_of_ble_eq_true rfl, Nat.le_of_ble_eq_true rfl⟩ ⟨Nat.le_of_ble_eq_true rfl, Nat.le_of_ble_eq_true rfl⟩ d_Hb_clear_1 (fun v3 M1 H locs hq2 hP hD hS _ hkp => ?_)
  obtain ⟨ev4, eM5⟩ := hq2
  subst ev4
  rw [eM5] at hP hD
  refine W.eq (g2 := F0 m 4 ls []) rfl ?_
  refine lv_lload_n hx hb d_Hb_clear_4 rfl (lv_at hl 2 rfl) ?_
  refine hb_callS (rest := []) hX hts hb_gd Y_Hb_checkAmount (c_Hb_checkAmount_ok hE M am hm) ml_Hb_75 st_Hb_checkAmount hz hP hD hS hA rfl hl.1 rfl (Nat.le_of_ble_eq_true rfl) ⟨Nat.le_of_ble_eq_true rfl, Nat.le_of_ble_eq_true rfl⟩ ⟨Nat.le_of_ble_eq_true rfl, Nat.le_of_ble_eq_true rfl⟩ d_Hb_clear_5 (fun v8 M6 H locs hq7 hP hD hS _ hkp => ?_)
  obtain ⟨ev9, eM10⟩ := hq7
  subst ev9
  rw [eM10] at hP hD
  refine W.eq (g2 := F0 m 8 ls []) rfl ?_
  refine lv_aload_n hx hb d_Hb_clear_8 rfl (lv_at hl 0 rfl) ?_
  refine lv_iload_n hx hb d_Hb_clear_9 rfl (lv_at hl 1 rfl) ?_
  refine hb_callV (rest := []) hX hts hb_gd Y_Hb_find (c_Hb_find_no hE M x la lp nb ra rp ho pa tm Ac Py h hk k hno) ml_Hb_79 im_Hb_find se_Hb_find hK fx hC_Hb.1 hz hP hD hS hA rfl hl.1 rfl (Nat.le_of_ble_eq_true rfl) ⟨Nat.le_of_ble_eq_true rfl, Nat.le_of_ble_eq_true rfl⟩ ⟨Nat.le_of_ble_eq_true rfl, Nat.le_of_ble_eq_true rfl⟩ d_Hb_clear_10 (fun v13 M11 H locs hq12 hP hD hS _ hkp => ?_)
  obtain ⟨ev14, eM15⟩ := hq12
  subst ev14
  rw [eM15] at hP hD
  refine W.eq (g2 := F0 m 13 ls [.null]) rfl ?_
  refine lv_astoreN (lv' := [(5, .null), (0, .ref x), (1, .int k), (2, .long am), (4, .int mo)]) hx hb d_Hb_clear_13 hl (by decide) rfl (fun ls hl => ?_)
  refine lv_aloadN hx hb d_Hb_clear_15 (lv_at hl 0 rfl) ?_
  refine lv_ifnonnullN hx hb d_Hb_clear_17 ?_
  refine lv_ldc2 (v := (-6)) hx hb hown (hts _ kc_Hb_120) d_Hb_clear_20 ?_
  exact hb_lret hAe hx hb hr hlocks hP hD hS (Nat.le_of_ble_eq_true rfl) (Nat.le_of_ble_eq_true rfl) (⟨rfl, rfl⟩) d_Hb_clear_23
set_option maxHeartbeats 4000000 in
set_option maxRecDepth 100000 in
theorem c_Hb_clear_st {l : Launch} {s0 : State} {D : va_G} {cI cJ cO : ClassId} {e0 mi : Nat} (hE : hb_E l s0 D cI cJ cO e0 mi) (M : hb_M) (x la lp nb ra rp : Nat) (ho pa tm : Int32) (Ac : List (Nat × hbA)) (Py : List (Nat × hbY)) (h : cR cO e0 M x la lp nb ra rp ho pa tm Ac Py) (hk : cOK Ac Py) (i q : Nat) (r : hbY) (hi : Py[i]? = some (q, r)) (a : Nat) (an : Int32) (ak : hbA) (hac : hb_acc nb Ac r.2.1 = a) (fa : M a = some (aE an ak)) (hkk : ¬ r.1 < 0 ∧ ¬ 1000000 < r.1) (am : Int64) (hm : ¬ am < 1 ∧ ¬ 1000000000000 < am) (mo : Int32) (hs : r.2.2.1 ≠ 1) : hb_Met l D hb_cl s0 y_Hb_clear b_Hb_clear 6 (some .long) { frames := 5, cells := 0, slots := 0, locals := 109 } [.ref x, .int r.1, .long am, .int mo] M (fun v M1 => v = some (.long (-9)) ∧ M1 = M) := by
  refine hb_Met.of (by decide) (Nat.le_of_ble_eq_true rfl) ?_
  intro p e s m below meth c A hAe hX hz hP hD hA hS ls hl
  obtain ⟨hx, hb, hr, hml, hown, hlocks, hnm, hG, hnh⟩ := id hX
  have hown : s.vm.findClass "HoldBook" = some m.cls := hown
  have hts := hE.ts hG ([.ref x, .int r.1, .long am, .int mo] : List Value).toArray
  have hK := hE.kn hG
  have hl : lv_has ls 6 [(0, .ref x), (1, .int r.1), (2, .long am), (4, .int mo)] := hl
  have fx := h.1
  obtain ⟨mda, fla⟩ := h.fla
  obtain ⟨mdp, flp⟩ := h.flp
  have hlA := hk.1
  have hlP := hk.2.1
  have fq : M q = some (pE a r) := by have h9 := h.py hi; rw [hac] at h9; exact h9
  refine lv_iload_n hx hb d_Hb_clear_0 rfl (lv_at hl 1 rfl) ?_
  refine hb_callS (rest := []) hX hts hb_gd Y_Hb_checkKey (c_Hb_checkKey_ok hE M r.1 hkk) ml_Hb_68 st_Hb_checkKey hz hP hD hS hA rfl hl.1 rfl (Nat.le_of_ble_eq_true rfl) ⟨Nat.le_of_ble_eq_true rfl, Nat.le_of_ble_eq_true rfl⟩ ⟨Nat.le_of_ble_eq_true rfl, Nat.le_of_ble_eq_true rfl⟩ d_Hb_clear_1 (fun v3 M1 H locs hq2 hP hD hS _ hkp => ?_)
  obtain ⟨ev4, eM5⟩ := hq2
  subst ev4
  rw [eM5] at hP hD
  refine W.eq (g2 := F0 m 4 ls []) rfl ?_
  refine lv_lload_n hx hb d_Hb_clear_4 rfl (lv_at hl 2 rfl) ?_
  refine hb_callS (rest := []) hX hts hb_gd Y_Hb_checkAmount (c_Hb_checkAmount_ok hE M am hm) ml_Hb_75 st_Hb_checkAmount hz hP hD hS hA rfl hl.1 rfl (Nat.le_of_ble_eq_true rfl) ⟨Nat.le_of_ble_eq_true rfl, Nat.le_of_ble_eq_true rfl⟩ ⟨Nat.le_of_ble_eq_true rfl, Nat.le_of_ble_eq_true rfl⟩ d_Hb_clear_5 (fun v8 M6 H locs hq7 hP hD hS _ hkp => ?_)
  obtain ⟨ev9, eM10⟩ := hq7
  subst ev9
  rw [eM10] at hP hD
  refine W.eq (g2 := F0 m 8 ls []) rfl ?_
  refine lv_aload_n hx hb d_Hb_clear_8 rfl (lv_at hl 0 rfl) ?_
  refine lv_iload_n hx hb d_Hb_clear_9 rfl (lv_at hl 1 rfl) ?_
  refine hb_callV (rest := []) hX hts hb_gd Y_Hb_find (c_Hb_find_at hE M x la lp nb ra rp ho pa tm Ac Py h hk i q r hi) ml_Hb_79 im_Hb_find se_Hb_find hK fx hC_Hb.1 hz hP hD hS hA rfl hl.1 rfl (Nat.le_of_ble_eq_true rfl) ⟨Nat.le_of_ble_eq_true rfl, Nat.le_of_ble_eq_true rfl⟩ ⟨Nat.le_of_ble_eq_true rfl, Nat.le_of_ble_eq_true rfl⟩ d_Hb_clear_10 (fun v13 M11 H locs hq12 hP hD hS _ hkp => ?_)
  obtain ⟨ev14, eM15⟩ := hq12
  subst ev14
  rw [eM15] at hP hD
  refine W.eq (g2 := F0 m 13 ls [.ref q]) rfl ?_
  refine lv_astore (lv' := [(5, .ref q), (0, .ref x), (1, .int r.1), (2, .long am), (4, .int mo)]) hx hb d_Hb_clear_13 hl (by decide) rfl (fun ls hl => ?_)
  refine lv_aload hx hb d_Hb_clear_15 (lv_at hl 0 rfl) ?_
  refine lv_ifnonnull (tgt := 24) hx hb d_Hb_clear_17 (by decide) ?_
  refine lv_aload hx hb d_Hb_clear_24 (lv_at hl 0 rfl) ?_
  refine hb_get hx hb hts hown hC_Pay hK hP fq 2 (by decide) rfl fl_Hb_122 rfl d_Hb_clear_26 ?_
  refine lv_iconst (v := 1) hx hb d_Hb_clear_29 (by decide) ?_
  refine lv_icmp_eq (tgt := 37) hx hb d_Hb_clear_30 (by decide) (fun c16 => ?_) (fun c16 => ?_)
  · skip
    exact absurd c16 hs
  · skip
    refine lv_ldc2 (v := (-9)) hx hb hown (hts _ kc_Hb_125) d_Hb_clear_33 ?_
    exact hb_lret hAe hx hb hr hlocks hP hD hS (Nat.le_of_ble_eq_true rfl) (Nat.le_of_ble_eq_true rfl) (⟨rfl, rfl⟩) d_Hb_clear_36
set_option maxHeartbeats 4000000 in
set_option maxRecDepth 100000 in
theorem c_Hb_clear_mu {l : Launch} {s0 : State} {D : va_G} {cI cJ cO : ClassId} {e0 mi : Nat} (hE : hb_E l s0 D cI cJ cO e0 mi) (M : hb_M) (x la lp nb ra rp : Nat) (ho pa tm : Int32) (Ac : List (Nat × hbA)) (Py : List (Nat × hbY)) (h : cR cO e0 M x la lp nb ra rp ho pa tm Ac Py) (hk : cOK Ac Py) (i q : Nat) (r : hbY) (hi : Py[i]? = some (q, r)) (a : Nat) (an : Int32) (ak : hbA) (hac : hb_acc nb Ac r.2.1 = a) (fa : M a = some (aE an ak)) (hkk : ¬ r.1 < 0 ∧ ¬ 1000000 < r.1) (am : Int64) (hm : ¬ am < 1 ∧ ¬ 1000000000000 < am) (mo : Int32) (hs : r.2.2.1 = 1) (hmu : r.2.2.2.1 < am) : hb_Met l D hb_cl s0 y_Hb_clear b_Hb_clear 6 (some .long) { frames := 5, cells := 0, slots := 0, locals := 109 } [.ref x, .int r.1, .long am, .int mo] M (fun v M1 => v = some (.long (-11)) ∧ M1 = M) := by
  refine hb_Met.of (by decide) (Nat.le_of_ble_eq_true rfl) ?_
  intro p e s m below meth c A hAe hX hz hP hD hA hS ls hl
  obtain ⟨hx, hb, hr, hml, hown, hlocks, hnm, hG, hnh⟩ := id hX
  have hown : s.vm.findClass "HoldBook" = some m.cls := hown
  have hts := hE.ts hG ([.ref x, .int r.1, .long am, .int mo] : List Value).toArray
  have hK := hE.kn hG
  have hl : lv_has ls 6 [(0, .ref x), (1, .int r.1), (2, .long am), (4, .int mo)] := hl
  have fx := h.1
  obtain ⟨mda, fla⟩ := h.fla
  obtain ⟨mdp, flp⟩ := h.flp
  have hlA := hk.1
  have hlP := hk.2.1
  have fq : M q = some (pE a r) := by have h9 := h.py hi; rw [hac] at h9; exact h9
  refine lv_iload_n hx hb d_Hb_clear_0 rfl (lv_at hl 1 rfl) ?_
  refine hb_callS (rest := []) hX hts hb_gd Y_Hb_checkKey (c_Hb_checkKey_ok hE M r.1 hkk) ml_Hb_68 st_Hb_checkKey hz hP hD hS hA rfl hl.1 rfl (Nat.le_of_ble_eq_true rfl) ⟨Nat.le_of_ble_eq_true rfl, Nat.le_of_ble_eq_true rfl⟩ ⟨Nat.le_of_ble_eq_true rfl, Nat.le_of_ble_eq_true rfl⟩ d_Hb_clear_1 (fun v3 M1 H locs hq2 hP hD hS _ hkp => ?_)
  obtain ⟨ev4, eM5⟩ := hq2
  subst ev4
  rw [eM5] at hP hD
  refine W.eq (g2 := F0 m 4 ls []) rfl ?_
  refine lv_lload_n hx hb d_Hb_clear_4 rfl (lv_at hl 2 rfl) ?_
  refine hb_callS (rest := []) hX hts hb_gd Y_Hb_checkAmount (c_Hb_checkAmount_ok hE M am hm) ml_Hb_75 st_Hb_checkAmount hz hP hD hS hA rfl hl.1 rfl (Nat.le_of_ble_eq_true rfl) ⟨Nat.le_of_ble_eq_true rfl, Nat.le_of_ble_eq_true rfl⟩ ⟨Nat.le_of_ble_eq_true rfl, Nat.le_of_ble_eq_true rfl⟩ d_Hb_clear_5 (fun v8 M6 H locs hq7 hP hD hS _ hkp => ?_)
  obtain ⟨ev9, eM10⟩ := hq7
  subst ev9
  rw [eM10] at hP hD
  refine W.eq (g2 := F0 m 8 ls []) rfl ?_
  refine lv_aload_n hx hb d_Hb_clear_8 rfl (lv_at hl 0 rfl) ?_
  refine lv_iload_n hx hb d_Hb_clear_9 rfl (lv_at hl 1 rfl) ?_
  refine hb_callV (rest := []) hX hts hb_gd Y_Hb_find (c_Hb_find_at hE M x la lp nb ra rp ho pa tm Ac Py h hk i q r hi) ml_Hb_79 im_Hb_find se_Hb_find hK fx hC_Hb.1 hz hP hD hS hA rfl hl.1 rfl (Nat.le_of_ble_eq_true rfl) ⟨Nat.le_of_ble_eq_true rfl, Nat.le_of_ble_eq_true rfl⟩ ⟨Nat.le_of_ble_eq_true rfl, Nat.le_of_ble_eq_true rfl⟩ d_Hb_clear_10 (fun v13 M11 H locs hq12 hP hD hS _ hkp => ?_)
  obtain ⟨ev14, eM15⟩ := hq12
  subst ev14
  rw [eM15] at hP hD
  refine W.eq (g2 := F0 m 13 ls [.ref q]) rfl ?_
  refine lv_astore (lv' := [(5, .ref q), (0, .ref x), (1, .int r.1), (2, .long am), (4, .int mo)]) hx hb d_Hb_clear_13 hl (by decide) rfl (fun ls hl => ?_)
  refine lv_aload hx hb d_Hb_clear_15 (lv_at hl 0 rfl) ?_
  refine lv_ifnonnull (tgt := 24) hx hb d_Hb_clear_17 (by decide) ?_
  refine lv_aload hx hb d_Hb_clear_24 (lv_at hl 0 rfl) ?_
  refine hb_get hx hb hts hown hC_Pay hK hP fq 2 (by decide) rfl fl_Hb_122 rfl d_Hb_clear_26 ?_
  refine lv_iconst (v := 1) hx hb d_Hb_clear_29 (by decide) ?_
  refine lv_icmp_eq (tgt := 37) hx hb d_Hb_clear_30 (by decide) (fun c16 => ?_) (fun c16 => ?_)
  · skip
    refine lv_lload_n hx hb d_Hb_clear_37 rfl (lv_at hl 3 rfl) ?_
    refine lv_aload hx hb d_Hb_clear_38 (lv_at hl 0 rfl) ?_
    refine hb_get hx hb hts hown hC_Pay hK hP fq 3 (by decide) rfl fl_Hb_116 rfl d_Hb_clear_40 ?_
    refine hb_lc_le (tgt := 51) hx hb d_Hb_clear_43 d_Hb_clear_44 (by decide) (fun c17 => ?_) (fun c17 => ?_)
    · skip
      have c17n := hb_ngt c17
      exact absurd hmu (hb_ngt c17)
    · skip
      have c17n := hb_gt c17
      refine lv_ldc2 (v := (-11)) hx hb hown (hts _ kc_Hb_127) d_Hb_clear_47 ?_
      exact hb_lret hAe hx hb hr hlocks hP hD hS (Nat.le_of_ble_eq_true rfl) (Nat.le_of_ble_eq_true rfl) (⟨rfl, rfl⟩) d_Hb_clear_50
  · skip
    exact absurd hs c16
set_option maxHeartbeats 4000000 in
set_option maxRecDepth 100000 in
theorem c_Hb_clear_part {l : Launch} {s0 : State} {D : va_G} {cI cJ cO : ClassId} {e0 mi : Nat} (hE : hb_E l s0 D cI cJ cO e0 mi) (M : hb_M) (x la lp nb ra rp : Nat) (ho pa tm : Int32) (Ac : List (Nat × hbA)) (Py : List (Nat × hbY)) (h : cR cO e0 M x la lp nb ra rp ho pa tm Ac Py) (hk : cOK Ac Py) (i q : Nat) (r : hbY) (hi : Py[i]? = some (q, r)) (a : Nat) (an : Int32) (ak : hbA) (hac : hb_acc nb Ac r.2.1 = a) (fa : M a = some (aE an ak)) (hkk : ¬ r.1 < 0 ∧ ¬ 1000000 < r.1) (am : Int64) (hm : ¬ am < 1 ∧ ¬ 1000000000000 < am) (mo : Int32) (hs : r.2.2.1 = 1) (hmu : ¬ r.2.2.2.1 < am) (hmo : mo ≠ 0) (hle : r.2.2.2.1 - am ≠ 0) : hb_Met l D hb_cl s0 y_Hb_clear b_Hb_clear 6 (some .long) { frames := 5, cells := 0, slots := 0, locals := 109 } [.ref x, .int r.1, .long am, .int mo] M (fun v M1 => v = some (.long (r.2.2.2.1 - am)) ∧ M1 a = some (.inr (0, [.int an, .long ak.1, .long ak.2.1, .long (ak.2.2.1 - am), .long (ak.2.2.2.1 + ((r.2.2.2.1 - am) - r.2.2.2.1)), .long ak.2.2.2.2])) ∧ M1 q = some (.inr (1, [.int r.1, .ref a, .int r.2.2.1, .long (r.2.2.2.1 - am), .long (r.2.2.2.2.1 + am), .int r.2.2.2.2.2.1, .int r.2.2.2.2.2.2.1, .int r.2.2.2.2.2.2.2.1, .long r.2.2.2.2.2.2.2.2.1, .int r.2.2.2.2.2.2.2.2.2])) ∧ hb_off [a, q] M M1) := by
  refine hb_Met.of (by decide) (Nat.le_of_ble_eq_true rfl) ?_
  intro p e s m below meth c A hAe hX hz hP hD hA hS ls hl
  obtain ⟨hx, hb, hr, hml, hown, hlocks, hnm, hG, hnh⟩ := id hX
  have hown : s.vm.findClass "HoldBook" = some m.cls := hown
  have hts := hE.ts hG ([.ref x, .int r.1, .long am, .int mo] : List Value).toArray
  have hK := hE.kn hG
  have hl : lv_has ls 6 [(0, .ref x), (1, .int r.1), (2, .long am), (4, .int mo)] := hl
  have fx := h.1
  obtain ⟨mda, fla⟩ := h.fla
  obtain ⟨mdp, flp⟩ := h.flp
  have hlA := hk.1
  have hlP := hk.2.1
  have fq : M q = some (pE a r) := by have h9 := h.py hi; rw [hac] at h9; exact h9
  refine lv_iload_n hx hb d_Hb_clear_0 rfl (lv_at hl 1 rfl) ?_
  refine hb_callS (rest := []) hX hts hb_gd Y_Hb_checkKey (c_Hb_checkKey_ok hE M r.1 hkk) ml_Hb_68 st_Hb_checkKey hz hP hD hS hA rfl hl.1 rfl (Nat.le_of_ble_eq_true rfl) ⟨Nat.le_of_ble_eq_true rfl, Nat.le_of_ble_eq_true rfl⟩ ⟨Nat.le_of_ble_eq_true rfl, Nat.le_of_ble_eq_true rfl⟩ d_Hb_clear_1 (fun v3 M1 H locs hq2 hP hD hS _ hkp => ?_)
  obtain ⟨ev4, eM5⟩ := hq2
  subst ev4
  rw [eM5] at hP hD
  refine W.eq (g2 := F0 m 4 ls []) rfl ?_
  refine lv_lload_n hx hb d_Hb_clear_4 rfl (lv_at hl 2 rfl) ?_
  refine hb_callS (rest := []) hX hts hb_gd Y_Hb_checkAmount (c_Hb_checkAmount_ok hE M am hm) ml_Hb_75 st_Hb_checkAmount hz hP hD hS hA rfl hl.1 rfl (Nat.le_of_ble_eq_true rfl) ⟨Nat.le_of_ble_eq_true rfl, Nat.le_of_ble_eq_true rfl⟩ ⟨Nat.le_of_ble_eq_true rfl, Nat.le_of_ble_eq_true rfl⟩ d_Hb_clear_5 (fun v8 M6 H locs hq7 hP hD hS _ hkp => ?_)
  obtain ⟨ev9, eM10⟩ := hq7
  subst ev9
  rw [eM10] at hP hD
  refine W.eq (g2 := F0 m 8 ls []) rfl ?_
  refine lv_aload_n hx hb d_Hb_clear_8 rfl (lv_at hl 0 rfl) ?_
  refine lv_iload_n hx hb d_Hb_clear_9 rfl (lv_at hl 1 rfl) ?_
  refine hb_callV (rest := []) hX hts hb_gd Y_Hb_find (c_Hb_find_at hE M x la lp nb ra rp ho pa tm Ac Py h hk i q r hi) ml_Hb_79 im_Hb_find se_Hb_find hK fx hC_Hb.1 hz hP hD hS hA rfl hl.1 rfl (Nat.le_of_ble_eq_true rfl) ⟨Nat.le_of_ble_eq_true rfl, Nat.le_of_ble_eq_true rfl⟩ ⟨Nat.le_of_ble_eq_true rfl, Nat.le_of_ble_eq_true rfl⟩ d_Hb_clear_10 (fun v13 M11 H locs hq12 hP hD hS _ hkp => ?_)
  obtain ⟨ev14, eM15⟩ := hq12
  subst ev14
  rw [eM15] at hP hD
  refine W.eq (g2 := F0 m 13 ls [.ref q]) rfl ?_
  refine lv_astore (lv' := [(5, .ref q), (0, .ref x), (1, .int r.1), (2, .long am), (4, .int mo)]) hx hb d_Hb_clear_13 hl (by decide) rfl (fun ls hl => ?_)
  refine lv_aload hx hb d_Hb_clear_15 (lv_at hl 0 rfl) ?_
  refine lv_ifnonnull (tgt := 24) hx hb d_Hb_clear_17 (by decide) ?_
  refine lv_aload hx hb d_Hb_clear_24 (lv_at hl 0 rfl) ?_
  refine hb_get hx hb hts hown hC_Pay hK hP fq 2 (by decide) rfl fl_Hb_122 rfl d_Hb_clear_26 ?_
  refine lv_iconst (v := 1) hx hb d_Hb_clear_29 (by decide) ?_
  refine lv_icmp_eq (tgt := 37) hx hb d_Hb_clear_30 (by decide) (fun c16 => ?_) (fun c16 => ?_)
  · skip
    refine lv_lload_n hx hb d_Hb_clear_37 rfl (lv_at hl 3 rfl) ?_
    refine lv_aload hx hb d_Hb_clear_38 (lv_at hl 0 rfl) ?_
    refine hb_get hx hb hts hown hC_Pay hK hP fq 3 (by decide) rfl fl_Hb_116 rfl d_Hb_clear_40 ?_
    refine hb_lc_le (tgt := 51) hx hb d_Hb_clear_43 d_Hb_clear_44 (by decide) (fun c17 => ?_) (fun c17 => ?_)
    · skip
      have c17n := hb_ngt c17
      refine lv_aload hx hb d_Hb_clear_51 (lv_at hl 0 rfl) ?_
      refine lv_lload_n hx hb d_Hb_clear_53 rfl (lv_at hl 3 rfl) ?_
      refine hb_callV (rest := []) hX hts hb_gd Y_Pay_take (c_Pay_take hE M q a an ak.1 ak.2.1 ak.2.2.1 ak.2.2.2.1 ak.2.2.2.2 r.1 r.2.2.1 r.2.2.2.2.2.1 r.2.2.2.2.2.2.1 r.2.2.2.2.2.2.2.1 r.2.2.2.2.2.2.2.2.2 r.2.2.2.1 r.2.2.2.2.1 r.2.2.2.2.2.2.2.2.1 fa fq am) ml_Hb_129 im_Pay_take se_Pay_take hK fq hC_Pay.1 hz hP hD hS hA rfl hl.1 rfl (Nat.le_of_ble_eq_true rfl) ⟨Nat.le_of_ble_eq_true rfl, Nat.le_of_ble_eq_true rfl⟩ ⟨Nat.le_of_ble_eq_true rfl, Nat.le_of_ble_eq_true rfl⟩ d_Hb_clear_54 (fun v20 M18 H locs hq19 hP hD hS _ hkp => ?_)
      obtain ⟨ev24, f21, f22, ho23⟩ := hq19
      subst ev24
      have f25 : M18 x = some (.inr (2, [.int ho, .int pa, .ref la, .ref lp, .ref nb, .int tm])) := ho23.at (hb_n2 (fun q9 => by rw [q9, fa] at fx; cases fx) (fun q9 => by rw [q9, fq] at fx; cases fx)) fx
      have f26 : M18 la = some (.inr (3, [.ref ra, .int (nI Ac.length), .int mda])) := ho23.at (hb_n2 (fun q9 => by rw [q9, fa] at fla; cases fla) (fun q9 => by rw [q9, fq] at fla; cases fla)) fla
      have f27 : M18 lp = some (.inr (3, [.ref rp, .int (nI Py.length), .int mdp])) := ho23.at (hb_n2 (fun q9 => by rw [q9, fa] at flp; cases flp) (fun q9 => by rw [q9, fq] at flp; cases flp)) flp
      refine W.eq (g2 := F0 m 57 ls []) rfl ?_
      refine lv_iload hx hb d_Hb_clear_57 (lv_at hl 4 rfl) ?_
      refine lv_if_eq (tgt := 72) hx hb d_Hb_clear_59 (by decide) (fun c28 => ?_) (fun c28 => ?_)
      · skip
        exact absurd c28 hmo
      · skip
        refine lv_aload hx hb d_Hb_clear_62 (lv_at hl 0 rfl) ?_
        refine hb_get hx hb hts hown hC_Pay hK hP f22 3 (by decide) rfl fl_Hb_116 rfl d_Hb_clear_64 ?_
        refine lv_lconst (v := 0) hx hb d_Hb_clear_67 (by decide) ?_
        refine hb_lc_ne (tgt := 81) hx hb d_Hb_clear_68 d_Hb_clear_69 (by decide) (fun c29 => ?_) (fun c29 => ?_)
        · skip
          refine lv_aload hx hb d_Hb_clear_81 (lv_at hl 0 rfl) ?_
          refine hb_get hx hb hts hown hC_Pay hK hP f22 3 (by decide) rfl fl_Hb_116 rfl d_Hb_clear_83 ?_
          exact hb_lret hAe hx hb hr hlocks hP hD hS (Nat.le_of_ble_eq_true rfl) (Nat.le_of_ble_eq_true rfl) (⟨rfl, f21, f22, (hb_off.rf.tr ho23 (by simp))⟩) d_Hb_clear_86
        · skip
          exact absurd c29 hle
    · skip
      have c17n := hb_gt c17
      exact absurd (hb_gt c17) hmu
  · skip
    exact absurd hs c16
set_option maxHeartbeats 4000000 in
set_option maxRecDepth 100000 in
theorem c_Hb_clear_end {l : Launch} {s0 : State} {D : va_G} {cI cJ cO : ClassId} {e0 mi : Nat} (hE : hb_E l s0 D cI cJ cO e0 mi) (M : hb_M) (x la lp nb ra rp : Nat) (ho pa tm : Int32) (Ac : List (Nat × hbA)) (Py : List (Nat × hbY)) (h : cR cO e0 M x la lp nb ra rp ho pa tm Ac Py) (hk : cOK Ac Py) (i q : Nat) (r : hbY) (hi : Py[i]? = some (q, r)) (a : Nat) (an : Int32) (ak : hbA) (hac : hb_acc nb Ac r.2.1 = a) (fa : M a = some (aE an ak)) (hkk : ¬ r.1 < 0 ∧ ¬ 1000000 < r.1) (am : Int64) (hm : ¬ am < 1 ∧ ¬ 1000000000000 < am) (mo : Int32) (hs : r.2.2.1 = 1) (hmu : ¬ r.2.2.2.1 < am) (hfi : mo = 0 ∨ r.2.2.2.1 - am = 0) : hb_Met l D hb_cl s0 y_Hb_clear b_Hb_clear 6 (some .long) { frames := 5, cells := 0, slots := 0, locals := 109 } [.ref x, .int r.1, .long am, .int mo] M (fun v M1 => v = some (.long 0) ∧ M1 a = some (.inr (0, [.int an, .long ak.1, .long ak.2.1, .long (ak.2.2.1 - am), .long ((ak.2.2.2.1 + ((r.2.2.2.1 - am) - r.2.2.2.1)) + (0 - (r.2.2.2.1 - am))), .long ak.2.2.2.2])) ∧ M1 q = some (.inr (1, [.int r.1, .ref a, .int (if 0 < (r.2.2.2.2.1 + am) then 3 else 2), .long 0, .long (r.2.2.2.2.1 + am), .int 0, .int (if 0 < (r.2.2.2.2.1 + am) then tm else r.2.2.2.2.2.2.1), .int r.2.2.2.2.2.2.2.1, .long r.2.2.2.2.2.2.2.2.1, .int r.2.2.2.2.2.2.2.2.2])) ∧ hb_off [a, q] M M1) := by
  refine hb_Met.of (by decide) (Nat.le_of_ble_eq_true rfl) ?_
  intro p e s m below meth c A hAe hX hz hP hD hA hS ls hl
  obtain ⟨hx, hb, hr, hml, hown, hlocks, hnm, hG, hnh⟩ := id hX
  have hown : s.vm.findClass "HoldBook" = some m.cls := hown
  have hts := hE.ts hG ([.ref x, .int r.1, .long am, .int mo] : List Value).toArray
  have hK := hE.kn hG
  have hl : lv_has ls 6 [(0, .ref x), (1, .int r.1), (2, .long am), (4, .int mo)] := hl
  have fx := h.1
  obtain ⟨mda, fla⟩ := h.fla
  obtain ⟨mdp, flp⟩ := h.flp
  have hlA := hk.1
  have hlP := hk.2.1
  have fq : M q = some (pE a r) := by have h9 := h.py hi; rw [hac] at h9; exact h9
  refine lv_iload_n hx hb d_Hb_clear_0 rfl (lv_at hl 1 rfl) ?_
  refine hb_callS (rest := []) hX hts hb_gd Y_Hb_checkKey (c_Hb_checkKey_ok hE M r.1 hkk) ml_Hb_68 st_Hb_checkKey hz hP hD hS hA rfl hl.1 rfl (Nat.le_of_ble_eq_true rfl) ⟨Nat.le_of_ble_eq_true rfl, Nat.le_of_ble_eq_true rfl⟩ ⟨Nat.le_of_ble_eq_true rfl, Nat.le_of_ble_eq_true rfl⟩ d_Hb_clear_1 (fun v3 M1 H locs hq2 hP hD hS _ hkp => ?_)
  obtain ⟨ev4, eM5⟩ := hq2
  subst ev4
  rw [eM5] at hP hD
  refine W.eq (g2 := F0 m 4 ls []) rfl ?_
  refine lv_lload_n hx hb d_Hb_clear_4 rfl (lv_at hl 2 rfl) ?_
  refine hb_callS (rest := []) hX hts hb_gd Y_Hb_checkAmount (c_Hb_checkAmount_ok hE M am hm) ml_Hb_75 st_Hb_checkAmount hz hP hD hS hA rfl hl.1 rfl (Nat.le_of_ble_eq_true rfl) ⟨Nat.le_of_ble_eq_true rfl, Nat.le_of_ble_eq_true rfl⟩ ⟨Nat.le_of_ble_eq_true rfl, Nat.le_of_ble_eq_true rfl⟩ d_Hb_clear_5 (fun v8 M6 H locs hq7 hP hD hS _ hkp => ?_)
  obtain ⟨ev9, eM10⟩ := hq7
  subst ev9
  rw [eM10] at hP hD
  refine W.eq (g2 := F0 m 8 ls []) rfl ?_
  refine lv_aload_n hx hb d_Hb_clear_8 rfl (lv_at hl 0 rfl) ?_
  refine lv_iload_n hx hb d_Hb_clear_9 rfl (lv_at hl 1 rfl) ?_
  refine hb_callV (rest := []) hX hts hb_gd Y_Hb_find (c_Hb_find_at hE M x la lp nb ra rp ho pa tm Ac Py h hk i q r hi) ml_Hb_79 im_Hb_find se_Hb_find hK fx hC_Hb.1 hz hP hD hS hA rfl hl.1 rfl (Nat.le_of_ble_eq_true rfl) ⟨Nat.le_of_ble_eq_true rfl, Nat.le_of_ble_eq_true rfl⟩ ⟨Nat.le_of_ble_eq_true rfl, Nat.le_of_ble_eq_true rfl⟩ d_Hb_clear_10 (fun v13 M11 H locs hq12 hP hD hS _ hkp => ?_)
  obtain ⟨ev14, eM15⟩ := hq12
  subst ev14
  rw [eM15] at hP hD
  refine W.eq (g2 := F0 m 13 ls [.ref q]) rfl ?_
  refine lv_astore (lv' := [(5, .ref q), (0, .ref x), (1, .int r.1), (2, .long am), (4, .int mo)]) hx hb d_Hb_clear_13 hl (by decide) rfl (fun ls hl => ?_)
  refine lv_aload hx hb d_Hb_clear_15 (lv_at hl 0 rfl) ?_
  refine lv_ifnonnull (tgt := 24) hx hb d_Hb_clear_17 (by decide) ?_
  refine lv_aload hx hb d_Hb_clear_24 (lv_at hl 0 rfl) ?_
  refine hb_get hx hb hts hown hC_Pay hK hP fq 2 (by decide) rfl fl_Hb_122 rfl d_Hb_clear_26 ?_
  refine lv_iconst (v := 1) hx hb d_Hb_clear_29 (by decide) ?_
  refine lv_icmp_eq (tgt := 37) hx hb d_Hb_clear_30 (by decide) (fun c16 => ?_) (fun c16 => ?_)
  · skip
    refine lv_lload_n hx hb d_Hb_clear_37 rfl (lv_at hl 3 rfl) ?_
    refine lv_aload hx hb d_Hb_clear_38 (lv_at hl 0 rfl) ?_
    refine hb_get hx hb hts hown hC_Pay hK hP fq 3 (by decide) rfl fl_Hb_116 rfl d_Hb_clear_40 ?_
    refine hb_lc_le (tgt := 51) hx hb d_Hb_clear_43 d_Hb_clear_44 (by decide) (fun c17 => ?_) (fun c17 => ?_)
    · skip
      have c17n := hb_ngt c17
      refine lv_aload hx hb d_Hb_clear_51 (lv_at hl 0 rfl) ?_
      refine lv_lload_n hx hb d_Hb_clear_53 rfl (lv_at hl 3 rfl) ?_
      refine hb_callV (rest := []) hX hts hb_gd Y_Pay_take (c_Pay_take hE M q a an ak.1 ak.2.1 ak.2.2.1 ak.2.2.2.1 ak.2.2.2.2 r.1 r.2.2.1 r.2.2.2.2.2.1 r.2.2.2.2.2.2.1 r.2.2.2.2.2.2.2.1 r.2.2.2.2.2.2.2.2.2 r.2.2.2.1 r.2.2.2.2.1 r.2.2.2.2.2.2.2.2.1 fa fq am) ml_Hb_129 im_Pay_take se_Pay_take hK fq hC_Pay.1 hz hP hD hS hA rfl hl.1 rfl (Nat.le_of_ble_eq_true rfl) ⟨Nat.le_of_ble_eq_true rfl, Nat.le_of_ble_eq_true rfl⟩ ⟨Nat.le_of_ble_eq_true rfl, Nat.le_of_ble_eq_true rfl⟩ d_Hb_clear_54 (fun v20 M18 H locs hq19 hP hD hS _ hkp => ?_)
      obtain ⟨ev24, f21, f22, ho23⟩ := hq19
      subst ev24
      have f25 : M18 x = some (.inr (2, [.int ho, .int pa, .ref la, .ref lp, .ref nb, .int tm])) := ho23.at (hb_n2 (fun q9 => by rw [q9, fa] at fx; cases fx) (fun q9 => by rw [q9, fq] at fx; cases fx)) fx
      have f26 : M18 la = some (.inr (3, [.ref ra, .int (nI Ac.length), .int mda])) := ho23.at (hb_n2 (fun q9 => by rw [q9, fa] at fla; cases fla) (fun q9 => by rw [q9, fq] at fla; cases fla)) fla
      have f27 : M18 lp = some (.inr (3, [.ref rp, .int (nI Py.length), .int mdp])) := ho23.at (hb_n2 (fun q9 => by rw [q9, fa] at flp; cases flp) (fun q9 => by rw [q9, fq] at flp; cases flp)) flp
      refine W.eq (g2 := F0 m 57 ls []) rfl ?_
      refine lv_iload hx hb d_Hb_clear_57 (lv_at hl 4 rfl) ?_
      refine lv_if_eq (tgt := 72) hx hb d_Hb_clear_59 (by decide) (fun c28 => ?_) (fun c28 => ?_)
      · skip
        refine lv_aload hx hb d_Hb_clear_72 (lv_at hl 0 rfl) ?_
        refine lv_aload_n hx hb d_Hb_clear_74 rfl (lv_at hl 1 rfl) ?_
        refine hb_get hx hb hts hown hC_Hb hK hP f25 5 (by decide) rfl fl_Hb_28 rfl d_Hb_clear_75 ?_
        refine hb_callV (rest := []) hX hts hb_gd Y_Pay_endHold (c_Pay_endHold hE M18 q a an ak.1 ak.2.1 (ak.2.2.1 - am) (ak.2.2.2.1 + ((r.2.2.2.1 - am) - r.2.2.2.1)) ak.2.2.2.2 r.1 r.2.2.1 r.2.2.2.2.2.1 r.2.2.2.2.2.2.1 r.2.2.2.2.2.2.2.1 r.2.2.2.2.2.2.2.2.2 (r.2.2.2.1 - am) (r.2.2.2.2.1 + am) r.2.2.2.2.2.2.2.2.1 f21 f22 tm) ml_Hb_132 im_Pay_endHold se_Pay_endHold hK f22 hC_Pay.1 hz hP hD hS hA rfl hl.1 rfl (Nat.le_of_ble_eq_true rfl) ⟨Nat.le_of_ble_eq_true rfl, Nat.le_of_ble_eq_true rfl⟩ ⟨Nat.le_of_ble_eq_true rfl, Nat.le_of_ble_eq_true rfl⟩ d_Hb_clear_78 (fun v31 M29 H locs hq30 hP hD hS _ hkp => ?_)
        obtain ⟨ev35, f32, f33, ho34⟩ := hq30
        subst ev35
        have f36 : M29 x = some (.inr (2, [.int ho, .int pa, .ref la, .ref lp, .ref nb, .int tm])) := ho34.at (hb_n2 (fun q9 => by rw [q9, f21] at f25; cases f25) (fun q9 => by rw [q9, f22] at f25; cases f25)) f25
        have f37 : M29 la = some (.inr (3, [.ref ra, .int (nI Ac.length), .int mda])) := ho34.at (hb_n2 (fun q9 => by rw [q9, f21] at f26; cases f26) (fun q9 => by rw [q9, f22] at f26; cases f26)) f26
        have f38 : M29 lp = some (.inr (3, [.ref rp, .int (nI Py.length), .int mdp])) := ho34.at (hb_n2 (fun q9 => by rw [q9, f21] at f27; cases f27) (fun q9 => by rw [q9, f22] at f27; cases f27)) f27
        refine W.eq (g2 := F0 m 81 ls []) rfl ?_
        refine lv_aload hx hb d_Hb_clear_81 (lv_at hl 0 rfl) ?_
        refine hb_get hx hb hts hown hC_Pay hK hP f33 3 (by decide) rfl fl_Hb_116 rfl d_Hb_clear_83 ?_
        exact hb_lret hAe hx hb hr hlocks hP hD hS (Nat.le_of_ble_eq_true rfl) (Nat.le_of_ble_eq_true rfl) (⟨rfl, f32, f33, ((hb_off.rf.tr ho23 (by simp)).tr ho34 (by simp))⟩) d_Hb_clear_86
      · skip
        refine lv_aload hx hb d_Hb_clear_62 (lv_at hl 0 rfl) ?_
        refine hb_get hx hb hts hown hC_Pay hK hP f22 3 (by decide) rfl fl_Hb_116 rfl d_Hb_clear_64 ?_
        refine lv_lconst (v := 0) hx hb d_Hb_clear_67 (by decide) ?_
        refine hb_lc_ne (tgt := 81) hx hb d_Hb_clear_68 d_Hb_clear_69 (by decide) (fun c39 => ?_) (fun c39 => ?_)
        · skip
          exact absurd hfi (by intro z; rcases z with z | z; exact absurd z (by assumption); exact absurd z c39)
        · skip
          refine lv_aload hx hb d_Hb_clear_72 (lv_at hl 0 rfl) ?_
          refine lv_aload_n hx hb d_Hb_clear_74 rfl (lv_at hl 1 rfl) ?_
          refine hb_get hx hb hts hown hC_Hb hK hP f25 5 (by decide) rfl fl_Hb_28 rfl d_Hb_clear_75 ?_
          refine hb_callV (rest := []) hX hts hb_gd Y_Pay_endHold (c_Pay_endHold hE M18 q a an ak.1 ak.2.1 (ak.2.2.1 - am) (ak.2.2.2.1 + ((r.2.2.2.1 - am) - r.2.2.2.1)) ak.2.2.2.2 r.1 r.2.2.1 r.2.2.2.2.2.1 r.2.2.2.2.2.2.1 r.2.2.2.2.2.2.2.1 r.2.2.2.2.2.2.2.2.2 (r.2.2.2.1 - am) (r.2.2.2.2.1 + am) r.2.2.2.2.2.2.2.2.1 f21 f22 tm) ml_Hb_132 im_Pay_endHold se_Pay_endHold hK f22 hC_Pay.1 hz hP hD hS hA rfl hl.1 rfl (Nat.le_of_ble_eq_true rfl) ⟨Nat.le_of_ble_eq_true rfl, Nat.le_of_ble_eq_true rfl⟩ ⟨Nat.le_of_ble_eq_true rfl, Nat.le_of_ble_eq_true rfl⟩ d_Hb_clear_78 (fun v42 M40 H locs hq41 hP hD hS _ hkp => ?_)
          obtain ⟨ev46, f43, f44, ho45⟩ := hq41
          subst ev46
          have f47 : M40 x = some (.inr (2, [.int ho, .int pa, .ref la, .ref lp, .ref nb, .int tm])) := ho45.at (hb_n2 (fun q9 => by rw [q9, f21] at f25; cases f25) (fun q9 => by rw [q9, f22] at f25; cases f25)) f25
          have f48 : M40 la = some (.inr (3, [.ref ra, .int (nI Ac.length), .int mda])) := ho45.at (hb_n2 (fun q9 => by rw [q9, f21] at f26; cases f26) (fun q9 => by rw [q9, f22] at f26; cases f26)) f26
          have f49 : M40 lp = some (.inr (3, [.ref rp, .int (nI Py.length), .int mdp])) := ho45.at (hb_n2 (fun q9 => by rw [q9, f21] at f27; cases f27) (fun q9 => by rw [q9, f22] at f27; cases f27)) f27
          refine W.eq (g2 := F0 m 81 ls []) rfl ?_
          refine lv_aload hx hb d_Hb_clear_81 (lv_at hl 0 rfl) ?_
          refine hb_get hx hb hts hown hC_Pay hK hP f44 3 (by decide) rfl fl_Hb_116 rfl d_Hb_clear_83 ?_
          exact hb_lret hAe hx hb hr hlocks hP hD hS (Nat.le_of_ble_eq_true rfl) (Nat.le_of_ble_eq_true rfl) (⟨rfl, f43, f44, ((hb_off.rf.tr ho23 (by simp)).tr ho45 (by simp))⟩) d_Hb_clear_86
    · skip
      have c17n := hb_gt c17
      exact absurd (hb_gt c17) hmu
  · skip
    exact absurd hs c16
end
section
/-! THE CLASS'S STATE after a change of some cells -/
theorem hb_lst.kp {cO : ClassId} {e0 : Nat} {M M1 : hb_M} {t ar : Nat} {xs L : List Nat} (h : hb_lst cO e0 M t ar xs) (hk : hb_kp L M M1) (ht : ∀ fs, M t = some (.inr (3, fs)) → t ∉ L) (ha : ∀ z, M ar = some (.inl z) → ar ∉ L) : hb_lst cO e0 M1 t ar xs := by
  obtain ⟨md, h1, h2⟩ := h
  refine ⟨md, hk t _ (ht _ h1) h1, ?_⟩
  rcases h2 with h2 | ⟨cap, f, h3, h4⟩
  · exact Or.inl h2
  · exact Or.inr ⟨cap, f, hk ar _ (ha _ h3) h3, h4⟩
theorem hb_m1 {n : Nat} (h : n < 2 ^ 31) : nI n ≠ -1 := by
  intro z
  have h1 := nI_toInt h
  rw [z] at h1
  have h2 : (-1 : Int32).toInt = -1 := by decide
  omega
theorem hb_eqi {a b : Nat} (ha : a < 2 ^ 31) (hb : b < 2 ^ 31) (h : nI a = nI b) : a = b := (nI_eq ha hb).mp h
section CR3
variable {cO : ClassId} {e0 : Nat} {M M1 : hb_M} {x la lp nb ra rp : Nat} {ho pa tm : Int32} {Ac : List (Nat × hbA)} {Py : List (Nat × hbY)}
theorem hb_acc_nI {nb k a : Nat} {r : hbA} (hk : k < 2 ^ 31) (ha : Ac[k]? = some (a, r)) : hb_acc nb Ac (nI k) = a := by
  unfold hb_acc
  rw [if_neg (hb_m1 hk), nI_clamp hk, ha]
  rfl
theorem hb_acc_set {nb k a : Nat} {r r' : hbA} (ha : Ac[k]? = some (a, r)) (z : Int32) : hb_acc nb (Ac.set k (a, r')) z = hb_acc nb Ac z := by
  unfold hb_acc
  by_cases hz : z = -1
  · rw [if_pos hz, if_pos hz]
  · rw [if_neg hz, if_neg hz, List.getElem?_set]
    by_cases h2 : k = z.toNatClampNeg
    · rw [if_pos h2, if_pos (List.getElem?_eq_some_iff.mp ha).1, ← h2, ha]
      rfl
    · rw [if_neg h2]
theorem hb_map_set {α β : Type} {L : List (α × β)} {k : Nat} {a : α} {r r' : β} (ha : L[k]? = some (a, r)) : (L.set k (a, r')).map Prod.fst = L.map Prod.fst := by
  apply List.ext_getElem?
  intro i
  rw [List.getElem?_map, List.getElem?_map, List.getElem?_set]
  by_cases h : k = i
  · subst h
    rw [if_pos rfl, if_pos (List.getElem?_eq_some_iff.mp ha).1, ha]
    rfl
  · rw [if_neg h]
theorem hb_set_at {α : Type} {L : List α} {k i : Nat} {a b c : α} (ha : L[k]? = some a) (h : (L.set k b)[i]? = some c) : (i = k ∧ c = b) ∨ (i ≠ k ∧ L[i]? = some c) := by
  rw [List.getElem?_set] at h
  by_cases hk : k = i
  · subst hk
    rw [if_pos rfl, if_pos (List.getElem?_eq_some_iff.mp ha).1] at h
    exact Or.inl ⟨rfl, (Option.some.inj h).symm⟩
  · rw [if_neg hk] at h
    exact Or.inr ⟨fun z => hk z.symm, h⟩
/-- a payment and its account have changed -/
theorem cR.upd (h : cR cO e0 M x la lp nb ra rp ho pa tm Ac Py) (hk : cOK Ac Py) {i q k a : Nat} {r r' : hbY} {s s' : hbA} (hi : Py[i]? = some (q, r)) (hka : r.2.1 = nI k) (ha : Ac[k]? = some (a, s)) (m1 : M1 a = some (aE (nI k) s')) (m2 : M1 q = some (pE a r')) (hof : hb_off [a, q] M M1) (e1 : r'.1 = r.1) (e2 : r'.2.1 = r.2.1) : cR cO e0 M1 x la lp nb ra rp ho pa tm (Ac.set k (a, s')) (Py.set i (q, r')) := by
  have fa := h.ac ha
  have fq := h.py hi
  have hkl := (List.getElem?_eq_some_iff.mp ha).1
  have hA := hk.1
  have kp := hof.kp
  refine ⟨kp _ _ (hb_n2 (fun z => ?_) (fun z => ?_)) h.1, ?_, ?_, h.2.2.2.1, h.2.2.2.2.1, ?_, kp _ _ (hb_n2 (fun z => ?_) (fun z => ?_)) h.2.2.2.2.2.2.1, ?_, ?_⟩
  · have h1 := h.1; rw [z, fa] at h1; cases h1
  · have h1 := h.1; rw [z, fq] at h1; cases h1
  · rw [hb_map_set ha]
    refine h.2.1.kp kp (fun fs hf => hb_n2 (fun z => ?_) (fun z => ?_)) (fun y hf => hb_n2 (fun z => ?_) (fun z => ?_))
    · rw [z, fa] at hf; cases hf
    · rw [z, fq] at hf; cases hf
    · rw [z, fa] at hf; cases hf
    · rw [z, fq] at hf; cases hf
  · rw [hb_map_set hi]
    refine h.2.2.1.kp kp (fun fs hf => hb_n2 (fun z => ?_) (fun z => ?_)) (fun y hf => hb_n2 (fun z => ?_) (fun z => ?_))
    · rw [z, fa] at hf; cases hf
    · rw [z, fq] at hf; cases hf
    · rw [z, fa] at hf; cases hf
    · rw [z, fq] at hf; cases hf
  · rw [hof e0 (hb_n2 (fun z => ?_) (fun z => ?_))]
    · exact h.2.2.2.2.2.1
    · have h1 := h.2.2.2.2.2.1; rw [z, fa] at h1; cases h1
    · have h1 := h.2.2.2.2.2.1; rw [z, fq] at h1; cases h1
  · have h1 := h.2.2.2.2.2.2.1
    rw [z, fa] at h1
    have h2 : nI k = -1 := by injection h1 with h1; injection h1 with h1; injection h1 with _ h1; injection h1 with h1 _; injection h1
    exact hb_m1 (by omega) h2
  · have h1 := h.2.2.2.2.2.2.1; rw [z, fq] at h1; cases h1
  · intro j b t hj
    rcases hb_set_at ha hj with ⟨rfl, hc⟩ | ⟨hne, hj⟩
    · cases hc; exact m1
    · have fb := h.ac hj
      refine kp _ _ (hb_n2 (fun z => ?_) (fun z => ?_)) fb
      · rw [z, fa] at fb
        have h2 : nI k = nI j := by injection fb with h1; injection h1 with h1; injection h1 with _ h1; injection h1 with h1 _; injection h1
        exact hne (hb_eqi (by omega) (by have := (List.getElem?_eq_some_iff.mp hj).1; omega) h2).symm
      · rw [z, fq] at fb; cases fb
  · intro j b t hj
    rw [hb_acc_set ha]
    rcases hb_set_at hi hj with ⟨rfl, hc⟩ | ⟨hne, hj⟩
    · cases hc
      rw [e2, hka, hb_acc_nI (by omega) ha]
      exact m2
    · have fb := h.py hj
      refine kp _ _ (hb_n2 (fun z => ?_) (fun z => ?_)) fb
      · rw [z, fa] at fb; cases fb
      · rw [z, fq] at fb
        have h2 : r.1 = t.1 := by injection fb with h1; injection h1 with h1; injection h1 with _ h1; injection h1 with h1 _; injection h1
        rcases Nat.lt_or_gt_of_ne hne with hl | hl
        · have := hb_pw hk.2.2.1 hl hj hi; rw [h2] at this; exact hb_irr _ this
        · have := hb_pw hk.2.2.1 hl hi hj; rw [h2] at this; exact hb_irr _ this
/-- a payment alone has changed -/
theorem cR.updP (h : cR cO e0 M x la lp nb ra rp ho pa tm Ac Py) (hk : cOK Ac Py) {i q : Nat} {r r' : hbY} (hi : Py[i]? = some (q, r)) (m2 : M1 q = some (pE (hb_acc nb Ac r.2.1) r')) (hof : hb_off [q] M M1) (e1 : r'.1 = r.1) (e2 : r'.2.1 = r.2.1) : cR cO e0 M1 x la lp nb ra rp ho pa tm Ac (Py.set i (q, r')) := by
  have fq := h.py hi
  have kp := hof.kp
  refine ⟨kp _ _ (hb_n1 (fun z => ?_)) h.1, ?_, ?_, h.2.2.2.1, h.2.2.2.2.1, ?_, kp _ _ (hb_n1 (fun z => ?_)) h.2.2.2.2.2.2.1, ?_, ?_⟩
  · have h1 := h.1; rw [z, fq] at h1; cases h1
  · refine h.2.1.kp kp (fun fs hf => hb_n1 (fun z => ?_)) (fun y hf => hb_n1 (fun z => ?_))
    · rw [z, fq] at hf; cases hf
    · rw [z, fq] at hf; cases hf
  · rw [hb_map_set hi]
    refine h.2.2.1.kp kp (fun fs hf => hb_n1 (fun z => ?_)) (fun y hf => hb_n1 (fun z => ?_))
    · rw [z, fq] at hf; cases hf
    · rw [z, fq] at hf; cases hf
  · rw [hof e0 (hb_n1 (fun z => ?_))]
    · exact h.2.2.2.2.2.1
    · have h1 := h.2.2.2.2.2.1; rw [z, fq] at h1; cases h1
  · have h1 := h.2.2.2.2.2.2.1; rw [z, fq] at h1; cases h1
  · intro j b t hj
    have fb := h.ac hj
    exact kp _ _ (hb_n1 (fun z => by rw [z, fq] at fb; cases fb)) fb
  · intro j b t hj
    rcases hb_set_at hi hj with ⟨rfl, hc⟩ | ⟨hne, hj⟩
    · cases hc
      rw [e2]
      exact m2
    · have fb := h.py hj
      refine kp _ _ (hb_n1 (fun z => ?_)) fb
      rw [z, fq] at fb
      have h2 : r.1 = t.1 := by injection fb with h1; injection h1 with h1; injection h1 with _ h1; injection h1 with h1 _; injection h1
      rcases Nat.lt_or_gt_of_ne hne with hl | hl
      · have := hb_pw hk.2.2.1 hl hj hi; rw [h2] at this; exact hb_irr _ this
      · have := hb_pw hk.2.2.1 hl hi hj; rw [h2] at this; exact hb_irr _ this
/-- an account alone has changed -/
theorem cR.updA (h : cR cO e0 M x la lp nb ra rp ho pa tm Ac Py) (hk : cOK Ac Py) {k a : Nat} {s s' : hbA} (ha : Ac[k]? = some (a, s)) (m1 : M1 a = some (aE (nI k) s')) (kp : hb_kp [a] M M1) (m0 : M1 e0 = none) : cR cO e0 M1 x la lp nb ra rp ho pa tm (Ac.set k (a, s')) Py := by
  have fa := h.ac ha
  have hkl := (List.getElem?_eq_some_iff.mp ha).1
  have hA := hk.1
  refine ⟨kp _ _ (hb_n1 (fun z => ?_)) h.1, ?_, ?_, h.2.2.2.1, h.2.2.2.2.1, m0, kp _ _ (hb_n1 (fun z => ?_)) h.2.2.2.2.2.2.1, ?_, ?_⟩
  · have h1 := h.1; rw [z, fa] at h1; cases h1
  · rw [hb_map_set ha]
    refine h.2.1.kp kp (fun fs hf => hb_n1 (fun z => ?_)) (fun y hf => hb_n1 (fun z => ?_))
    · rw [z, fa] at hf; cases hf
    · rw [z, fa] at hf; cases hf
  · refine h.2.2.1.kp kp (fun fs hf => hb_n1 (fun z => ?_)) (fun y hf => hb_n1 (fun z => ?_))
    · rw [z, fa] at hf; cases hf
    · rw [z, fa] at hf; cases hf
  · have h1 := h.2.2.2.2.2.2.1
    rw [z, fa] at h1
    have h2 : nI k = -1 := by injection h1 with h1; injection h1 with h1; injection h1 with _ h1; injection h1 with h1 _; injection h1
    exact hb_m1 (by omega) h2
  · intro j b t hj
    rcases hb_set_at ha hj with ⟨rfl, hc⟩ | ⟨hne, hj⟩
    · cases hc; exact m1
    · have fb := h.ac hj
      refine kp _ _ (hb_n1 (fun z => ?_)) fb
      rw [z, fa] at fb
      have h2 : nI k = nI j := by injection fb with h1; injection h1 with h1; injection h1 with _ h1; injection h1 with h1 _; injection h1
      exact hne (hb_eqi (by omega) (by have := (List.getElem?_eq_some_iff.mp hj).1; omega) h2).symm
  · intro j b t hj
    rw [hb_acc_set ha]
    have fb := h.py hj
    exact kp _ _ (hb_n1 (fun z => by rw [z, fa] at fb; cases fb)) fb
theorem cR.obP (h : cR cO e0 M x la lp nb ra rp ho pa tm Ac Py) : hb_obj M (Py.map Prod.fst) := by
  intro z hz
  obtain ⟨⟨q, r⟩, hq, rfl⟩ := List.mem_map.mp hz
  obtain ⟨i, hi⟩ := List.getElem?_of_mem hq
  exact ⟨1, _, h.py hi, Or.inr rfl⟩
theorem cR.obA (h : cR cO e0 M x la lp nb ra rp ho pa tm Ac Py) : hb_obj M (Ac.map Prod.fst) := by
  intro z hz
  obtain ⟨⟨q, r⟩, hq, rfl⟩ := List.mem_map.mp hz
  obtain ⟨i, hi⟩ := List.getElem?_of_mem hq
  exact ⟨0, _, h.ac hi, Or.inl rfl⟩
/-- only cells that were none have come -/
theorem cR.more (h : cR cO e0 M x la lp nb ra rp ho pa tm Ac Py) (kp : hb_kp [] M M1) (m0 : M1 e0 = none) : cR cO e0 M1 x la lp nb ra rp ho pa tm Ac Py := by
  have n0 : ∀ b : Nat, b ∉ ([] : List Nat) := fun b => by simp
  exact ⟨kp _ _ (n0 _) h.1, h.2.1.kp kp (fun _ _ => n0 _) (fun _ _ => n0 _), h.2.2.1.kp kp (fun _ _ => n0 _) (fun _ _ => n0 _), h.2.2.2.1, h.2.2.2.2.1, m0, kp _ _ (n0 _) h.2.2.2.2.2.2.1, fun i a r hi => kp _ _ (n0 _) (h.ac hi), fun i q r hi => kp _ _ (n0 _) (h.py hi)⟩
/-- a list's cells have changed: what is neither the list nor its array is kept -/
theorem cR.kpl (h : cR cO e0 M x la lp nb ra rp ho pa tm Ac Py) {t ar : Nat} {xs : List Nat} (hl : hb_lst cO e0 M t ar xs) (kp : hb_kp [t, ar] M M1) {b ci : Nat} {fs : List Value} (hb : M b = some (.inr (ci, fs))) (hc : ci ≠ 3) : M1 b = some (.inr (ci, fs)) := by
  obtain ⟨md, h1, h2⟩ := hl
  refine kp _ _ (hb_n2 (fun z => ?_) (fun z => ?_)) hb
  · rw [z, h1] at hb; cases hb; exact hc rfl
  · rcases h2 with ⟨h2, -⟩ | ⟨cap, f, h3, -⟩
    · rw [z, h2, h.2.2.2.2.2.1] at hb; cases hb
    · rw [z, h3] at hb; cases hb
theorem hb_map_ins {α β : Type} {L : List (α × β)} {j : Nat} {a : α} {r : β} : (L.insertIdx j (a, r)).map Prod.fst = (L.map Prod.fst).insertIdx j a := by
  apply List.ext_getElem?
  intro i
  rw [List.getElem?_map, List.getElem?_insertIdx, List.getElem?_insertIdx, List.length_map]
  by_cases h : i < j
  · rw [if_pos h, if_pos h, List.getElem?_map]
  · rw [if_neg h, if_neg h]
    by_cases h2 : i = j
    · rw [if_pos h2, if_pos h2]
      by_cases h3 : i ≤ L.length
      · rw [if_pos h3, if_pos h3]; rfl
      · rw [if_neg h3, if_neg h3]; rfl
    · rw [if_neg h2, if_neg h2, List.getElem?_map]
/-- a payment has come into the list -/
theorem cR.ins (h : cR cO e0 M x la lp nb ra rp ho pa tm Ac Py) {j p0 rp1 : Nat} {r : hbY} (hj : j ≤ Py.length) (fp : M p0 = some (pE (hb_acc nb Ac r.2.1) r)) (hl : hb_lst cO e0 M1 lp rp1 ((Py.map Prod.fst).insertIdx j p0)) (hr : rp1 = rp ∨ M rp1 = none) (kp : hb_kp [lp, rp] M M1) (m0 : M1 e0 = none) : cR cO e0 M1 x la lp nb ra rp1 ho pa tm Ac (Py.insertIdx j (p0, r)) := by
  have hne := h.2.2.2.1
  refine ⟨h.kpl h.2.2.1 kp h.1 (by decide), ?_, by rw [hb_map_ins]; exact hl, hne, ?_, m0, h.kpl h.2.2.1 kp h.2.2.2.2.2.2.1 (by decide), fun i a t hi => h.kpl h.2.2.1 kp (h.ac hi) (by decide), ?_⟩
  · obtain ⟨md, h1, h2⟩ := h.2.2.1
    refine h.2.1.kp kp (fun fs hf => hb_n2 hne (fun z => ?_)) (fun y hf => hb_n2 (fun z => ?_) (fun z => ?_))
    · rcases h2 with ⟨h2, -⟩ | ⟨cap, f, h3, -⟩
      · rw [z, h2, h.2.2.2.2.2.1] at hf; cases hf
      · rw [z, h3] at hf; cases hf
    · rw [z, h1] at hf; cases hf
    · have := h.2.2.2.2.1 z
      rw [this, h.2.2.2.2.2.1] at hf; cases hf
  · intro z
    rcases hr with rfl | hr
    · exact h.2.2.2.2.1 z
    · rw [← z] at hr
      obtain ⟨md, h1, h2⟩ := h.2.1
      rcases h2 with ⟨h2, -⟩ | ⟨cap, f, h3, -⟩
      · exact h2
      · rw [hr] at h3; cases h3
  · intro i q t hi
    rw [List.getElem?_insertIdx] at hi
    by_cases h1 : i < j
    · rw [if_pos h1] at hi
      exact h.kpl h.2.2.1 kp (h.py hi) (by decide)
    · rw [if_neg h1] at hi
      by_cases h2 : i = j
      · rw [if_pos h2, if_pos (by omega)] at hi
        cases hi
        exact h.kpl h.2.2.1 kp fp (by decide)
      · rw [if_neg h2] at hi
        exact h.kpl h.2.2.1 kp (h.py hi) (by decide)
end CR3
end
section
/-! HOLDBOOK: charge, undo, enter, ask, account -/
theorem hb_e0 {l : Launch} {s0 : State} {D : va_G} {cI cJ cO : ClassId} {e0 mi : Nat} {A : Nat → Prop} {M : hb_M} (hE : hb_E l s0 D cI cJ cO e0 mi) (hz : hb_Z s0 A) (hD : hb_D A M) : M e0 = none := by
  cases h : M e0 with
  | none => rfl
  | some z => exact absurd (hz _ (hD e0 z h)) (Nat.not_le.mpr hE.e0lt)
set_option maxHeartbeats 4000000 in
set_option maxRecDepth 100000 in
theorem c_Hb_charge_no {l : Launch} {s0 : State} {D : va_G} {cI cJ cO : ClassId} {e0 mi : Nat} (hE : hb_E l s0 D cI cJ cO e0 mi) (M : hb_M) (x la lp nb ra rp : Nat) (ho pa tm : Int32) (Ac : List (Nat × hbA)) (Py : List (Nat × hbY)) (h : cR cO e0 M x la lp nb ra rp ho pa tm Ac Py) (hk : cOK Ac Py) (k : Int32) (hno : ∀ (i q : Nat) (r : hbY), Py[i]? = some (q, r) → r.1 ≠ k) (hkk : ¬ k < 0 ∧ ¬ 1000000 < k) (am : Int64) (hm : ¬ am < 1) : hb_Met l D hb_cl s0 y_Hb_charge b_Hb_charge 5 (some .int) { frames := 5, cells := 0, slots := 0, locals := 109 } [.ref x, .int k, .long am] M (fun v M1 => v = some (.int (-6)) ∧ M1 = M) := by
  refine hb_Met.of (by decide) (Nat.le_of_ble_eq_true rfl) ?_
  intro p e s m below meth c A hAe hX hz hP hD hA hS ls hl
  obtain ⟨hx, hb, hr, hml, hown, hlocks, hnm, hG, hnh⟩ := id hX
  have hown : s.vm.findClass "HoldBook" = some m.cls := hown
  have hts := hE.ts hG ([.ref x, .int k, .long am] : List Value).toArray
  have hK := hE.kn hG
  have hl : lv_has ls 5 [(0, .ref x), (1, .int k), (2, .long am)] := hl
  have fx := h.1
  obtain ⟨mda, fla⟩ := h.fla
  obtain ⟨mdp, flp⟩ := h.flp
  have hlA := hk.1
  have hlP := hk.2.1
  refine lv_iload_n hx hb d_Hb_charge_0 rfl (lv_at hl 1 rfl) ?_
  refine hb_callS (rest := []) hX hts hb_gd Y_Hb_checkKey (c_Hb_checkKey_ok hE M k hkk) ml_Hb_68 st_Hb_checkKey hz hP hD hS hA rfl hl.1 rfl (Nat.le_of_ble_eq_true rfl) ⟨Nat.le_of_ble_eq_true rfl, Nat.le_of_ble_eq_true rfl⟩ ⟨Nat.le_of_ble_eq_true rfl, Nat.le_of_ble_eq_true rfl⟩ d_Hb_charge_1 (fun v3 M1 H locs hq2 hP hD hS _ hkp => ?_)
  obtain ⟨ev4, eM5⟩ := hq2
  subst ev4
  rw [eM5] at hP hD
  refine W.eq (g2 := F0 m 4 ls []) rfl ?_
  refine lv_lload_n hx hb d_Hb_charge_4 rfl (lv_at hl 2 rfl) ?_
  refine lv_lconst (v := 1) hx hb d_Hb_charge_5 (by decide) ?_
  refine hb_lc_ge (tgt := 20) hx hb d_Hb_charge_6 d_Hb_charge_7 (by decide) (fun c6 => ?_) (fun c6 => ?_)
  · skip
    have c6n := hb_ngt c6
    refine lv_aload_n hx hb d_Hb_charge_20 rfl (lv_at hl 0 rfl) ?_
    refine lv_iload_n hx hb d_Hb_charge_21 rfl (lv_at hl 1 rfl) ?_
    refine hb_callV (rest := []) hX hts hb_gd Y_Hb_find (c_Hb_find_no hE M x la lp nb ra rp ho pa tm Ac Py h hk k hno) ml_Hb_79 im_Hb_find se_Hb_find hK fx hC_Hb.1 hz hP hD hS hA rfl hl.1 rfl (Nat.le_of_ble_eq_true rfl) ⟨Nat.le_of_ble_eq_true rfl, Nat.le_of_ble_eq_true rfl⟩ ⟨Nat.le_of_ble_eq_true rfl, Nat.le_of_ble_eq_true rfl⟩ d_Hb_charge_22 (fun v9 M7 H locs hq8 hP hD hS _ hkp => ?_)
    obtain ⟨ev10, eM11⟩ := hq8
    subst ev10
    rw [eM11] at hP hD
    refine W.eq (g2 := F0 m 25 ls [.null]) rfl ?_
    refine lv_astoreN (lv' := [(4, .null), (0, .ref x), (1, .int k), (2, .long am)]) hx hb d_Hb_charge_25 hl (by decide) rfl (fun ls hl => ?_)
    refine lv_aloadN hx hb d_Hb_charge_27 (lv_at hl 0 rfl) ?_
    refine lv_ifnonnullN hx hb d_Hb_charge_29 ?_
    refine lv_bipush (v := (-6)) hx hb d_Hb_charge_32 (by decide) ?_
    exact hb_iret hAe hx hb hr hlocks hP hD hS (Nat.le_of_ble_eq_true rfl) (Nat.le_of_ble_eq_true rfl) (⟨rfl, rfl⟩) d_Hb_charge_34
  · skip
    have c6n := hb_gt c6
    exact absurd (hb_gt c6) hm
set_option maxHeartbeats 4000000 in
set_option maxRecDepth 100000 in
theorem c_Hb_charge_st {l : Launch} {s0 : State} {D : va_G} {cI cJ cO : ClassId} {e0 mi : Nat} (hE : hb_E l s0 D cI cJ cO e0 mi) (M : hb_M) (x la lp nb ra rp : Nat) (ho pa tm : Int32) (Ac : List (Nat × hbA)) (Py : List (Nat × hbY)) (h : cR cO e0 M x la lp nb ra rp ho pa tm Ac Py) (hk : cOK Ac Py) (i q : Nat) (r : hbY) (hi : Py[i]? = some (q, r)) (a : Nat) (an : Int32) (ak : hbA) (hac : hb_acc nb Ac r.2.1 = a) (fa : M a = some (aE an ak)) (hkk : ¬ r.1 < 0 ∧ ¬ 1000000 < r.1) (am : Int64) (hm : ¬ am < 1) (hs : r.2.2.1 ≠ 3 ∨ r.2.2.2.2.2.2.2.1 ≠ 0) : hb_Met l D hb_cl s0 y_Hb_charge b_Hb_charge 5 (some .int) { frames := 5, cells := 0, slots := 0, locals := 109 } [.ref x, .int r.1, .long am] M (fun v M1 => v = some (.int (-9)) ∧ M1 = M) := by
  refine hb_Met.of (by decide) (Nat.le_of_ble_eq_true rfl) ?_
  intro p e s m below meth c A hAe hX hz hP hD hA hS ls hl
  obtain ⟨hx, hb, hr, hml, hown, hlocks, hnm, hG, hnh⟩ := id hX
  have hown : s.vm.findClass "HoldBook" = some m.cls := hown
  have hts := hE.ts hG ([.ref x, .int r.1, .long am] : List Value).toArray
  have hK := hE.kn hG
  have hl : lv_has ls 5 [(0, .ref x), (1, .int r.1), (2, .long am)] := hl
  have fx := h.1
  obtain ⟨mda, fla⟩ := h.fla
  obtain ⟨mdp, flp⟩ := h.flp
  have hlA := hk.1
  have hlP := hk.2.1
  have fq : M q = some (pE a r) := by have h9 := h.py hi; rw [hac] at h9; exact h9
  refine lv_iload_n hx hb d_Hb_charge_0 rfl (lv_at hl 1 rfl) ?_
  refine hb_callS (rest := []) hX hts hb_gd Y_Hb_checkKey (c_Hb_checkKey_ok hE M r.1 hkk) ml_Hb_68 st_Hb_checkKey hz hP hD hS hA rfl hl.1 rfl (Nat.le_of_ble_eq_true rfl) ⟨Nat.le_of_ble_eq_true rfl, Nat.le_of_ble_eq_true rfl⟩ ⟨Nat.le_of_ble_eq_true rfl, Nat.le_of_ble_eq_true rfl⟩ d_Hb_charge_1 (fun v3 M1 H locs hq2 hP hD hS _ hkp => ?_)
  obtain ⟨ev4, eM5⟩ := hq2
  subst ev4
  rw [eM5] at hP hD
  refine W.eq (g2 := F0 m 4 ls []) rfl ?_
  refine lv_lload_n hx hb d_Hb_charge_4 rfl (lv_at hl 2 rfl) ?_
  refine lv_lconst (v := 1) hx hb d_Hb_charge_5 (by decide) ?_
  refine hb_lc_ge (tgt := 20) hx hb d_Hb_charge_6 d_Hb_charge_7 (by decide) (fun c6 => ?_) (fun c6 => ?_)
  · skip
    have c6n := hb_ngt c6
    refine lv_aload_n hx hb d_Hb_charge_20 rfl (lv_at hl 0 rfl) ?_
    refine lv_iload_n hx hb d_Hb_charge_21 rfl (lv_at hl 1 rfl) ?_
    refine hb_callV (rest := []) hX hts hb_gd Y_Hb_find (c_Hb_find_at hE M x la lp nb ra rp ho pa tm Ac Py h hk i q r hi) ml_Hb_79 im_Hb_find se_Hb_find hK fx hC_Hb.1 hz hP hD hS hA rfl hl.1 rfl (Nat.le_of_ble_eq_true rfl) ⟨Nat.le_of_ble_eq_true rfl, Nat.le_of_ble_eq_true rfl⟩ ⟨Nat.le_of_ble_eq_true rfl, Nat.le_of_ble_eq_true rfl⟩ d_Hb_charge_22 (fun v9 M7 H locs hq8 hP hD hS _ hkp => ?_)
    obtain ⟨ev10, eM11⟩ := hq8
    subst ev10
    rw [eM11] at hP hD
    refine W.eq (g2 := F0 m 25 ls [.ref q]) rfl ?_
    refine lv_astore (lv' := [(4, .ref q), (0, .ref x), (1, .int r.1), (2, .long am)]) hx hb d_Hb_charge_25 hl (by decide) rfl (fun ls hl => ?_)
    refine lv_aload hx hb d_Hb_charge_27 (lv_at hl 0 rfl) ?_
    refine lv_ifnonnull (tgt := 35) hx hb d_Hb_charge_29 (by decide) ?_
    refine lv_aload hx hb d_Hb_charge_35 (lv_at hl 0 rfl) ?_
    refine hb_get hx hb hts hown hC_Pay hK hP fq 2 (by decide) rfl fl_Hb_122 rfl d_Hb_charge_37 ?_
    refine lv_iconst (v := 3) hx hb d_Hb_charge_40 (by decide) ?_
    refine lv_icmp_ne (tgt := 52) hx hb d_Hb_charge_41 (by decide) (fun c12 => ?_) (fun c12 => ?_)
    · skip
      refine lv_bipush (v := (-9)) hx hb d_Hb_charge_52 (by decide) ?_
      exact hb_iret hAe hx hb hr hlocks hP hD hS (Nat.le_of_ble_eq_true rfl) (Nat.le_of_ble_eq_true rfl) (⟨rfl, rfl⟩) d_Hb_charge_54
    · skip
      refine lv_aload hx hb d_Hb_charge_44 (lv_at hl 0 rfl) ?_
      refine hb_get hx hb hts hown hC_Pay hK hP fq 7 (by decide) rfl fl_Hb_153 rfl d_Hb_charge_46 ?_
      refine lv_if_eq (tgt := 55) hx hb d_Hb_charge_49 (by decide) (fun c13 => ?_) (fun c13 => ?_)
      · skip
        exact absurd hs (by intro z; rcases z with z | z; exact z (by assumption); exact z c13)
      · skip
        refine lv_bipush (v := (-9)) hx hb d_Hb_charge_52 (by decide) ?_
        exact hb_iret hAe hx hb hr hlocks hP hD hS (Nat.le_of_ble_eq_true rfl) (Nat.le_of_ble_eq_true rfl) (⟨rfl, rfl⟩) d_Hb_charge_54
  · skip
    have c6n := hb_gt c6
    exact absurd (hb_gt c6) hm
set_option maxHeartbeats 4000000 in
set_option maxRecDepth 100000 in
theorem c_Hb_charge_late {l : Launch} {s0 : State} {D : va_G} {cI cJ cO : ClassId} {e0 mi : Nat} (hE : hb_E l s0 D cI cJ cO e0 mi) (M : hb_M) (x la lp nb ra rp : Nat) (ho pa tm : Int32) (Ac : List (Nat × hbA)) (Py : List (Nat × hbY)) (h : cR cO e0 M x la lp nb ra rp ho pa tm Ac Py) (hk : cOK Ac Py) (i q : Nat) (r : hbY) (hi : Py[i]? = some (q, r)) (a : Nat) (an : Int32) (ak : hbA) (hac : hb_acc nb Ac r.2.1 = a) (fa : M a = some (aE an ak)) (hkk : ¬ r.1 < 0 ∧ ¬ 1000000 < r.1) (am : Int64) (hm : ¬ am < 1) (hs : r.2.2.1 = 3) (hd0 : r.2.2.2.2.2.2.2.1 = 0) (hld : (r.2.2.1 = 3 ∧ pa < tm - r.2.2.2.2.2.2.1)) : hb_Met l D hb_cl s0 y_Hb_charge b_Hb_charge 5 (some .int) { frames := 5, cells := 0, slots := 0, locals := 109 } [.ref x, .int r.1, .long am] M (fun v M1 => v = some (.int (-10)) ∧ M1 = M) := by
  refine hb_Met.of (by decide) (Nat.le_of_ble_eq_true rfl) ?_
  intro p e s m below meth c A hAe hX hz hP hD hA hS ls hl
  obtain ⟨hx, hb, hr, hml, hown, hlocks, hnm, hG, hnh⟩ := id hX
  have hown : s.vm.findClass "HoldBook" = some m.cls := hown
  have hts := hE.ts hG ([.ref x, .int r.1, .long am] : List Value).toArray
  have hK := hE.kn hG
  have hl : lv_has ls 5 [(0, .ref x), (1, .int r.1), (2, .long am)] := hl
  have fx := h.1
  obtain ⟨mda, fla⟩ := h.fla
  obtain ⟨mdp, flp⟩ := h.flp
  have hlA := hk.1
  have hlP := hk.2.1
  have fq : M q = some (pE a r) := by have h9 := h.py hi; rw [hac] at h9; exact h9
  refine lv_iload_n hx hb d_Hb_charge_0 rfl (lv_at hl 1 rfl) ?_
  refine hb_callS (rest := []) hX hts hb_gd Y_Hb_checkKey (c_Hb_checkKey_ok hE M r.1 hkk) ml_Hb_68 st_Hb_checkKey hz hP hD hS hA rfl hl.1 rfl (Nat.le_of_ble_eq_true rfl) ⟨Nat.le_of_ble_eq_true rfl, Nat.le_of_ble_eq_true rfl⟩ ⟨Nat.le_of_ble_eq_true rfl, Nat.le_of_ble_eq_true rfl⟩ d_Hb_charge_1 (fun v3 M1 H locs hq2 hP hD hS _ hkp => ?_)
  obtain ⟨ev4, eM5⟩ := hq2
  subst ev4
  rw [eM5] at hP hD
  refine W.eq (g2 := F0 m 4 ls []) rfl ?_
  refine lv_lload_n hx hb d_Hb_charge_4 rfl (lv_at hl 2 rfl) ?_
  refine lv_lconst (v := 1) hx hb d_Hb_charge_5 (by decide) ?_
  refine hb_lc_ge (tgt := 20) hx hb d_Hb_charge_6 d_Hb_charge_7 (by decide) (fun c6 => ?_) (fun c6 => ?_)
  · skip
    have c6n := hb_ngt c6
    refine lv_aload_n hx hb d_Hb_charge_20 rfl (lv_at hl 0 rfl) ?_
    refine lv_iload_n hx hb d_Hb_charge_21 rfl (lv_at hl 1 rfl) ?_
    refine hb_callV (rest := []) hX hts hb_gd Y_Hb_find (c_Hb_find_at hE M x la lp nb ra rp ho pa tm Ac Py h hk i q r hi) ml_Hb_79 im_Hb_find se_Hb_find hK fx hC_Hb.1 hz hP hD hS hA rfl hl.1 rfl (Nat.le_of_ble_eq_true rfl) ⟨Nat.le_of_ble_eq_true rfl, Nat.le_of_ble_eq_true rfl⟩ ⟨Nat.le_of_ble_eq_true rfl, Nat.le_of_ble_eq_true rfl⟩ d_Hb_charge_22 (fun v9 M7 H locs hq8 hP hD hS _ hkp => ?_)
    obtain ⟨ev10, eM11⟩ := hq8
    subst ev10
    rw [eM11] at hP hD
    refine W.eq (g2 := F0 m 25 ls [.ref q]) rfl ?_
    refine lv_astore (lv' := [(4, .ref q), (0, .ref x), (1, .int r.1), (2, .long am)]) hx hb d_Hb_charge_25 hl (by decide) rfl (fun ls hl => ?_)
    refine lv_aload hx hb d_Hb_charge_27 (lv_at hl 0 rfl) ?_
    refine lv_ifnonnull (tgt := 35) hx hb d_Hb_charge_29 (by decide) ?_
    refine lv_aload hx hb d_Hb_charge_35 (lv_at hl 0 rfl) ?_
    refine hb_get hx hb hts hown hC_Pay hK hP fq 2 (by decide) rfl fl_Hb_122 rfl d_Hb_charge_37 ?_
    refine lv_iconst (v := 3) hx hb d_Hb_charge_40 (by decide) ?_
    refine lv_icmp_ne (tgt := 52) hx hb d_Hb_charge_41 (by decide) (fun c12 => ?_) (fun c12 => ?_)
    · skip
      exact absurd hs c12
    · skip
      refine lv_aload hx hb d_Hb_charge_44 (lv_at hl 0 rfl) ?_
      refine hb_get hx hb hts hown hC_Pay hK hP fq 7 (by decide) rfl fl_Hb_153 rfl d_Hb_charge_46 ?_
      refine lv_if_eq (tgt := 55) hx hb d_Hb_charge_49 (by decide) (fun c13 => ?_) (fun c13 => ?_)
      · skip
        refine lv_aload_n hx hb d_Hb_charge_55 rfl (lv_at hl 1 rfl) ?_
        refine lv_aload hx hb d_Hb_charge_56 (lv_at hl 0 rfl) ?_
        refine hb_callV (rest := []) hX hts hb_gd Y_Hb_isLongDone (c_Hb_isLongDone hE M x la lp nb ho pa tm fx q a r fq) ml_Hb_156 im_Hb_isLongDone se_Hb_isLongDone hK fx hC_Hb.1 hz hP hD hS hA rfl hl.1 rfl (Nat.le_of_ble_eq_true rfl) ⟨Nat.le_of_ble_eq_true rfl, Nat.le_of_ble_eq_true rfl⟩ ⟨Nat.le_of_ble_eq_true rfl, Nat.le_of_ble_eq_true rfl⟩ d_Hb_charge_58 (fun v16 M14 H locs hq15 hP hD hS _ hkp => ?_)
        obtain ⟨ev17, eM18⟩ := hq15
        subst ev17
        rw [eM18] at hP hD
        refine W.eq (g2 := F0 m 61 ls [.int (if (r.2.2.1 = 3 ∧ pa < tm - r.2.2.2.2.2.2.1) then 1 else 0)]) rfl ?_
        refine lv_if_eq (tgt := 67) hx hb d_Hb_charge_61 (by decide) (fun c19 => ?_) (fun c19 => ?_)
        · skip
          exact absurd c19 (by rw [if_pos hld]; decide)
        · skip
          refine lv_bipush (v := (-10)) hx hb d_Hb_charge_64 (by decide) ?_
          exact hb_iret hAe hx hb hr hlocks hP hD hS (Nat.le_of_ble_eq_true rfl) (Nat.le_of_ble_eq_true rfl) (⟨rfl, rfl⟩) d_Hb_charge_66
      · skip
        exact absurd hd0 c13
  · skip
    have c6n := hb_gt c6
    exact absurd (hb_gt c6) hm
set_option maxHeartbeats 4000000 in
set_option maxRecDepth 100000 in
theorem c_Hb_charge_mu {l : Launch} {s0 : State} {D : va_G} {cI cJ cO : ClassId} {e0 mi : Nat} (hE : hb_E l s0 D cI cJ cO e0 mi) (M : hb_M) (x la lp nb ra rp : Nat) (ho pa tm : Int32) (Ac : List (Nat × hbA)) (Py : List (Nat × hbY)) (h : cR cO e0 M x la lp nb ra rp ho pa tm Ac Py) (hk : cOK Ac Py) (i q : Nat) (r : hbY) (hi : Py[i]? = some (q, r)) (a : Nat) (an : Int32) (ak : hbA) (hac : hb_acc nb Ac r.2.1 = a) (fa : M a = some (aE an ak)) (hkk : ¬ r.1 < 0 ∧ ¬ 1000000 < r.1) (am : Int64) (hm : ¬ am < 1) (hs : r.2.2.1 = 3) (hd0 : r.2.2.2.2.2.2.2.1 = 0) (hld : ¬ (r.2.2.1 = 3 ∧ pa < tm - r.2.2.2.2.2.2.1)) (hmu : r.2.2.2.2.1 < am) : hb_Met l D hb_cl s0 y_Hb_charge b_Hb_charge 5 (some .int) { frames := 5, cells := 0, slots := 0, locals := 109 } [.ref x, .int r.1, .long am] M (fun v M1 => v = some (.int (-11)) ∧ M1 = M) := by
  refine hb_Met.of (by decide) (Nat.le_of_ble_eq_true rfl) ?_
  intro p e s m below meth c A hAe hX hz hP hD hA hS ls hl
  obtain ⟨hx, hb, hr, hml, hown, hlocks, hnm, hG, hnh⟩ := id hX
  have hown : s.vm.findClass "HoldBook" = some m.cls := hown
  have hts := hE.ts hG ([.ref x, .int r.1, .long am] : List Value).toArray
  have hK := hE.kn hG
  have hl : lv_has ls 5 [(0, .ref x), (1, .int r.1), (2, .long am)] := hl
  have fx := h.1
  obtain ⟨mda, fla⟩ := h.fla
  obtain ⟨mdp, flp⟩ := h.flp
  have hlA := hk.1
  have hlP := hk.2.1
  have fq : M q = some (pE a r) := by have h9 := h.py hi; rw [hac] at h9; exact h9
  refine lv_iload_n hx hb d_Hb_charge_0 rfl (lv_at hl 1 rfl) ?_
  refine hb_callS (rest := []) hX hts hb_gd Y_Hb_checkKey (c_Hb_checkKey_ok hE M r.1 hkk) ml_Hb_68 st_Hb_checkKey hz hP hD hS hA rfl hl.1 rfl (Nat.le_of_ble_eq_true rfl) ⟨Nat.le_of_ble_eq_true rfl, Nat.le_of_ble_eq_true rfl⟩ ⟨Nat.le_of_ble_eq_true rfl, Nat.le_of_ble_eq_true rfl⟩ d_Hb_charge_1 (fun v3 M1 H locs hq2 hP hD hS _ hkp => ?_)
  obtain ⟨ev4, eM5⟩ := hq2
  subst ev4
  rw [eM5] at hP hD
  refine W.eq (g2 := F0 m 4 ls []) rfl ?_
  refine lv_lload_n hx hb d_Hb_charge_4 rfl (lv_at hl 2 rfl) ?_
  refine lv_lconst (v := 1) hx hb d_Hb_charge_5 (by decide) ?_
  refine hb_lc_ge (tgt := 20) hx hb d_Hb_charge_6 d_Hb_charge_7 (by decide) (fun c6 => ?_) (fun c6 => ?_)
  · skip
    have c6n := hb_ngt c6
    refine lv_aload_n hx hb d_Hb_charge_20 rfl (lv_at hl 0 rfl) ?_
    refine lv_iload_n hx hb d_Hb_charge_21 rfl (lv_at hl 1 rfl) ?_
    refine hb_callV (rest := []) hX hts hb_gd Y_Hb_find (c_Hb_find_at hE M x la lp nb ra rp ho pa tm Ac Py h hk i q r hi) ml_Hb_79 im_Hb_find se_Hb_find hK fx hC_Hb.1 hz hP hD hS hA rfl hl.1 rfl (Nat.le_of_ble_eq_true rfl) ⟨Nat.le_of_ble_eq_true rfl, Nat.le_of_ble_eq_true rfl⟩ ⟨Nat.le_of_ble_eq_true rfl, Nat.le_of_ble_eq_true rfl⟩ d_Hb_charge_22 (fun v9 M7 H locs hq8 hP hD hS _ hkp => ?_)
    obtain ⟨ev10, eM11⟩ := hq8
    subst ev10
    rw [eM11] at hP hD
    refine W.eq (g2 := F0 m 25 ls [.ref q]) rfl ?_
    refine lv_astore (lv' := [(4, .ref q), (0, .ref x), (1, .int r.1), (2, .long am)]) hx hb d_Hb_charge_25 hl (by decide) rfl (fun ls hl => ?_)
    refine lv_aload hx hb d_Hb_charge_27 (lv_at hl 0 rfl) ?_
    refine lv_ifnonnull (tgt := 35) hx hb d_Hb_charge_29 (by decide) ?_
    refine lv_aload hx hb d_Hb_charge_35 (lv_at hl 0 rfl) ?_
    refine hb_get hx hb hts hown hC_Pay hK hP fq 2 (by decide) rfl fl_Hb_122 rfl d_Hb_charge_37 ?_
    refine lv_iconst (v := 3) hx hb d_Hb_charge_40 (by decide) ?_
    refine lv_icmp_ne (tgt := 52) hx hb d_Hb_charge_41 (by decide) (fun c12 => ?_) (fun c12 => ?_)
    · skip
      exact absurd hs c12
    · skip
      refine lv_aload hx hb d_Hb_charge_44 (lv_at hl 0 rfl) ?_
      refine hb_get hx hb hts hown hC_Pay hK hP fq 7 (by decide) rfl fl_Hb_153 rfl d_Hb_charge_46 ?_
      refine lv_if_eq (tgt := 55) hx hb d_Hb_charge_49 (by decide) (fun c13 => ?_) (fun c13 => ?_)
      · skip
        refine lv_aload_n hx hb d_Hb_charge_55 rfl (lv_at hl 1 rfl) ?_
        refine lv_aload hx hb d_Hb_charge_56 (lv_at hl 0 rfl) ?_
        refine hb_callV (rest := []) hX hts hb_gd Y_Hb_isLongDone (c_Hb_isLongDone hE M x la lp nb ho pa tm fx q a r fq) ml_Hb_156 im_Hb_isLongDone se_Hb_isLongDone hK fx hC_Hb.1 hz hP hD hS hA rfl hl.1 rfl (Nat.le_of_ble_eq_true rfl) ⟨Nat.le_of_ble_eq_true rfl, Nat.le_of_ble_eq_true rfl⟩ ⟨Nat.le_of_ble_eq_true rfl, Nat.le_of_ble_eq_true rfl⟩ d_Hb_charge_58 (fun v16 M14 H locs hq15 hP hD hS _ hkp => ?_)
        obtain ⟨ev17, eM18⟩ := hq15
        subst ev17
        rw [eM18] at hP hD
        refine W.eq (g2 := F0 m 61 ls [.int (if (r.2.2.1 = 3 ∧ pa < tm - r.2.2.2.2.2.2.1) then 1 else 0)]) rfl ?_
        refine lv_if_eq (tgt := 67) hx hb d_Hb_charge_61 (by decide) (fun c19 => ?_) (fun c19 => ?_)
        · skip
          refine lv_lload_n hx hb d_Hb_charge_67 rfl (lv_at hl 3 rfl) ?_
          refine lv_aload hx hb d_Hb_charge_68 (lv_at hl 0 rfl) ?_
          refine hb_get hx hb hts hown hC_Pay hK hP fq 4 (by decide) rfl fl_Hb_137 rfl d_Hb_charge_70 ?_
          refine hb_lc_le (tgt := 80) hx hb d_Hb_charge_73 d_Hb_charge_74 (by decide) (fun c20 => ?_) (fun c20 => ?_)
          · skip
            have c20n := hb_ngt c20
            exact absurd hmu (hb_ngt c20)
          · skip
            have c20n := hb_gt c20
            refine lv_bipush (v := (-11)) hx hb d_Hb_charge_77 (by decide) ?_
            exact hb_iret hAe hx hb hr hlocks hP hD hS (Nat.le_of_ble_eq_true rfl) (Nat.le_of_ble_eq_true rfl) (⟨rfl, rfl⟩) d_Hb_charge_79
        · skip
          exact absurd (by rw [if_neg hld]) c19
      · skip
        exact absurd hd0 c13
  · skip
    have c6n := hb_gt c6
    exact absurd (hb_gt c6) hm
set_option maxHeartbeats 4000000 in
set_option maxRecDepth 100000 in
theorem c_Hb_charge_ok {l : Launch} {s0 : State} {D : va_G} {cI cJ cO : ClassId} {e0 mi : Nat} (hE : hb_E l s0 D cI cJ cO e0 mi) (M : hb_M) (x la lp nb ra rp : Nat) (ho pa tm : Int32) (Ac : List (Nat × hbA)) (Py : List (Nat × hbY)) (h : cR cO e0 M x la lp nb ra rp ho pa tm Ac Py) (hk : cOK Ac Py) (i q : Nat) (r : hbY) (hi : Py[i]? = some (q, r)) (a : Nat) (an : Int32) (ak : hbA) (hac : hb_acc nb Ac r.2.1 = a) (fa : M a = some (aE an ak)) (hkk : ¬ r.1 < 0 ∧ ¬ 1000000 < r.1) (am : Int64) (hm : ¬ am < 1) (hs : r.2.2.1 = 3) (hd0 : r.2.2.2.2.2.2.2.1 = 0) (hld : ¬ (r.2.2.1 = 3 ∧ pa < tm - r.2.2.2.2.2.2.1)) (hmu : ¬ r.2.2.2.2.1 < am) : hb_Met l D hb_cl s0 y_Hb_charge b_Hb_charge 5 (some .int) { frames := 5, cells := 0, slots := 0, locals := 109 } [.ref x, .int r.1, .long am] M (fun v M1 => v = some (.int 1) ∧ M1 a = some (.inr (0, [.int an, .long ak.1, .long ak.2.1, .long (ak.2.2.1 + am), .long ak.2.2.2.1, .long (ak.2.2.2.2 + am)])) ∧ M1 q = some (.inr (1, [.int r.1, .ref a, .int r.2.2.1, .long r.2.2.2.1, .long r.2.2.2.2.1, .int r.2.2.2.2.2.1, .int r.2.2.2.2.2.2.1, .int 1, .long am, .int (tm + pa)])) ∧ hb_off [a, q] M M1) := by
  refine hb_Met.of (by decide) (Nat.le_of_ble_eq_true rfl) ?_
  intro p e s m below meth c A hAe hX hz hP hD hA hS ls hl
  obtain ⟨hx, hb, hr, hml, hown, hlocks, hnm, hG, hnh⟩ := id hX
  have hown : s.vm.findClass "HoldBook" = some m.cls := hown
  have hts := hE.ts hG ([.ref x, .int r.1, .long am] : List Value).toArray
  have hK := hE.kn hG
  have hl : lv_has ls 5 [(0, .ref x), (1, .int r.1), (2, .long am)] := hl
  have fx := h.1
  obtain ⟨mda, fla⟩ := h.fla
  obtain ⟨mdp, flp⟩ := h.flp
  have hlA := hk.1
  have hlP := hk.2.1
  have fq : M q = some (pE a r) := by have h9 := h.py hi; rw [hac] at h9; exact h9
  refine lv_iload_n hx hb d_Hb_charge_0 rfl (lv_at hl 1 rfl) ?_
  refine hb_callS (rest := []) hX hts hb_gd Y_Hb_checkKey (c_Hb_checkKey_ok hE M r.1 hkk) ml_Hb_68 st_Hb_checkKey hz hP hD hS hA rfl hl.1 rfl (Nat.le_of_ble_eq_true rfl) ⟨Nat.le_of_ble_eq_true rfl, Nat.le_of_ble_eq_true rfl⟩ ⟨Nat.le_of_ble_eq_true rfl, Nat.le_of_ble_eq_true rfl⟩ d_Hb_charge_1 (fun v3 M1 H locs hq2 hP hD hS _ hkp => ?_)
  obtain ⟨ev4, eM5⟩ := hq2
  subst ev4
  rw [eM5] at hP hD
  refine W.eq (g2 := F0 m 4 ls []) rfl ?_
  refine lv_lload_n hx hb d_Hb_charge_4 rfl (lv_at hl 2 rfl) ?_
  refine lv_lconst (v := 1) hx hb d_Hb_charge_5 (by decide) ?_
  refine hb_lc_ge (tgt := 20) hx hb d_Hb_charge_6 d_Hb_charge_7 (by decide) (fun c6 => ?_) (fun c6 => ?_)
  · skip
    have c6n := hb_ngt c6
    refine lv_aload_n hx hb d_Hb_charge_20 rfl (lv_at hl 0 rfl) ?_
    refine lv_iload_n hx hb d_Hb_charge_21 rfl (lv_at hl 1 rfl) ?_
    refine hb_callV (rest := []) hX hts hb_gd Y_Hb_find (c_Hb_find_at hE M x la lp nb ra rp ho pa tm Ac Py h hk i q r hi) ml_Hb_79 im_Hb_find se_Hb_find hK fx hC_Hb.1 hz hP hD hS hA rfl hl.1 rfl (Nat.le_of_ble_eq_true rfl) ⟨Nat.le_of_ble_eq_true rfl, Nat.le_of_ble_eq_true rfl⟩ ⟨Nat.le_of_ble_eq_true rfl, Nat.le_of_ble_eq_true rfl⟩ d_Hb_charge_22 (fun v9 M7 H locs hq8 hP hD hS _ hkp => ?_)
    obtain ⟨ev10, eM11⟩ := hq8
    subst ev10
    rw [eM11] at hP hD
    refine W.eq (g2 := F0 m 25 ls [.ref q]) rfl ?_
    refine lv_astore (lv' := [(4, .ref q), (0, .ref x), (1, .int r.1), (2, .long am)]) hx hb d_Hb_charge_25 hl (by decide) rfl (fun ls hl => ?_)
    refine lv_aload hx hb d_Hb_charge_27 (lv_at hl 0 rfl) ?_
    refine lv_ifnonnull (tgt := 35) hx hb d_Hb_charge_29 (by decide) ?_
    refine lv_aload hx hb d_Hb_charge_35 (lv_at hl 0 rfl) ?_
    refine hb_get hx hb hts hown hC_Pay hK hP fq 2 (by decide) rfl fl_Hb_122 rfl d_Hb_charge_37 ?_
    refine lv_iconst (v := 3) hx hb d_Hb_charge_40 (by decide) ?_
    refine lv_icmp_ne (tgt := 52) hx hb d_Hb_charge_41 (by decide) (fun c12 => ?_) (fun c12 => ?_)
    · skip
      exact absurd hs c12
    · skip
      refine lv_aload hx hb d_Hb_charge_44 (lv_at hl 0 rfl) ?_
      refine hb_get hx hb hts hown hC_Pay hK hP fq 7 (by decide) rfl fl_Hb_153 rfl d_Hb_charge_46 ?_
      refine lv_if_eq (tgt := 55) hx hb d_Hb_charge_49 (by decide) (fun c13 => ?_) (fun c13 => ?_)
      · skip
        refine lv_aload_n hx hb d_Hb_charge_55 rfl (lv_at hl 1 rfl) ?_
        refine lv_aload hx hb d_Hb_charge_56 (lv_at hl 0 rfl) ?_
        refine hb_callV (rest := []) hX hts hb_gd Y_Hb_isLongDone (c_Hb_isLongDone hE M x la lp nb ho pa tm fx q a r fq) ml_Hb_156 im_Hb_isLongDone se_Hb_isLongDone hK fx hC_Hb.1 hz hP hD hS hA rfl hl.1 rfl (Nat.le_of_ble_eq_true rfl) ⟨Nat.le_of_ble_eq_true rfl, Nat.le_of_ble_eq_true rfl⟩ ⟨Nat.le_of_ble_eq_true rfl, Nat.le_of_ble_eq_true rfl⟩ d_Hb_charge_58 (fun v16 M14 H locs hq15 hP hD hS _ hkp => ?_)
        obtain ⟨ev17, eM18⟩ := hq15
        subst ev17
        rw [eM18] at hP hD
        refine W.eq (g2 := F0 m 61 ls [.int (if (r.2.2.1 = 3 ∧ pa < tm - r.2.2.2.2.2.2.1) then 1 else 0)]) rfl ?_
        refine lv_if_eq (tgt := 67) hx hb d_Hb_charge_61 (by decide) (fun c19 => ?_) (fun c19 => ?_)
        · skip
          refine lv_lload_n hx hb d_Hb_charge_67 rfl (lv_at hl 3 rfl) ?_
          refine lv_aload hx hb d_Hb_charge_68 (lv_at hl 0 rfl) ?_
          refine hb_get hx hb hts hown hC_Pay hK hP fq 4 (by decide) rfl fl_Hb_137 rfl d_Hb_charge_70 ?_
          refine hb_lc_le (tgt := 80) hx hb d_Hb_charge_73 d_Hb_charge_74 (by decide) (fun c20 => ?_) (fun c20 => ?_)
          · skip
            have c20n := hb_ngt c20
            refine lv_aload hx hb d_Hb_charge_80 (lv_at hl 0 rfl) ?_
            refine lv_lload_n hx hb d_Hb_charge_82 rfl (lv_at hl 3 rfl) ?_
            refine lv_aload_n hx hb d_Hb_charge_83 rfl (lv_at hl 1 rfl) ?_
            refine hb_get hx hb hts hown hC_Hb hK hP fx 5 (by decide) rfl fl_Hb_28 rfl d_Hb_charge_84 ?_
            refine lv_aload_n hx hb d_Hb_charge_87 rfl (lv_at hl 1 rfl) ?_
            refine hb_get hx hb hts hown hC_Hb hK hP fx 1 (by decide) rfl fl_Hb_39 rfl d_Hb_charge_88 ?_
            refine lv_iadd hx hb d_Hb_charge_91 ?_
            refine hb_callV (rest := []) hX hts hb_gd Y_Pay_openDispute (c_Pay_openDispute hE M q a an ak.1 ak.2.1 ak.2.2.1 ak.2.2.2.1 ak.2.2.2.2 r.1 r.2.2.1 r.2.2.2.2.2.1 r.2.2.2.2.2.2.1 r.2.2.2.2.2.2.2.1 r.2.2.2.2.2.2.2.2.2 r.2.2.2.1 r.2.2.2.2.1 r.2.2.2.2.2.2.2.2.1 fa fq am (tm + pa)) ml_Hb_160 im_Pay_openDispute se_Pay_openDispute hK fq hC_Pay.1 hz hP hD hS hA rfl hl.1 rfl (Nat.le_of_ble_eq_true rfl) ⟨Nat.le_of_ble_eq_true rfl, Nat.le_of_ble_eq_true rfl⟩ ⟨Nat.le_of_ble_eq_true rfl, Nat.le_of_ble_eq_true rfl⟩ d_Hb_charge_92 (fun v23 M21 H locs hq22 hP hD hS _ hkp => ?_)
            obtain ⟨ev27, f24, f25, ho26⟩ := hq22
            subst ev27
            have f28 : M21 x = some (.inr (2, [.int ho, .int pa, .ref la, .ref lp, .ref nb, .int tm])) := ho26.at (hb_n2 (fun q9 => by rw [q9, fa] at fx; cases fx) (fun q9 => by rw [q9, fq] at fx; cases fx)) fx
            have f29 : M21 la = some (.inr (3, [.ref ra, .int (nI Ac.length), .int mda])) := ho26.at (hb_n2 (fun q9 => by rw [q9, fa] at fla; cases fla) (fun q9 => by rw [q9, fq] at fla; cases fla)) fla
            have f30 : M21 lp = some (.inr (3, [.ref rp, .int (nI Py.length), .int mdp])) := ho26.at (hb_n2 (fun q9 => by rw [q9, fa] at flp; cases flp) (fun q9 => by rw [q9, fq] at flp; cases flp)) flp
            refine W.eq (g2 := F0 m 95 ls []) rfl ?_
            refine lv_iconst (v := 1) hx hb d_Hb_charge_95 (by decide) ?_
            exact hb_iret hAe hx hb hr hlocks hP hD hS (Nat.le_of_ble_eq_true rfl) (Nat.le_of_ble_eq_true rfl) (⟨rfl, f24, f25, (hb_off.rf.tr ho26 (by simp))⟩) d_Hb_charge_96
          · skip
            have c20n := hb_gt c20
            exact absurd (hb_gt c20) hmu
        · skip
          exact absurd (by rw [if_neg hld]) c19
      · skip
        exact absurd hd0 c13
  · skip
    have c6n := hb_gt c6
    exact absurd (hb_gt c6) hm
set_option maxHeartbeats 4000000 in
set_option maxRecDepth 100000 in
theorem c_Hb_undo_st {l : Launch} {s0 : State} {D : va_G} {cI cJ cO : ClassId} {e0 mi : Nat} (hE : hb_E l s0 D cI cJ cO e0 mi) (M : hb_M) (x la lp nb ra rp : Nat) (ho pa tm : Int32) (Ac : List (Nat × hbA)) (Py : List (Nat × hbY)) (h : cR cO e0 M x la lp nb ra rp ho pa tm Ac Py) (hk : cOK Ac Py) (i q : Nat) (r : hbY) (hi : Py[i]? = some (q, r)) (a : Nat) (an : Int32) (ak : hbA) (hac : hb_acc nb Ac r.2.1 = a) (fa : M a = some (aE an ak)) (hkk : ¬ r.1 < 0 ∧ ¬ 1000000 < r.1) (le : Int64) (hl0 : ¬ le < 0) (to : Int32) (hs : r.2.2.1 = 3 ∨ 0 < r.2.2.2.2.1) : hb_Met l D hb_cl s0 y_Hb_undo b_Hb_undo 6 (some .long) { frames := 8, cells := 2, slots := 120, locals := 315 } [.ref x, .int r.1, .long le, .int to] M (fun v M1 => v = some (.long (-9)) ∧ M1 = M) := by
  refine hb_Met.of (by decide) (Nat.le_of_ble_eq_true rfl) ?_
  intro p e s m below meth c A hAe hX hz hP hD hA hS ls hl
  obtain ⟨hx, hb, hr, hml, hown, hlocks, hnm, hG, hnh⟩ := id hX
  have hown : s.vm.findClass "HoldBook" = some m.cls := hown
  have hts := hE.ts hG ([.ref x, .int r.1, .long le, .int to] : List Value).toArray
  have hK := hE.kn hG
  have hl : lv_has ls 6 [(0, .ref x), (1, .int r.1), (2, .long le), (4, .int to)] := hl
  have fx := h.1
  obtain ⟨mda, fla⟩ := h.fla
  obtain ⟨mdp, flp⟩ := h.flp
  have hlA := hk.1
  have hlP := hk.2.1
  have fq : M q = some (pE a r) := by have h9 := h.py hi; rw [hac] at h9; exact h9
  refine lv_iload_n hx hb d_Hb_undo_0 rfl (lv_at hl 1 rfl) ?_
  refine hb_callS (rest := []) hX hts hb_gd Y_Hb_checkKey (c_Hb_checkKey_ok hE M r.1 hkk) ml_Hb_68 st_Hb_checkKey hz hP hD hS hA rfl hl.1 rfl (Nat.le_of_ble_eq_true rfl) ⟨Nat.le_of_ble_eq_true rfl, Nat.le_of_ble_eq_true rfl⟩ ⟨Nat.le_of_ble_eq_true rfl, Nat.le_of_ble_eq_true rfl⟩ d_Hb_undo_1 (fun v3 M1 H locs hq2 hP hD hS _ hkp => ?_)
  obtain ⟨ev4, eM5⟩ := hq2
  subst ev4
  rw [eM5] at hP hD
  refine W.eq (g2 := F0 m 4 ls []) rfl ?_
  refine lv_lload_n hx hb d_Hb_undo_4 rfl (lv_at hl 2 rfl) ?_
  refine lv_lconst (v := 0) hx hb d_Hb_undo_5 (by decide) ?_
  refine hb_lc_ge (tgt := 20) hx hb d_Hb_undo_6 d_Hb_undo_7 (by decide) (fun c6 => ?_) (fun c6 => ?_)
  · skip
    have c6n := hb_ngt c6
    refine lv_aload_n hx hb d_Hb_undo_20 rfl (lv_at hl 0 rfl) ?_
    refine lv_iload_n hx hb d_Hb_undo_21 rfl (lv_at hl 1 rfl) ?_
    refine hb_callV (rest := []) hX hts hb_gd Y_Hb_find (c_Hb_find_at hE M x la lp nb ra rp ho pa tm Ac Py h hk i q r hi) ml_Hb_79 im_Hb_find se_Hb_find hK fx hC_Hb.1 hz hP hD hS hA rfl hl.1 rfl (Nat.le_of_ble_eq_true rfl) ⟨Nat.le_of_ble_eq_true rfl, Nat.le_of_ble_eq_true rfl⟩ ⟨Nat.le_of_ble_eq_true rfl, Nat.le_of_ble_eq_true rfl⟩ d_Hb_undo_22 (fun v9 M7 H locs hq8 hP hD hS _ hkp => ?_)
    obtain ⟨ev10, eM11⟩ := hq8
    subst ev10
    rw [eM11] at hP hD
    refine W.eq (g2 := F0 m 25 ls [.ref q]) rfl ?_
    refine lv_astore (lv' := [(5, .ref q), (0, .ref x), (1, .int r.1), (2, .long le), (4, .int to)]) hx hb d_Hb_undo_25 hl (by decide) rfl (fun ls hl => ?_)
    refine lv_aload hx hb d_Hb_undo_27 (lv_at hl 0 rfl) ?_
    refine lv_ifnonnull (tgt := 69) hx hb d_Hb_undo_29 (by decide) ?_
    refine lv_aload hx hb d_Hb_undo_69 (lv_at hl 0 rfl) ?_
    refine hb_get hx hb hts hown hC_Pay hK hP fq 2 (by decide) rfl fl_Hb_122 rfl d_Hb_undo_71 ?_
    refine lv_iconst (v := 3) hx hb d_Hb_undo_74 (by decide) ?_
    refine lv_icmp_eq (tgt := 88) hx hb d_Hb_undo_75 (by decide) (fun c12 => ?_) (fun c12 => ?_)
    · skip
      refine lv_ldc2 (v := (-9)) hx hb hown (hts _ kc_Hb_125) d_Hb_undo_88 ?_
      exact hb_lret hAe hx hb hr hlocks hP hD hS (Nat.le_of_ble_eq_true rfl) (Nat.le_of_ble_eq_true rfl) (⟨rfl, rfl⟩) d_Hb_undo_91
    · skip
      refine lv_aload hx hb d_Hb_undo_78 (lv_at hl 0 rfl) ?_
      refine hb_get hx hb hts hown hC_Pay hK hP fq 4 (by decide) rfl fl_Hb_137 rfl d_Hb_undo_80 ?_
      refine lv_lconst (v := 0) hx hb d_Hb_undo_83 (by decide) ?_
      refine hb_lc_le (tgt := 92) hx hb d_Hb_undo_84 d_Hb_undo_85 (by decide) (fun c13 => ?_) (fun c13 => ?_)
      · skip
        have c13n := hb_ngt c13
        exact absurd hs (by intro z; rcases z with z | z; exact absurd z (by assumption); exact absurd z c13n)
      · skip
        have c13n := hb_gt c13
        refine lv_ldc2 (v := (-9)) hx hb hown (hts _ kc_Hb_125) d_Hb_undo_88 ?_
        exact hb_lret hAe hx hb hr hlocks hP hD hS (Nat.le_of_ble_eq_true rfl) (Nat.le_of_ble_eq_true rfl) (⟨rfl, rfl⟩) d_Hb_undo_91
  · skip
    have c6n := hb_gt c6
    exact absurd (hb_gt c6) hl0
set_option maxHeartbeats 4000000 in
set_option maxRecDepth 100000 in
theorem c_Hb_undo_rel {l : Launch} {s0 : State} {D : va_G} {cI cJ cO : ClassId} {e0 mi : Nat} (hE : hb_E l s0 D cI cJ cO e0 mi) (M : hb_M) (x la lp nb ra rp : Nat) (ho pa tm : Int32) (Ac : List (Nat × hbA)) (Py : List (Nat × hbY)) (h : cR cO e0 M x la lp nb ra rp ho pa tm Ac Py) (hk : cOK Ac Py) (i q : Nat) (r : hbY) (hi : Py[i]? = some (q, r)) (a : Nat) (an : Int32) (ak : hbA) (hac : hb_acc nb Ac r.2.1 = a) (fa : M a = some (aE an ak)) (hkk : ¬ r.1 < 0 ∧ ¬ 1000000 < r.1) (le : Int64) (hl0 : ¬ le < 0) (to : Int32) (hs : ¬ (r.2.2.1 = 3 ∨ 0 < r.2.2.2.2.1)) (h1 : r.2.2.1 ≠ 1) : hb_Met l D hb_cl s0 y_Hb_undo b_Hb_undo 6 (some .long) { frames := 8, cells := 2, slots := 120, locals := 315 } [.ref x, .int r.1, .long le, .int to] M (fun v M1 => v = some (.long r.2.2.2.1) ∧ M1 = M) := by
  refine hb_Met.of (by decide) (Nat.le_of_ble_eq_true rfl) ?_
  intro p e s m below meth c A hAe hX hz hP hD hA hS ls hl
  obtain ⟨hx, hb, hr, hml, hown, hlocks, hnm, hG, hnh⟩ := id hX
  have hown : s.vm.findClass "HoldBook" = some m.cls := hown
  have hts := hE.ts hG ([.ref x, .int r.1, .long le, .int to] : List Value).toArray
  have hK := hE.kn hG
  have hl : lv_has ls 6 [(0, .ref x), (1, .int r.1), (2, .long le), (4, .int to)] := hl
  have fx := h.1
  obtain ⟨mda, fla⟩ := h.fla
  obtain ⟨mdp, flp⟩ := h.flp
  have hlA := hk.1
  have hlP := hk.2.1
  have fq : M q = some (pE a r) := by have h9 := h.py hi; rw [hac] at h9; exact h9
  refine lv_iload_n hx hb d_Hb_undo_0 rfl (lv_at hl 1 rfl) ?_
  refine hb_callS (rest := []) hX hts hb_gd Y_Hb_checkKey (c_Hb_checkKey_ok hE M r.1 hkk) ml_Hb_68 st_Hb_checkKey hz hP hD hS hA rfl hl.1 rfl (Nat.le_of_ble_eq_true rfl) ⟨Nat.le_of_ble_eq_true rfl, Nat.le_of_ble_eq_true rfl⟩ ⟨Nat.le_of_ble_eq_true rfl, Nat.le_of_ble_eq_true rfl⟩ d_Hb_undo_1 (fun v3 M1 H locs hq2 hP hD hS _ hkp => ?_)
  obtain ⟨ev4, eM5⟩ := hq2
  subst ev4
  rw [eM5] at hP hD
  refine W.eq (g2 := F0 m 4 ls []) rfl ?_
  refine lv_lload_n hx hb d_Hb_undo_4 rfl (lv_at hl 2 rfl) ?_
  refine lv_lconst (v := 0) hx hb d_Hb_undo_5 (by decide) ?_
  refine hb_lc_ge (tgt := 20) hx hb d_Hb_undo_6 d_Hb_undo_7 (by decide) (fun c6 => ?_) (fun c6 => ?_)
  · skip
    have c6n := hb_ngt c6
    refine lv_aload_n hx hb d_Hb_undo_20 rfl (lv_at hl 0 rfl) ?_
    refine lv_iload_n hx hb d_Hb_undo_21 rfl (lv_at hl 1 rfl) ?_
    refine hb_callV (rest := []) hX hts hb_gd Y_Hb_find (c_Hb_find_at hE M x la lp nb ra rp ho pa tm Ac Py h hk i q r hi) ml_Hb_79 im_Hb_find se_Hb_find hK fx hC_Hb.1 hz hP hD hS hA rfl hl.1 rfl (Nat.le_of_ble_eq_true rfl) ⟨Nat.le_of_ble_eq_true rfl, Nat.le_of_ble_eq_true rfl⟩ ⟨Nat.le_of_ble_eq_true rfl, Nat.le_of_ble_eq_true rfl⟩ d_Hb_undo_22 (fun v9 M7 H locs hq8 hP hD hS _ hkp => ?_)
    obtain ⟨ev10, eM11⟩ := hq8
    subst ev10
    rw [eM11] at hP hD
    refine W.eq (g2 := F0 m 25 ls [.ref q]) rfl ?_
    refine lv_astore (lv' := [(5, .ref q), (0, .ref x), (1, .int r.1), (2, .long le), (4, .int to)]) hx hb d_Hb_undo_25 hl (by decide) rfl (fun ls hl => ?_)
    refine lv_aload hx hb d_Hb_undo_27 (lv_at hl 0 rfl) ?_
    refine lv_ifnonnull (tgt := 69) hx hb d_Hb_undo_29 (by decide) ?_
    refine lv_aload hx hb d_Hb_undo_69 (lv_at hl 0 rfl) ?_
    refine hb_get hx hb hts hown hC_Pay hK hP fq 2 (by decide) rfl fl_Hb_122 rfl d_Hb_undo_71 ?_
    refine lv_iconst (v := 3) hx hb d_Hb_undo_74 (by decide) ?_
    refine lv_icmp_eq (tgt := 88) hx hb d_Hb_undo_75 (by decide) (fun c12 => ?_) (fun c12 => ?_)
    · skip
      exact absurd (Or.inl c12) hs
    · skip
      refine lv_aload hx hb d_Hb_undo_78 (lv_at hl 0 rfl) ?_
      refine hb_get hx hb hts hown hC_Pay hK hP fq 4 (by decide) rfl fl_Hb_137 rfl d_Hb_undo_80 ?_
      refine lv_lconst (v := 0) hx hb d_Hb_undo_83 (by decide) ?_
      refine hb_lc_le (tgt := 92) hx hb d_Hb_undo_84 d_Hb_undo_85 (by decide) (fun c13 => ?_) (fun c13 => ?_)
      · skip
        have c13n := hb_ngt c13
        refine lv_aload hx hb d_Hb_undo_92 (lv_at hl 0 rfl) ?_
        refine hb_get hx hb hts hown hC_Pay hK hP fq 2 (by decide) rfl fl_Hb_122 rfl d_Hb_undo_94 ?_
        refine lv_iconst (v := 1) hx hb d_Hb_undo_97 (by decide) ?_
        refine lv_icmp_ne (tgt := 135) hx hb d_Hb_undo_98 (by decide) (fun c14 => ?_) (fun c14 => ?_)
        · skip
          refine lv_aload hx hb d_Hb_undo_135 (lv_at hl 0 rfl) ?_
          refine hb_get hx hb hts hown hC_Pay hK hP fq 3 (by decide) rfl fl_Hb_116 rfl d_Hb_undo_137 ?_
          exact hb_lret hAe hx hb hr hlocks hP hD hS (Nat.le_of_ble_eq_true rfl) (Nat.le_of_ble_eq_true rfl) (⟨rfl, rfl⟩) d_Hb_undo_140
        · skip
          exact absurd c14 h1
      · skip
        have c13n := hb_gt c13
        exact absurd (Or.inr c13n) hs
  · skip
    have c6n := hb_gt c6
    exact absurd (hb_gt c6) hl0
set_option maxHeartbeats 4000000 in
set_option maxRecDepth 100000 in
theorem c_Hb_undo_keep {l : Launch} {s0 : State} {D : va_G} {cI cJ cO : ClassId} {e0 mi : Nat} (hE : hb_E l s0 D cI cJ cO e0 mi) (M : hb_M) (x la lp nb ra rp : Nat) (ho pa tm : Int32) (Ac : List (Nat × hbA)) (Py : List (Nat × hbY)) (h : cR cO e0 M x la lp nb ra rp ho pa tm Ac Py) (hk : cOK Ac Py) (i q : Nat) (r : hbY) (hi : Py[i]? = some (q, r)) (a : Nat) (an : Int32) (ak : hbA) (hac : hb_acc nb Ac r.2.1 = a) (fa : M a = some (aE an ak)) (hkk : ¬ r.1 < 0 ∧ ¬ 1000000 < r.1) (le : Int64) (hl0 : ¬ le < 0) (to : Int32) (hs : ¬ (r.2.2.1 = 3 ∨ 0 < r.2.2.2.2.1)) (h1 : r.2.2.1 = 1) (h2 : 0 < le ∧ le < r.2.2.2.1) : hb_Met l D hb_cl s0 y_Hb_undo b_Hb_undo 6 (some .long) { frames := 8, cells := 2, slots := 120, locals := 315 } [.ref x, .int r.1, .long le, .int to] M (fun v M1 => v = some (.long le) ∧ M1 a = some (.inr (0, [.int an, .long ak.1, .long ak.2.1, .long ak.2.2.1, .long (ak.2.2.2.1 + (le - r.2.2.2.1)), .long ak.2.2.2.2])) ∧ M1 q = some (.inr (1, [.int r.1, .ref a, .int r.2.2.1, .long le, .long r.2.2.2.2.1, .int r.2.2.2.2.2.1, .int r.2.2.2.2.2.2.1, .int r.2.2.2.2.2.2.2.1, .long r.2.2.2.2.2.2.2.2.1, .int r.2.2.2.2.2.2.2.2.2])) ∧ hb_off [a, q] M M1) := by
  refine hb_Met.of (by decide) (Nat.le_of_ble_eq_true rfl) ?_
  intro p e s m below meth c A hAe hX hz hP hD hA hS ls hl
  obtain ⟨hx, hb, hr, hml, hown, hlocks, hnm, hG, hnh⟩ := id hX
  have hown : s.vm.findClass "HoldBook" = some m.cls := hown
  have hts := hE.ts hG ([.ref x, .int r.1, .long le, .int to] : List Value).toArray
  have hK := hE.kn hG
  have hl : lv_has ls 6 [(0, .ref x), (1, .int r.1), (2, .long le), (4, .int to)] := hl
  have fx := h.1
  obtain ⟨mda, fla⟩ := h.fla
  obtain ⟨mdp, flp⟩ := h.flp
  have hlA := hk.1
  have hlP := hk.2.1
  have fq : M q = some (pE a r) := by have h9 := h.py hi; rw [hac] at h9; exact h9
  refine lv_iload_n hx hb d_Hb_undo_0 rfl (lv_at hl 1 rfl) ?_
  refine hb_callS (rest := []) hX hts hb_gd Y_Hb_checkKey (c_Hb_checkKey_ok hE M r.1 hkk) ml_Hb_68 st_Hb_checkKey hz hP hD hS hA rfl hl.1 rfl (Nat.le_of_ble_eq_true rfl) ⟨Nat.le_of_ble_eq_true rfl, Nat.le_of_ble_eq_true rfl⟩ ⟨Nat.le_of_ble_eq_true rfl, Nat.le_of_ble_eq_true rfl⟩ d_Hb_undo_1 (fun v3 M1 H locs hq2 hP hD hS _ hkp => ?_)
  obtain ⟨ev4, eM5⟩ := hq2
  subst ev4
  rw [eM5] at hP hD
  refine W.eq (g2 := F0 m 4 ls []) rfl ?_
  refine lv_lload_n hx hb d_Hb_undo_4 rfl (lv_at hl 2 rfl) ?_
  refine lv_lconst (v := 0) hx hb d_Hb_undo_5 (by decide) ?_
  refine hb_lc_ge (tgt := 20) hx hb d_Hb_undo_6 d_Hb_undo_7 (by decide) (fun c6 => ?_) (fun c6 => ?_)
  · skip
    have c6n := hb_ngt c6
    refine lv_aload_n hx hb d_Hb_undo_20 rfl (lv_at hl 0 rfl) ?_
    refine lv_iload_n hx hb d_Hb_undo_21 rfl (lv_at hl 1 rfl) ?_
    refine hb_callV (rest := []) hX hts hb_gd Y_Hb_find (c_Hb_find_at hE M x la lp nb ra rp ho pa tm Ac Py h hk i q r hi) ml_Hb_79 im_Hb_find se_Hb_find hK fx hC_Hb.1 hz hP hD hS hA rfl hl.1 rfl (Nat.le_of_ble_eq_true rfl) ⟨Nat.le_of_ble_eq_true rfl, Nat.le_of_ble_eq_true rfl⟩ ⟨Nat.le_of_ble_eq_true rfl, Nat.le_of_ble_eq_true rfl⟩ d_Hb_undo_22 (fun v9 M7 H locs hq8 hP hD hS _ hkp => ?_)
    obtain ⟨ev10, eM11⟩ := hq8
    subst ev10
    rw [eM11] at hP hD
    refine W.eq (g2 := F0 m 25 ls [.ref q]) rfl ?_
    refine lv_astore (lv' := [(5, .ref q), (0, .ref x), (1, .int r.1), (2, .long le), (4, .int to)]) hx hb d_Hb_undo_25 hl (by decide) rfl (fun ls hl => ?_)
    refine lv_aload hx hb d_Hb_undo_27 (lv_at hl 0 rfl) ?_
    refine lv_ifnonnull (tgt := 69) hx hb d_Hb_undo_29 (by decide) ?_
    refine lv_aload hx hb d_Hb_undo_69 (lv_at hl 0 rfl) ?_
    refine hb_get hx hb hts hown hC_Pay hK hP fq 2 (by decide) rfl fl_Hb_122 rfl d_Hb_undo_71 ?_
    refine lv_iconst (v := 3) hx hb d_Hb_undo_74 (by decide) ?_
    refine lv_icmp_eq (tgt := 88) hx hb d_Hb_undo_75 (by decide) (fun c12 => ?_) (fun c12 => ?_)
    · skip
      exact absurd (Or.inl c12) hs
    · skip
      refine lv_aload hx hb d_Hb_undo_78 (lv_at hl 0 rfl) ?_
      refine hb_get hx hb hts hown hC_Pay hK hP fq 4 (by decide) rfl fl_Hb_137 rfl d_Hb_undo_80 ?_
      refine lv_lconst (v := 0) hx hb d_Hb_undo_83 (by decide) ?_
      refine hb_lc_le (tgt := 92) hx hb d_Hb_undo_84 d_Hb_undo_85 (by decide) (fun c13 => ?_) (fun c13 => ?_)
      · skip
        have c13n := hb_ngt c13
        refine lv_aload hx hb d_Hb_undo_92 (lv_at hl 0 rfl) ?_
        refine hb_get hx hb hts hown hC_Pay hK hP fq 2 (by decide) rfl fl_Hb_122 rfl d_Hb_undo_94 ?_
        refine lv_iconst (v := 1) hx hb d_Hb_undo_97 (by decide) ?_
        refine lv_icmp_ne (tgt := 135) hx hb d_Hb_undo_98 (by decide) (fun c14 => ?_) (fun c14 => ?_)
        · skip
          exact absurd h1 c14
        · skip
          refine lv_lload_n hx hb d_Hb_undo_101 rfl (lv_at hl 3 rfl) ?_
          refine lv_lconst (v := 0) hx hb d_Hb_undo_102 (by decide) ?_
          refine hb_lc_le (tgt := 126) hx hb d_Hb_undo_103 d_Hb_undo_104 (by decide) (fun c15 => ?_) (fun c15 => ?_)
          · skip
            have c15n := hb_ngt c15
            exact absurd h2.1 c15n
          · skip
            have c15n := hb_gt c15
            refine lv_lload_n hx hb d_Hb_undo_107 rfl (lv_at hl 3 rfl) ?_
            refine lv_aload hx hb d_Hb_undo_108 (lv_at hl 0 rfl) ?_
            refine hb_get hx hb hts hown hC_Pay hK hP fq 3 (by decide) rfl fl_Hb_116 rfl d_Hb_undo_110 ?_
            refine hb_lc_ge (tgt := 126) hx hb d_Hb_undo_113 d_Hb_undo_114 (by decide) (fun c16 => ?_) (fun c16 => ?_)
            · skip
              have c16n := hb_ngt c16
              exact absurd h2.2 c16n
            · skip
              have c16n := hb_gt c16
              refine lv_aload hx hb d_Hb_undo_117 (lv_at hl 0 rfl) ?_
              refine lv_lload_n hx hb d_Hb_undo_119 rfl (lv_at hl 3 rfl) ?_
              refine hb_callV (rest := []) hX hts hb_gd Y_Pay_keepHeld (c_Pay_keepHeld hE M q a an ak.1 ak.2.1 ak.2.2.1 ak.2.2.2.1 ak.2.2.2.2 r.1 r.2.2.1 r.2.2.2.2.2.1 r.2.2.2.2.2.2.1 r.2.2.2.2.2.2.2.1 r.2.2.2.2.2.2.2.2.2 r.2.2.2.1 r.2.2.2.2.1 r.2.2.2.2.2.2.2.2.1 fa fq le) ml_Hb_140 im_Pay_keepHeld se_Pay_keepHeld hK fq hC_Pay.1 hz hP hD hS hA rfl hl.1 rfl (Nat.le_of_ble_eq_true rfl) ⟨Nat.le_of_ble_eq_true rfl, Nat.le_of_ble_eq_true rfl⟩ ⟨Nat.le_of_ble_eq_true rfl, Nat.le_of_ble_eq_true rfl⟩ d_Hb_undo_120 (fun v19 M17 H locs hq18 hP hD hS _ hkp => ?_)
              obtain ⟨ev23, f20, f21, ho22⟩ := hq18
              subst ev23
              have f24 : M17 x = some (.inr (2, [.int ho, .int pa, .ref la, .ref lp, .ref nb, .int tm])) := ho22.at (hb_n2 (fun q9 => by rw [q9, fa] at fx; cases fx) (fun q9 => by rw [q9, fq] at fx; cases fx)) fx
              have f25 : M17 la = some (.inr (3, [.ref ra, .int (nI Ac.length), .int mda])) := ho22.at (hb_n2 (fun q9 => by rw [q9, fa] at fla; cases fla) (fun q9 => by rw [q9, fq] at fla; cases fla)) fla
              have f26 : M17 lp = some (.inr (3, [.ref rp, .int (nI Py.length), .int mdp])) := ho22.at (hb_n2 (fun q9 => by rw [q9, fa] at flp; cases flp) (fun q9 => by rw [q9, fq] at flp; cases flp)) flp
              refine W.eq (g2 := F0 m 123 ls []) rfl ?_
              refine lv_goto (tgt := 135) hx hb d_Hb_undo_123 (by decide) ?_
              refine lv_aload hx hb d_Hb_undo_135 (lv_at hl 0 rfl) ?_
              refine hb_get hx hb hts hown hC_Pay hK hP f21 3 (by decide) rfl fl_Hb_116 rfl d_Hb_undo_137 ?_
              exact hb_lret hAe hx hb hr hlocks hP hD hS (Nat.le_of_ble_eq_true rfl) (Nat.le_of_ble_eq_true rfl) (⟨rfl, f20, f21, (hb_off.rf.tr ho22 (by simp))⟩) d_Hb_undo_140
      · skip
        have c13n := hb_gt c13
        exact absurd (Or.inr c13n) hs
  · skip
    have c6n := hb_gt c6
    exact absurd (hb_gt c6) hl0
set_option maxHeartbeats 4000000 in
set_option maxRecDepth 100000 in
theorem c_Hb_undo_end {l : Launch} {s0 : State} {D : va_G} {cI cJ cO : ClassId} {e0 mi : Nat} (hE : hb_E l s0 D cI cJ cO e0 mi) (M : hb_M) (x la lp nb ra rp : Nat) (ho pa tm : Int32) (Ac : List (Nat × hbA)) (Py : List (Nat × hbY)) (h : cR cO e0 M x la lp nb ra rp ho pa tm Ac Py) (hk : cOK Ac Py) (i q : Nat) (r : hbY) (hi : Py[i]? = some (q, r)) (a : Nat) (an : Int32) (ak : hbA) (hac : hb_acc nb Ac r.2.1 = a) (fa : M a = some (aE an ak)) (hkk : ¬ r.1 < 0 ∧ ¬ 1000000 < r.1) (le : Int64) (hl0 : ¬ le < 0) (to : Int32) (hs : ¬ (r.2.2.1 = 3 ∨ 0 < r.2.2.2.2.1)) (h1 : r.2.2.1 = 1) (h2 : ¬ (0 < le ∧ le < r.2.2.2.1)) : hb_Met l D hb_cl s0 y_Hb_undo b_Hb_undo 6 (some .long) { frames := 8, cells := 2, slots := 120, locals := 315 } [.ref x, .int r.1, .long le, .int to] M (fun v M1 => v = some (.long 0) ∧ M1 a = some (.inr (0, [.int an, .long ak.1, .long ak.2.1, .long ak.2.2.1, .long (ak.2.2.2.1 + (0 - r.2.2.2.1)), .long ak.2.2.2.2])) ∧ M1 q = some (.inr (1, [.int r.1, .ref a, .int (if 0 < r.2.2.2.2.1 then 3 else 2), .long 0, .long r.2.2.2.2.1, .int 0, .int (if 0 < r.2.2.2.2.1 then tm else r.2.2.2.2.2.2.1), .int r.2.2.2.2.2.2.2.1, .long r.2.2.2.2.2.2.2.2.1, .int r.2.2.2.2.2.2.2.2.2])) ∧ hb_off [a, q] M M1) := by
  refine hb_Met.of (by decide) (Nat.le_of_ble_eq_true rfl) ?_
  intro p e s m below meth c A hAe hX hz hP hD hA hS ls hl
  obtain ⟨hx, hb, hr, hml, hown, hlocks, hnm, hG, hnh⟩ := id hX
  have hown : s.vm.findClass "HoldBook" = some m.cls := hown
  have hts := hE.ts hG ([.ref x, .int r.1, .long le, .int to] : List Value).toArray
  have hK := hE.kn hG
  have hl : lv_has ls 6 [(0, .ref x), (1, .int r.1), (2, .long le), (4, .int to)] := hl
  have fx := h.1
  obtain ⟨mda, fla⟩ := h.fla
  obtain ⟨mdp, flp⟩ := h.flp
  have hlA := hk.1
  have hlP := hk.2.1
  have fq : M q = some (pE a r) := by have h9 := h.py hi; rw [hac] at h9; exact h9
  refine lv_iload_n hx hb d_Hb_undo_0 rfl (lv_at hl 1 rfl) ?_
  refine hb_callS (rest := []) hX hts hb_gd Y_Hb_checkKey (c_Hb_checkKey_ok hE M r.1 hkk) ml_Hb_68 st_Hb_checkKey hz hP hD hS hA rfl hl.1 rfl (Nat.le_of_ble_eq_true rfl) ⟨Nat.le_of_ble_eq_true rfl, Nat.le_of_ble_eq_true rfl⟩ ⟨Nat.le_of_ble_eq_true rfl, Nat.le_of_ble_eq_true rfl⟩ d_Hb_undo_1 (fun v3 M1 H locs hq2 hP hD hS _ hkp => ?_)
  obtain ⟨ev4, eM5⟩ := hq2
  subst ev4
  rw [eM5] at hP hD
  refine W.eq (g2 := F0 m 4 ls []) rfl ?_
  refine lv_lload_n hx hb d_Hb_undo_4 rfl (lv_at hl 2 rfl) ?_
  refine lv_lconst (v := 0) hx hb d_Hb_undo_5 (by decide) ?_
  refine hb_lc_ge (tgt := 20) hx hb d_Hb_undo_6 d_Hb_undo_7 (by decide) (fun c6 => ?_) (fun c6 => ?_)
  · skip
    have c6n := hb_ngt c6
    refine lv_aload_n hx hb d_Hb_undo_20 rfl (lv_at hl 0 rfl) ?_
    refine lv_iload_n hx hb d_Hb_undo_21 rfl (lv_at hl 1 rfl) ?_
    refine hb_callV (rest := []) hX hts hb_gd Y_Hb_find (c_Hb_find_at hE M x la lp nb ra rp ho pa tm Ac Py h hk i q r hi) ml_Hb_79 im_Hb_find se_Hb_find hK fx hC_Hb.1 hz hP hD hS hA rfl hl.1 rfl (Nat.le_of_ble_eq_true rfl) ⟨Nat.le_of_ble_eq_true rfl, Nat.le_of_ble_eq_true rfl⟩ ⟨Nat.le_of_ble_eq_true rfl, Nat.le_of_ble_eq_true rfl⟩ d_Hb_undo_22 (fun v9 M7 H locs hq8 hP hD hS _ hkp => ?_)
    obtain ⟨ev10, eM11⟩ := hq8
    subst ev10
    rw [eM11] at hP hD
    refine W.eq (g2 := F0 m 25 ls [.ref q]) rfl ?_
    refine lv_astore (lv' := [(5, .ref q), (0, .ref x), (1, .int r.1), (2, .long le), (4, .int to)]) hx hb d_Hb_undo_25 hl (by decide) rfl (fun ls hl => ?_)
    refine lv_aload hx hb d_Hb_undo_27 (lv_at hl 0 rfl) ?_
    refine lv_ifnonnull (tgt := 69) hx hb d_Hb_undo_29 (by decide) ?_
    refine lv_aload hx hb d_Hb_undo_69 (lv_at hl 0 rfl) ?_
    refine hb_get hx hb hts hown hC_Pay hK hP fq 2 (by decide) rfl fl_Hb_122 rfl d_Hb_undo_71 ?_
    refine lv_iconst (v := 3) hx hb d_Hb_undo_74 (by decide) ?_
    refine lv_icmp_eq (tgt := 88) hx hb d_Hb_undo_75 (by decide) (fun c12 => ?_) (fun c12 => ?_)
    · skip
      exact absurd (Or.inl c12) hs
    · skip
      refine lv_aload hx hb d_Hb_undo_78 (lv_at hl 0 rfl) ?_
      refine hb_get hx hb hts hown hC_Pay hK hP fq 4 (by decide) rfl fl_Hb_137 rfl d_Hb_undo_80 ?_
      refine lv_lconst (v := 0) hx hb d_Hb_undo_83 (by decide) ?_
      refine hb_lc_le (tgt := 92) hx hb d_Hb_undo_84 d_Hb_undo_85 (by decide) (fun c13 => ?_) (fun c13 => ?_)
      · skip
        have c13n := hb_ngt c13
        refine lv_aload hx hb d_Hb_undo_92 (lv_at hl 0 rfl) ?_
        refine hb_get hx hb hts hown hC_Pay hK hP fq 2 (by decide) rfl fl_Hb_122 rfl d_Hb_undo_94 ?_
        refine lv_iconst (v := 1) hx hb d_Hb_undo_97 (by decide) ?_
        refine lv_icmp_ne (tgt := 135) hx hb d_Hb_undo_98 (by decide) (fun c14 => ?_) (fun c14 => ?_)
        · skip
          exact absurd h1 c14
        · skip
          refine lv_lload_n hx hb d_Hb_undo_101 rfl (lv_at hl 3 rfl) ?_
          refine lv_lconst (v := 0) hx hb d_Hb_undo_102 (by decide) ?_
          refine hb_lc_le (tgt := 126) hx hb d_Hb_undo_103 d_Hb_undo_104 (by decide) (fun c15 => ?_) (fun c15 => ?_)
          · skip
            have c15n := hb_ngt c15
            refine lv_aload hx hb d_Hb_undo_126 (lv_at hl 0 rfl) ?_
            refine lv_aload_n hx hb d_Hb_undo_128 rfl (lv_at hl 1 rfl) ?_
            refine hb_get hx hb hts hown hC_Hb hK hP fx 5 (by decide) rfl fl_Hb_28 rfl d_Hb_undo_129 ?_
            refine hb_callV (rest := []) hX hts hb_gd Y_Pay_endHold (c_Pay_endHold hE M q a an ak.1 ak.2.1 ak.2.2.1 ak.2.2.2.1 ak.2.2.2.2 r.1 r.2.2.1 r.2.2.2.2.2.1 r.2.2.2.2.2.2.1 r.2.2.2.2.2.2.2.1 r.2.2.2.2.2.2.2.2.2 r.2.2.2.1 r.2.2.2.2.1 r.2.2.2.2.2.2.2.2.1 fa fq tm) ml_Hb_132 im_Pay_endHold se_Pay_endHold hK fq hC_Pay.1 hz hP hD hS hA rfl hl.1 rfl (Nat.le_of_ble_eq_true rfl) ⟨Nat.le_of_ble_eq_true rfl, Nat.le_of_ble_eq_true rfl⟩ ⟨Nat.le_of_ble_eq_true rfl, Nat.le_of_ble_eq_true rfl⟩ d_Hb_undo_132 (fun v18 M16 H locs hq17 hP hD hS _ hkp => ?_)
            obtain ⟨ev22, f19, f20, ho21⟩ := hq17
            subst ev22
            have f23 : M16 x = some (.inr (2, [.int ho, .int pa, .ref la, .ref lp, .ref nb, .int tm])) := ho21.at (hb_n2 (fun q9 => by rw [q9, fa] at fx; cases fx) (fun q9 => by rw [q9, fq] at fx; cases fx)) fx
            have f24 : M16 la = some (.inr (3, [.ref ra, .int (nI Ac.length), .int mda])) := ho21.at (hb_n2 (fun q9 => by rw [q9, fa] at fla; cases fla) (fun q9 => by rw [q9, fq] at fla; cases fla)) fla
            have f25 : M16 lp = some (.inr (3, [.ref rp, .int (nI Py.length), .int mdp])) := ho21.at (hb_n2 (fun q9 => by rw [q9, fa] at flp; cases flp) (fun q9 => by rw [q9, fq] at flp; cases flp)) flp
            refine W.eq (g2 := F0 m 135 ls []) rfl ?_
            refine lv_aload hx hb d_Hb_undo_135 (lv_at hl 0 rfl) ?_
            refine hb_get hx hb hts hown hC_Pay hK hP f20 3 (by decide) rfl fl_Hb_116 rfl d_Hb_undo_137 ?_
            exact hb_lret hAe hx hb hr hlocks hP hD hS (Nat.le_of_ble_eq_true rfl) (Nat.le_of_ble_eq_true rfl) (⟨rfl, f19, f20, (hb_off.rf.tr ho21 (by simp))⟩) d_Hb_undo_140
          · skip
            have c15n := hb_gt c15
            refine lv_lload_n hx hb d_Hb_undo_107 rfl (lv_at hl 3 rfl) ?_
            refine lv_aload hx hb d_Hb_undo_108 (lv_at hl 0 rfl) ?_
            refine hb_get hx hb hts hown hC_Pay hK hP fq 3 (by decide) rfl fl_Hb_116 rfl d_Hb_undo_110 ?_
            refine hb_lc_ge (tgt := 126) hx hb d_Hb_undo_113 d_Hb_undo_114 (by decide) (fun c26 => ?_) (fun c26 => ?_)
            · skip
              have c26n := hb_ngt c26
              refine lv_aload hx hb d_Hb_undo_126 (lv_at hl 0 rfl) ?_
              refine lv_aload_n hx hb d_Hb_undo_128 rfl (lv_at hl 1 rfl) ?_
              refine hb_get hx hb hts hown hC_Hb hK hP fx 5 (by decide) rfl fl_Hb_28 rfl d_Hb_undo_129 ?_
              refine hb_callV (rest := []) hX hts hb_gd Y_Pay_endHold (c_Pay_endHold hE M q a an ak.1 ak.2.1 ak.2.2.1 ak.2.2.2.1 ak.2.2.2.2 r.1 r.2.2.1 r.2.2.2.2.2.1 r.2.2.2.2.2.2.1 r.2.2.2.2.2.2.2.1 r.2.2.2.2.2.2.2.2.2 r.2.2.2.1 r.2.2.2.2.1 r.2.2.2.2.2.2.2.2.1 fa fq tm) ml_Hb_132 im_Pay_endHold se_Pay_endHold hK fq hC_Pay.1 hz hP hD hS hA rfl hl.1 rfl (Nat.le_of_ble_eq_true rfl) ⟨Nat.le_of_ble_eq_true rfl, Nat.le_of_ble_eq_true rfl⟩ ⟨Nat.le_of_ble_eq_true rfl, Nat.le_of_ble_eq_true rfl⟩ d_Hb_undo_132 (fun v29 M27 H locs hq28 hP hD hS _ hkp => ?_)
              obtain ⟨ev33, f30, f31, ho32⟩ := hq28
              subst ev33
              have f34 : M27 x = some (.inr (2, [.int ho, .int pa, .ref la, .ref lp, .ref nb, .int tm])) := ho32.at (hb_n2 (fun q9 => by rw [q9, fa] at fx; cases fx) (fun q9 => by rw [q9, fq] at fx; cases fx)) fx
              have f35 : M27 la = some (.inr (3, [.ref ra, .int (nI Ac.length), .int mda])) := ho32.at (hb_n2 (fun q9 => by rw [q9, fa] at fla; cases fla) (fun q9 => by rw [q9, fq] at fla; cases fla)) fla
              have f36 : M27 lp = some (.inr (3, [.ref rp, .int (nI Py.length), .int mdp])) := ho32.at (hb_n2 (fun q9 => by rw [q9, fa] at flp; cases flp) (fun q9 => by rw [q9, fq] at flp; cases flp)) flp
              refine W.eq (g2 := F0 m 135 ls []) rfl ?_
              refine lv_aload hx hb d_Hb_undo_135 (lv_at hl 0 rfl) ?_
              refine hb_get hx hb hts hown hC_Pay hK hP f31 3 (by decide) rfl fl_Hb_116 rfl d_Hb_undo_137 ?_
              exact hb_lret hAe hx hb hr hlocks hP hD hS (Nat.le_of_ble_eq_true rfl) (Nat.le_of_ble_eq_true rfl) (⟨rfl, f30, f31, (hb_off.rf.tr ho32 (by simp))⟩) d_Hb_undo_140
            · skip
              have c26n := hb_gt c26
              exact absurd ⟨by assumption, c26n⟩ h2
      · skip
        have c13n := hb_gt c13
        exact absurd (Or.inr c13n) hs
  · skip
    have c6n := hb_gt c6
    exact absurd (hb_gt c6) hl0
set_option maxHeartbeats 4000000 in
set_option maxRecDepth 100000 in
theorem c_Hb_undo_no {l : Launch} {s0 : State} {D : va_G} {cI cJ cO : ClassId} {e0 mi : Nat} (hE : hb_E l s0 D cI cJ cO e0 mi) (M : hb_M) (x la lp nb ra rp : Nat) (ho pa tm : Int32) (Ac : List (Nat × hbA)) (Py : List (Nat × hbY)) (h : cR cO e0 M x la lp nb ra rp ho pa tm Ac Py) (hk : cOK Ac Py) (k : Int32) (hno : ∀ (i q : Nat) (r : hbY), Py[i]? = some (q, r) → r.1 ≠ k) (hkk : ¬ k < 0 ∧ ¬ 1000000 < k) (le : Int64) (hl0 : ¬ le < 0) (to : Int32) (hto : to = 0 ∨ 60 ≤ Py.length) : hb_Met l D hb_cl s0 y_Hb_undo b_Hb_undo 6 (some .long) { frames := 8, cells := 2, slots := 120, locals := 315 } [.ref x, .int k, .long le, .int to] M (fun v M1 => v = some (.long (-6)) ∧ M1 = M) := by
  refine hb_Met.of (by decide) (Nat.le_of_ble_eq_true rfl) ?_
  intro p e s m below meth c A hAe hX hz hP hD hA hS ls hl
  obtain ⟨hx, hb, hr, hml, hown, hlocks, hnm, hG, hnh⟩ := id hX
  have hown : s.vm.findClass "HoldBook" = some m.cls := hown
  have hts := hE.ts hG ([.ref x, .int k, .long le, .int to] : List Value).toArray
  have hK := hE.kn hG
  have hl : lv_has ls 6 [(0, .ref x), (1, .int k), (2, .long le), (4, .int to)] := hl
  have fx := h.1
  obtain ⟨mda, fla⟩ := h.fla
  obtain ⟨mdp, flp⟩ := h.flp
  have hlA := hk.1
  have hlP := hk.2.1
  refine lv_iload_n hx hb d_Hb_undo_0 rfl (lv_at hl 1 rfl) ?_
  refine hb_callS (rest := []) hX hts hb_gd Y_Hb_checkKey (c_Hb_checkKey_ok hE M k hkk) ml_Hb_68 st_Hb_checkKey hz hP hD hS hA rfl hl.1 rfl (Nat.le_of_ble_eq_true rfl) ⟨Nat.le_of_ble_eq_true rfl, Nat.le_of_ble_eq_true rfl⟩ ⟨Nat.le_of_ble_eq_true rfl, Nat.le_of_ble_eq_true rfl⟩ d_Hb_undo_1 (fun v3 M1 H locs hq2 hP hD hS _ hkp => ?_)
  obtain ⟨ev4, eM5⟩ := hq2
  subst ev4
  rw [eM5] at hP hD
  refine W.eq (g2 := F0 m 4 ls []) rfl ?_
  refine lv_lload_n hx hb d_Hb_undo_4 rfl (lv_at hl 2 rfl) ?_
  refine lv_lconst (v := 0) hx hb d_Hb_undo_5 (by decide) ?_
  refine hb_lc_ge (tgt := 20) hx hb d_Hb_undo_6 d_Hb_undo_7 (by decide) (fun c6 => ?_) (fun c6 => ?_)
  · skip
    have c6n := hb_ngt c6
    refine lv_aload_n hx hb d_Hb_undo_20 rfl (lv_at hl 0 rfl) ?_
    refine lv_iload_n hx hb d_Hb_undo_21 rfl (lv_at hl 1 rfl) ?_
    refine hb_callV (rest := []) hX hts hb_gd Y_Hb_find (c_Hb_find_no hE M x la lp nb ra rp ho pa tm Ac Py h hk k hno) ml_Hb_79 im_Hb_find se_Hb_find hK fx hC_Hb.1 hz hP hD hS hA rfl hl.1 rfl (Nat.le_of_ble_eq_true rfl) ⟨Nat.le_of_ble_eq_true rfl, Nat.le_of_ble_eq_true rfl⟩ ⟨Nat.le_of_ble_eq_true rfl, Nat.le_of_ble_eq_true rfl⟩ d_Hb_undo_22 (fun v9 M7 H locs hq8 hP hD hS _ hkp => ?_)
    obtain ⟨ev10, eM11⟩ := hq8
    subst ev10
    rw [eM11] at hP hD
    refine W.eq (g2 := F0 m 25 ls [.null]) rfl ?_
    refine lv_astoreN (lv' := [(5, .null), (0, .ref x), (1, .int k), (2, .long le), (4, .int to)]) hx hb d_Hb_undo_25 hl (by decide) rfl (fun ls hl => ?_)
    refine lv_aloadN hx hb d_Hb_undo_27 (lv_at hl 0 rfl) ?_
    refine lv_ifnonnullN hx hb d_Hb_undo_29 ?_
    refine lv_iload hx hb d_Hb_undo_32 (lv_at hl 4 rfl) ?_
    refine lv_if_eq (tgt := 65) hx hb d_Hb_undo_34 (by decide) (fun c12 => ?_) (fun c12 => ?_)
    · skip
      refine lv_ldc2 (v := (-6)) hx hb hown (hts _ kc_Hb_120) d_Hb_undo_65 ?_
      exact hb_lret hAe hx hb hr hlocks hP hD hS (Nat.le_of_ble_eq_true rfl) (Nat.le_of_ble_eq_true rfl) (⟨rfl, rfl⟩) d_Hb_undo_68
    · skip
      refine lv_aload_n hx hb d_Hb_undo_37 rfl (lv_at hl 1 rfl) ?_
      refine hb_get hx hb hts hown hC_Hb hK hP fx 3 (by decide) rfl fl_Hb_16 rfl d_Hb_undo_38 ?_
      refine hb_callV (rest := []) hX hts hb_gd Y_Al_size (c_py_size hE h) ml_Hb_55 im_Al_size se_Al_size hK flp hC_Al.1 hz hP hD hS hA rfl hl.1 rfl (Nat.le_of_ble_eq_true rfl) ⟨Nat.le_of_ble_eq_true rfl, Nat.le_of_ble_eq_true rfl⟩ ⟨Nat.le_of_ble_eq_true rfl, Nat.le_of_ble_eq_true rfl⟩ d_Hb_undo_41 (fun v15 M13 H locs hq14 hP hD hS _ hkp => ?_)
      obtain ⟨ev16, eM17⟩ := hq14
      subst ev16
      rw [eM17] at hP hD
      refine W.eq (g2 := F0 m 44 ls [.int (nI Py.length)]) rfl ?_
      refine lv_bipush (v := 60) hx hb d_Hb_undo_44 (by decide) ?_
      refine lv_icmp_ge (tgt := 65) hx hb d_Hb_undo_46 (by decide) (fun c18 => ?_) (fun c18 => ?_)
      · skip
        have c18n := hb_ngti c18
        refine lv_ldc2 (v := (-6)) hx hb hown (hts _ kc_Hb_120) d_Hb_undo_65 ?_
        exact hb_lret hAe hx hb hr hlocks hP hD hS (Nat.le_of_ble_eq_true rfl) (Nat.le_of_ble_eq_true rfl) (⟨rfl, rfl⟩) d_Hb_undo_68
      · skip
        have c18n := hb_gti c18
        exact absurd hto (by intro z; rcases z with z | z; exact absurd z (by assumption); exact c18 (nI_le (a := 60) z (by omega)))
  · skip
    have c6n := hb_gt c6
    exact absurd (hb_gt c6) hl0
set_option maxHeartbeats 4000000 in
set_option maxRecDepth 100000 in
/-- enter(p) -/
theorem c_Hb_enter {l : Launch} {s0 : State} {D : va_G} {cI cJ cO : ClassId} {e0 mi : Nat} (hE : hb_E l s0 D cI cJ cO e0 mi) (M : hb_M) (x la lp nb ra rp : Nat) (ho pa tm : Int32) (Ac : List (Nat × hbA)) (Py : List (Nat × hbY)) (h : cR cO e0 M x la lp nb ra rp ho pa tm Ac Py) (hk : cOK Ac Py) (p0 : Nat) (r : hbY) (fp : M p0 = some (pE (hb_acc nb Ac r.2.1) r)) (hl9 : Py.length < 60) : hb_Met l D hb_cl s0 y_Hb_enter b_Hb_enter 2 none { frames := 6, cells := 1, slots := 100, locals := 231 } [.ref x, .ref p0] M (fun v M1 => v = none ∧ ∃ rp1, cR cO e0 M1 x la lp nb ra rp1 ho pa tm Ac (Py.insertIdx (hb_pos Py r.1) (p0, r))) := by
  refine hb_Met.of (by decide) (Nat.le_of_ble_eq_true rfl) ?_
  intro p e s m below meth c A hAe hX hz hP hD hA hS ls hl
  obtain ⟨hx, hb, hr, hml, hown, hlocks, hnm, hG, hnh⟩ := id hX
  have hown : s.vm.findClass "HoldBook" = some m.cls := hown
  have hts := hE.ts hG ([.ref x, .ref p0] : List Value).toArray
  have hK := hE.kn hG
  have hl : lv_has ls 2 [(0, .ref x), (1, .ref p0)] := hl
  have fx := h.1
  obtain ⟨mda, fla⟩ := h.fla
  obtain ⟨mdp, flp⟩ := h.flp
  have hlA := hk.1
  have hlP := hk.2.1
  refine lv_aload_n hx hb d_Hb_enter_0 rfl (lv_at hl 0 rfl) ?_
  refine hb_get hx hb hts hown hC_Hb hK hP fx 3 (by decide) rfl fl_Hb_16 rfl d_Hb_enter_1 ?_
  refine lv_aload_n hx hb d_Hb_enter_4 rfl (lv_at hl 0 rfl) ?_
  refine lv_aload_n hx hb d_Hb_enter_5 rfl (lv_at hl 1 rfl) ?_
  refine hb_get hx hb hts hown hC_Pay hK hP fp 0 (by decide) rfl fl_Hb_189 rfl d_Hb_enter_6 ?_
  refine hb_callV (rest := [.ref lp]) hX hts hb_gd Y_Hb_placeOf (c_Hb_placeOf hE M x la lp nb ra rp ho pa tm Ac Py h hk r.1) ml_Hb_214 im_Hb_placeOf se_Hb_placeOf hK fx hC_Hb.1 hz hP hD hS hA rfl hl.1 rfl (Nat.le_of_ble_eq_true rfl) ⟨Nat.le_of_ble_eq_true rfl, Nat.le_of_ble_eq_true rfl⟩ ⟨Nat.le_of_ble_eq_true rfl, Nat.le_of_ble_eq_true rfl⟩ d_Hb_enter_9 (fun v3 M1 H locs hq2 hP hD hS _ hkp => ?_)
  obtain ⟨ev4, eM5⟩ := hq2
  subst ev4
  rw [eM5] at hP hD
  refine W.eq (g2 := F0 m 12 ls [.int (nI (hb_pos Py r.1)), .ref lp]) rfl ?_
  refine lv_aload_n hx hb d_Hb_enter_12 rfl (lv_at hl 1 rfl) ?_
  refine hb_callV (rest := []) hX hts hb_gd Y_Al_add3 (c_lst_ins hE h.2.2.2.2.2.1 h.2.2.1 h.obP (by rw [List.length_map]; exact hb_pos_le Py r.1) (by rw [List.length_map]; omega) fp (Or.inr rfl)) ml_Hb_217 im_Al_add3 se_Al_add3 hK flp hC_Al.1 hz hP hD hS hA rfl hl.1 rfl (Nat.le_of_ble_eq_true rfl) ⟨Nat.le_of_ble_eq_true rfl, Nat.le_of_ble_eq_true rfl⟩ ⟨Nat.le_of_ble_eq_true rfl, Nat.le_of_ble_eq_true rfl⟩ d_Hb_enter_13 (fun v8 M6 H locs hq7 hP hD hS _ hkp => ?_)
  obtain ⟨ev9, rp9, b1, b2, b3⟩ := hq7
  subst ev9
  have m0 := hb_e0 hE hz hD
  refine W.eq (g2 := F0 m 16 ls []) rfl ?_
  exact hb_vret hAe hx hb hr hlocks hP hD hS (Nat.le_of_ble_eq_true rfl) (Nat.le_of_ble_eq_true rfl) (⟨rfl, rp9, h.ins (hb_pos_le Py r.1) fp b1 b2 b3 m0⟩) d_Hb_enter_16
set_option maxHeartbeats 4000000 in
set_option maxRecDepth 100000 in
theorem c_Hb_undo_tomb {l : Launch} {s0 : State} {D : va_G} {cI cJ cO : ClassId} {e0 mi : Nat} (hE : hb_E l s0 D cI cJ cO e0 mi) (M : hb_M) (x la lp nb ra rp : Nat) (ho pa tm : Int32) (Ac : List (Nat × hbA)) (Py : List (Nat × hbY)) (h : cR cO e0 M x la lp nb ra rp ho pa tm Ac Py) (hk : cOK Ac Py) (k : Int32) (hno : ∀ (i q : Nat) (r : hbY), Py[i]? = some (q, r) → r.1 ≠ k) (hkk : ¬ k < 0 ∧ ¬ 1000000 < k) (le : Int64) (hl0 : ¬ le < 0) (to : Int32) (hto : to ≠ 0) (hl9 : Py.length < 60) : hb_Met l D hb_cl s0 y_Hb_undo b_Hb_undo 6 (some .long) { frames := 8, cells := 2, slots := 120, locals := 315 } [.ref x, .int k, .long le, .int to] M (fun v M1 => v = some (.long (-6)) ∧ ∃ p0 rp1, cR cO e0 M1 x la lp nb ra rp1 ho pa tm Ac (Py.insertIdx (hb_pos Py k) (p0, ((k, -1, 2, 0, 0, 0, -1, 0, 0, -1) : hbY)))) := by
  refine hb_Met.of (by decide) (Nat.le_of_ble_eq_true rfl) ?_
  intro p e s m below meth c A hAe hX hz hP hD hA hS ls hl
  obtain ⟨hx, hb, hr, hml, hown, hlocks, hnm, hG, hnh⟩ := id hX
  have hown : s.vm.findClass "HoldBook" = some m.cls := hown
  have hts := hE.ts hG ([.ref x, .int k, .long le, .int to] : List Value).toArray
  have hK := hE.kn hG
  have hl : lv_has ls 6 [(0, .ref x), (1, .int k), (2, .long le), (4, .int to)] := hl
  have fx := h.1
  obtain ⟨mda, fla⟩ := h.fla
  obtain ⟨mdp, flp⟩ := h.flp
  have hlA := hk.1
  have hlP := hk.2.1
  refine lv_iload_n hx hb d_Hb_undo_0 rfl (lv_at hl 1 rfl) ?_
  refine hb_callS (rest := []) hX hts hb_gd Y_Hb_checkKey (c_Hb_checkKey_ok hE M k hkk) ml_Hb_68 st_Hb_checkKey hz hP hD hS hA rfl hl.1 rfl (Nat.le_of_ble_eq_true rfl) ⟨Nat.le_of_ble_eq_true rfl, Nat.le_of_ble_eq_true rfl⟩ ⟨Nat.le_of_ble_eq_true rfl, Nat.le_of_ble_eq_true rfl⟩ d_Hb_undo_1 (fun v3 M1 H locs hq2 hP hD hS _ hkp => ?_)
  obtain ⟨ev4, eM5⟩ := hq2
  subst ev4
  rw [eM5] at hP hD
  refine W.eq (g2 := F0 m 4 ls []) rfl ?_
  refine lv_lload_n hx hb d_Hb_undo_4 rfl (lv_at hl 2 rfl) ?_
  refine lv_lconst (v := 0) hx hb d_Hb_undo_5 (by decide) ?_
  refine hb_lc_ge (tgt := 20) hx hb d_Hb_undo_6 d_Hb_undo_7 (by decide) (fun c6 => ?_) (fun c6 => ?_)
  · skip
    have c6n := hb_ngt c6
    refine lv_aload_n hx hb d_Hb_undo_20 rfl (lv_at hl 0 rfl) ?_
    refine lv_iload_n hx hb d_Hb_undo_21 rfl (lv_at hl 1 rfl) ?_
    refine hb_callV (rest := []) hX hts hb_gd Y_Hb_find (c_Hb_find_no hE M x la lp nb ra rp ho pa tm Ac Py h hk k hno) ml_Hb_79 im_Hb_find se_Hb_find hK fx hC_Hb.1 hz hP hD hS hA rfl hl.1 rfl (Nat.le_of_ble_eq_true rfl) ⟨Nat.le_of_ble_eq_true rfl, Nat.le_of_ble_eq_true rfl⟩ ⟨Nat.le_of_ble_eq_true rfl, Nat.le_of_ble_eq_true rfl⟩ d_Hb_undo_22 (fun v9 M7 H locs hq8 hP hD hS _ hkp => ?_)
    obtain ⟨ev10, eM11⟩ := hq8
    subst ev10
    rw [eM11] at hP hD
    refine W.eq (g2 := F0 m 25 ls [.null]) rfl ?_
    refine lv_astoreN (lv' := [(5, .null), (0, .ref x), (1, .int k), (2, .long le), (4, .int to)]) hx hb d_Hb_undo_25 hl (by decide) rfl (fun ls hl => ?_)
    refine lv_aloadN hx hb d_Hb_undo_27 (lv_at hl 0 rfl) ?_
    refine lv_ifnonnullN hx hb d_Hb_undo_29 ?_
    refine lv_iload hx hb d_Hb_undo_32 (lv_at hl 4 rfl) ?_
    refine lv_if_eq (tgt := 65) hx hb d_Hb_undo_34 (by decide) (fun c12 => ?_) (fun c12 => ?_)
    · skip
      exact absurd c12 hto
    · skip
      refine lv_aload_n hx hb d_Hb_undo_37 rfl (lv_at hl 1 rfl) ?_
      refine hb_get hx hb hts hown hC_Hb hK hP fx 3 (by decide) rfl fl_Hb_16 rfl d_Hb_undo_38 ?_
      refine hb_callV (rest := []) hX hts hb_gd Y_Al_size (c_py_size hE h) ml_Hb_55 im_Al_size se_Al_size hK flp hC_Al.1 hz hP hD hS hA rfl hl.1 rfl (Nat.le_of_ble_eq_true rfl) ⟨Nat.le_of_ble_eq_true rfl, Nat.le_of_ble_eq_true rfl⟩ ⟨Nat.le_of_ble_eq_true rfl, Nat.le_of_ble_eq_true rfl⟩ d_Hb_undo_41 (fun v15 M13 H locs hq14 hP hD hS _ hkp => ?_)
      obtain ⟨ev16, eM17⟩ := hq14
      subst ev16
      rw [eM17] at hP hD
      refine W.eq (g2 := F0 m 44 ls [.int (nI Py.length)]) rfl ?_
      refine lv_bipush (v := 60) hx hb d_Hb_undo_44 (by decide) ?_
      refine lv_icmp_ge (tgt := 65) hx hb d_Hb_undo_46 (by decide) (fun c18 => ?_) (fun c18 => ?_)
      · skip
        have c18n := hb_ngti c18
        exact absurd c18 (by intro z; have := (nI_leI (a := 60) (by omega) (by omega)).mp z; omega)
      · skip
        have c18n := hb_gti c18
        refine lv_aload_n hx hb d_Hb_undo_49 rfl (lv_at hl 1 rfl) ?_
        refine hb_new (fs := [.int 0, .null, .int 0, .long 0, .long 0, .int 0, .int 0, .int 0, .long 0, .int 0]) hx hb hts hown hC_Pay kl_Hb_97 it_Pay in_Pay hK hP hD hS hA (fun j hj => by rcases (show j = 0 ∨ j = 1 ∨ j = 2 ∨ j = 3 ∨ j = 4 ∨ j = 5 ∨ j = 6 ∨ j = 7 ∨ j = 8 ∨ j = 9 by omega) with rfl | rfl | rfl | rfl | rfl | rfl | rfl | rfl | rfl | rfl <;> rfl) (Nat.le_of_ble_eq_true rfl) (Nat.le_of_ble_eq_true rfl) d_Hb_undo_50 (fun q19 M20 H hq22 ha23 eM21 hP hD hS => ?_)
        have f24 : M20 q19 = some (.inr (1, [.int 0, .null, .int 0, .long 0, .long 0, .int 0, .int 0, .int 0, .long 0, .int 0])) := by rw [eM21]; exact hb_up_self
        have f25 : M20 x = some (.inr (2, [.int ho, .int pa, .ref la, .ref lp, .ref nb, .int tm])) := by rw [eM21, hb_up_ne (fun q9 => by rw [q9, hq22] at fx; cases fx)]; exact fx
        have f26 : M20 la = some (.inr (3, [.ref ra, .int (nI Ac.length), .int mda])) := by rw [eM21, hb_up_ne (fun q9 => by rw [q9, hq22] at fla; cases fla)]; exact fla
        have f27 : M20 lp = some (.inr (3, [.ref rp, .int (nI Py.length), .int mdp])) := by rw [eM21, hb_up_ne (fun q9 => by rw [q9, hq22] at flp; cases flp)]; exact flp
        refine lv_dup hx hb d_Hb_undo_53 rfl ?_
        refine lv_iload_n hx hb d_Hb_undo_54 rfl (lv_at hl 2 rfl) ?_
        refine lv_aload_n hx hb d_Hb_undo_55 rfl (lv_at hl 1 rfl) ?_
        refine hb_get hx hb hts hown hC_Hb hK hP f25 4 (by decide) rfl fl_Hb_24 rfl d_Hb_undo_56 ?_
        refine hb_callI (rest := [.ref q19, .ref x]) hX hts hb_gd Y_Pay_init (c_Pay_init hE M20 q19 nb k f24) ml_Hb_99 im_Pay_init rfl hz hP hD hS hA rfl hl.1 rfl (Nat.le_of_ble_eq_true rfl) ⟨Nat.le_of_ble_eq_true rfl, Nat.le_of_ble_eq_true rfl⟩ ⟨Nat.le_of_ble_eq_true rfl, Nat.le_of_ble_eq_true rfl⟩ d_Hb_undo_59 (fun v30 M28 H locs hq29 hP hD hS _ hkp => ?_)
        obtain ⟨ev33, f31, ho32⟩ := hq29
        subst ev33
        have f34 : M28 x = some (.inr (2, [.int ho, .int pa, .ref la, .ref lp, .ref nb, .int tm])) := ho32.at (hb_n1 (fun q9 => by rw [q9, hq22] at fx; cases fx)) f25
        have f35 : M28 la = some (.inr (3, [.ref ra, .int (nI Ac.length), .int mda])) := ho32.at (hb_n1 (fun q9 => by rw [q9, hq22] at fla; cases fla)) f26
        have f36 : M28 lp = some (.inr (3, [.ref rp, .int (nI Py.length), .int mdp])) := ho32.at (hb_n1 (fun q9 => by rw [q9, hq22] at flp; cases flp)) f27
        refine W.eq (g2 := F0 m 62 ls [.ref q19, .ref x]) rfl ?_
        have m0 := hb_e0 hE hz hD
        have kp0 : hb_kp [] M M28 := fun b e9 _ he => by rw [ho32 b (hb_n1 (fun z => by rw [z, hq22] at he; cases he)), eM21, hb_up_ne (fun z => by rw [z, hq22] at he; cases he)]; exact he
        have h2 := h.more kp0 m0
        refine hb_callV (rest := []) hX hts hb_gd Y_Hb_enter (c_Hb_enter hE M28 x la lp nb ra rp ho pa tm Ac Py h2 hk q19 ((k, -1, 2, 0, 0, 0, -1, 0, 0, -1) : hbY) f31 hl9) ml_Hb_112 im_Hb_enter se_Hb_enter hK f34 hC_Hb.1 hz hP hD hS hA rfl hl.1 rfl (Nat.le_of_ble_eq_true rfl) ⟨Nat.le_of_ble_eq_true rfl, Nat.le_of_ble_eq_true rfl⟩ ⟨Nat.le_of_ble_eq_true rfl, Nat.le_of_ble_eq_true rfl⟩ d_Hb_undo_62 (fun v39 M37 H locs hq38 hP hD hS _ hkp => ?_)
        obtain ⟨ev9, rp9, b1⟩ := hq38
        subst ev9
        refine W.eq (g2 := F0 m 65 ls []) rfl ?_
        refine lv_ldc2 (v := (-6)) hx hb hown (hts _ kc_Hb_120) d_Hb_undo_65 ?_
        exact hb_lret hAe hx hb hr hlocks hP hD hS (Nat.le_of_ble_eq_true rfl) (Nat.le_of_ble_eq_true rfl) (⟨rfl, q19, rp9, b1⟩) d_Hb_undo_68
  · skip
    have c6n := hb_gt c6
    exact absurd (hb_gt c6) hl0
end
