/-! METHODS THAT THROW: hb_Thr says that the method throws an E, with the map as it was -/
def hb_XC (D : va_G) (cl : List vw_C) (sz : Nat) (M : hb_M) (E : String) : String → State → State → Prop := fun E' st t => E' = E ∧ hb_P D cl M t.heap ∧ va_F (hb_A M sz) st t
def hb_Thr (l : Launch) (D : va_G) (cl : List vw_C) (s0 : State) (y : MethodName) (b : ByteArray) (n : Nat) (ret : Option FieldType) (rm : Room) (av : List Value) (M : hb_M) (E : String) : Prop :=
  ∀ sz : Nat, vx_Met l y [.code y b n ret] rm (va_Pc av (hb_Pre D cl s0 sz M)) (fun _ _ _ _ => False) (hb_XC D cl sz M E) rm.cells rm.slots (hb_A M sz)
theorem hb_Thr.of {l : Launch} {D : va_G} {cl : List vw_C} {s0 : State} {y : MethodName} {b : ByteArray} {n : Nat} {ret : Option FieldType} {rm : Room} {av : List Value} {M : hb_M} {E : String}
    (hy : plainName y.cls = true) (hlen : (lg_sl av).length ≤ n)
    (body : ∀ (p : Program) (e : Env) (s : State) (m : MethodId) (below : List Frame) (meth : Method) (c : Code) (A : Nat → Prop), hb_A M s.heap.size = A → hb_Cx p s0 s m meth c y b n ret → hb_Z s0 A → hb_P D cl M s.heap → hb_D A M → (∀ q, s.heap.size ≤ q → A q) → va_S A s.heap s.heap [] → ∀ ls : Array Slot, lv_has ls n (lv_args 0 av) →
      W p l e rm s m av.toArray below meth c s.heap [] 0 0 (vx_MQ below (fun _ _ _ _ => False) (hb_XC D cl s.heap.size M E) av.toArray s rm.cells rm.slots A) (F0 m 0 ls [])) : hb_Thr l D cl s0 y b n ret rm av M E := by
  intro sz
  refine vx_ofW (cc := b) (maxL := n) (ret := ret) hy rfl ?_
  intro p e s m args below meth c s₁ B hml hte hv
  obtain ⟨rfl, hsz, hP, hD, hG⟩ := hv
  subst hsz
  have hl := lv_entry av hlen
  rw [lg_entry_eq]
  exact body p e s m below meth c _ rfl ⟨B.exec, B.bytes, B.returns, hml, findClass_of_methodNamed B.named, B.notSynchronized, (name_of_methodNamed B.named B.method).1, hG, by
    rw [Array.isEmpty_iff]
    apply Array.ext'
    exact List.eq_nil_iff_forall_not_mem.mpr hte⟩ (hb_A.z hD hG.2.1) hP (fun a x ha => Or.inl (by rw [ha]; simp)) (fun q hq => Or.inr hq) va_S.rf _ hl
section HBX
variable {p : Program} {l : Launch} {e : Env} {R : Room} {s0 s : State} {m : MethodId} {args : Array Value} {below : List Frame} {meth : Method} {c : Code} {H : Heap} {locs : List Loc} {cells slots : Nat}
variable {pc : Nat} {ls : Array Slot} {st0 rest : List Value} {D : va_G} {cl : List vw_C} {A : Nat → Prop} {M : hb_M} {Ts : List Cond} {tys : List (ClassId × FieldType)} {E : String}
variable {yo y : MethodName} {bo b : ByteArray} {no n k index : Nat} {ro ret : Option FieldType} {rm : Room} {As : List Value} {mc ms : Nat}
theorem hb_noh (h : c.exceptionTable.isEmpty = true) (pc : Nat) : ∀ x ∈ c.exceptionTable.toList, covers x pc = false := by
  intro x hx
  rw [Array.isEmpty_iff.mp h] at hx
  cases hx
/-- the callee throws, and so does the caller -/
theorem hb_outX {g0 : List Value} (hAe : hb_A M s.heap.size = A) (hX : hb_Cx p s0 s m meth c yo bo no ro) (hr : vx_Run p l e R s m args below meth c H locs cells slots rm.cells rm.slots (F0 m pc ls st0) rest (fun _ _ _ => False) (hb_XC D cl H.size M E) (hb_A M H.size)) (hD : hb_D A M) (hS : va_S A s.heap H locs) (hA : ∀ q, s.heap.size ≤ q → A q) (hc : cells + rm.cells ≤ mc) (hs : slots + rm.slots ≤ ms) :
    W p l e R s m args below meth c H locs cells slots (vx_MQ below (fun _ _ _ _ => False) (hb_XC D cl s.heap.size M E) args s mc ms A) (F0 m pc ls st0) := by
  have hsub : ∀ q, hb_A M H.size q → A q := by
    intro q hq
    rcases hq with hq | hq
    · cases hx : M q with
      | none => exact absurd hx hq
      | some x => exact hD q x hx
    · exact hA q (Nat.le_trans hS.1 hq)
  intro T hT X
  rcases hr T hT X with ⟨v, st₀, t, T', L, h0, X', hL, e1, e2, hf, st⟩ | ⟨q, st₀, t, T', L, E', ce, h0, X', hL, e1, e2, hxc, hce, hcv, hcl, st⟩
  · exact hf.elim
  · obtain ⟨rfl, hP1, hF⟩ := hxc
    obtain ⟨k1, k2, k3⟩ := vx_keep h0 e1 hS (fun q _ h => hsub q h) hsub hL hF
    have out := vx_out (p := p) (l := l) (e := e) (R := R) (s := s) (m := m) (args := args) (below := below) (meth := meth) (c := c) (H := T'.heap) (locs := locs ++ L) (cells := cells + rm.cells) (slots := slots + rm.slots) (Qc := fun _ _ _ _ => False) (XC := hb_XC D cl s.heap.size M E') (free := A) (ls := ls) (rest := rest) (pc := pc) (mc := mc) (ms := ms) (hb_noh hX.2.2.2.2.2.2.2.2 pc) hX.2.2.2.2.2.1 (by rw [e1]; exact hce) hcv hcl (fun t' ht' _ => ⟨rfl, by rw [ht', e1]; exact hP1, by rw [hAe]; exact k3.F ht'⟩) k3.2.2 hc hs
    obtain ⟨t2, a1, b1⟩ := out T' rfl X'
    exact ⟨t2, st.trans a1, b1⟩
theorem hb_thrS (hAe : hb_A M s.heap.size = A) (hX : hb_Cx p s0 s m meth c yo bo no ro) (hts : ∀ w ∈ Ts, w.before args s = true) (hgd : ∀ w ∈ Ts, goodWord w = true) (hY : hb_Y Ts y b n ret k) (hM : hb_Thr l D cl s0 y b n ret rm As M E) (hlink : Cond.methodLink yo.cls index y ∈ Ts) (hst : Cond.static y ∈ Ts)
    (hz : hb_Z s0 A) (hP : hb_P D cl M H) (hD : hb_D A M) (hS : va_S A s.heap H locs) (hA : ∀ q, s.heap.size ≤ q → A q) (hn : As.length = k) (hsz : ls.size = no) (hstack : st0 = As.reverse ++ rest) (hW : (rest.map fun v => v.category).sum ≤ 8) (hR : rm.frames + 1 ≤ R.frames ∧ 8 + (n + 11) + rm.locals ≤ R.locals) (hf : cells + rm.cells ≤ R.cells ∧ slots + rm.slots ≤ R.slots) (hdg : decode bo pc = .ok (.invokestatic index, 3)) (hc : cells + rm.cells ≤ mc) (hs : slots + rm.slots ≤ ms) :
    W p l e R s m args below meth c H locs cells slots (vx_MQ below (fun _ _ _ _ => False) (hb_XC D cl s.heap.size M E) args s mc ms A) (F0 m pc ls st0) := by
  obtain ⟨hx, hb, -, hml, hown, -, -, hG, -⟩ := id hX
  exact hb_outX (g0 := []) hAe hX (vx_runS (Ts := Ts) (own := yo.cls) ⟨hx, hb, hml, hown, hts⟩ (hM H.size) ⟨hb_cb hts hgd hY hlink hR, hts _ hst⟩ (hb_PreS hG hz hP hD hS) rfl hn hsz hstack (lv_room hW) hdg hf) hD hS hA hc hs
theorem hb_thrV {a ci N : Nat} {C : String} {Tt : u_T} {fs : List Value} (hAe : hb_A M s.heap.size = A) (hX : hb_Cx p s0 s m meth c yo bo no ro) (hts : ∀ w ∈ Ts, w.before args s = true) (hgd : ∀ w ∈ Ts, goodWord w = true) (hY : hb_Y Ts y b n ret k) (hM : hb_Thr l D cl s0 y b n ret rm (.ref a :: As) M E) (hlink : Cond.methodLink yo.cls index y ∈ Ts) (hin : Cond.instanceMethod y ∈ Ts) (hsel : Cond.selects C y y ∈ Ts) (hK : va_K D cl tys s) (he : M a = some (.inr (ci, fs))) (hc0 : cl[ci]? = some (C, Tt, N))
    (hz : hb_Z s0 A) (hP : hb_P D cl M H) (hD : hb_D A M) (hS : va_S A s.heap H locs) (hA : ∀ q, s.heap.size ≤ q → A q) (hn : As.length = k) (hsz : ls.size = no) (hstack : st0 = As.reverse ++ .ref a :: rest) (hW : (rest.map fun v => v.category).sum ≤ 8) (hR : rm.frames + 1 ≤ R.frames ∧ 8 + (n + 11) + rm.locals ≤ R.locals) (hf : cells + rm.cells ≤ R.cells ∧ slots + rm.slots ≤ R.slots) (hdg : decode bo pc = .ok (.invokevirtual index, 3)) (hc : cells + rm.cells ≤ mc) (hs : slots + rm.slots ≤ ms) :
    W p l e R s m args below meth c H locs cells slots (vx_MQ below (fun _ _ _ _ => False) (hb_XC D cl s.heap.size M E) args s mc ms A) (F0 m pc ls st0) := by
  obtain ⟨hx, hb, -, hml, hown, -, -, hG, -⟩ := id hX
  have hp := hb_PreS (As := .ref a :: As) hG hz hP hD hS
  exact hb_outX (g0 := []) hAe hX (vx_runV (Ts := Ts) (own := yo.cls) (C := C) ⟨hx, hb, hml, hown, hts⟩ (hM H.size) ⟨hb_cb hts hgd hY hlink hR, hts _ hin, hts _ hsel⟩ ⟨hp.1, va_recv hK (hP.one he) hc0 (q0 := 0) rfl, hp.2⟩ rfl hn hsz hstack (lv_room hW) hdg hf) hD hS hA hc hs
end HBX
theorem hb_iaeS : ∀ w ∈ (vx_atS "HoldBook" 50 "java/lang/IllegalArgumentException" ["java/lang/RuntimeException", "java/lang/Exception"]).filter goodWord, w ∈ lw_tbl := by decide +kernel
theorem hb_iseS : ∀ w ∈ (vx_atS "HoldBook" 63 "java/lang/IllegalStateException" ["java/lang/RuntimeException", "java/lang/Exception"]).filter goodWord, w ∈ lw_tbl := by decide +kernel
theorem hb_iae2 : ∀ w ∈ (vx_atS "HoldBook" 50 "java/lang/IllegalArgumentException" ["java/lang/RuntimeException", "java/lang/Exception"]).filter (fun w => !goodWord w), w ∈ hb_tb2 := by decide +kernel
theorem hb_ise2 : ∀ w ∈ (vx_atS "HoldBook" 63 "java/lang/IllegalStateException" ["java/lang/RuntimeException", "java/lang/Exception"]).filter (fun w => !goodWord w), w ∈ hb_tb2 := by decide +kernel
section HBTH
variable {p : Program} {l : Launch} {e : Env} {R : Room} {s0 s : State} {m : MethodId} {args : Array Value} {below : List Frame} {meth : Method} {c : Code} {H : Heap} {locs : List Loc} {cells slots : Nat}
variable {pc : Nat} {ls : Array Slot} {rest : List Value} {D : va_G} {A : Nat → Prop} {M : hb_M} {cI cJ cO : ClassId} {e0 mi : Nat} {yo : MethodName} {bo : ByteArray} {no : Nat} {ro : Option FieldType} {mc ms : Nat}
theorem hb_E.t2 (hE : hb_E l s0 D cI cJ cO e0 mi) (hG : hb_G s0 s) : ∀ w ∈ hb_tb2, w.before args s = true := by
  intro w hw
  have h := hE.nw w hw
  simp only [hb_tb2, List.mem_cons, List.not_mem_nil, or_false] at hw
  rcases hw with rfl | rfl | rfl | rfl | rfl | rfl | rfl
  · exact va_Nw.use rfl (va_Nw.warmC hG.1 h)
  · exact va_Nw.use rfl (va_Nw.warmC hG.1 h)
  · exact va_Nw.use rfl (va_Nw.warmC hG.1 h)
  · exact va_Nw.use rfl (va_Nw.warmC hG.1 h)
  · exact va_Nw.use rfl (va_Nw.warmD hG.1 h)
  · exact va_Nw.use rfl (va_Nw.warmD hG.1 h)
  · exact va_Nw.use rfl (va_Nw.warmD hG.1 h)
theorem hb_E.un (hE : hb_E l s0 D cI cJ cO e0 mi) (hG : hb_G s0 s) (hz : hb_Z s0 A) : vx_Zq "java/lang/Throwable" "UNASSIGNED_STACK" "[Ljava/lang/StackTraceElement;" A s s.heap := (((hE.2.2.2.2.2.2.2.2.2.1).moved hG.1.alike).kept (fun a h _ => hG.2.2 a h)).narrow hz
theorem hb_E.su (hE : hb_E l s0 D cI cJ cO e0 mi) (hG : hb_G s0 s) (hz : hb_Z s0 A) : vx_Zq "java/lang/Throwable" "SUPPRESSED_SENTINEL" "Ljava/util/List;" A s s.heap := (((hE.2.2.2.2.2.2.2.2.2.2.1).moved hG.1.alike).kept (fun a h _ => hG.2.2 a h)).narrow hz
theorem hb_E.st (hE : hb_E l s0 D cI cJ cO e0 mi) (hG : hb_G s0 s) {k : Nat} {tx : String} (h : Cond.stringRef "HoldBook" k tx ∈ lw_tbl) : ∃ q, vk_R "HoldBook" k tx q s := by
  obtain ⟨q, hq⟩ := hE.2.2.2.2.2.2.2.2.2.2.2.1 k tx h
  exact ⟨q, vk_R.warm hG.1 hq⟩
end HBTH
