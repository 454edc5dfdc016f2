/-! WHAT HOLDS AT THE LAW'S FIRST STATE s0, and stays -/
def hb_tb2 : List Cond := [.castable "HoldBook$Payment" "java/lang/Object", .castable "HoldBook$Account" "java/lang/Object", .castable "java/lang/IllegalArgumentException" "java/lang/IllegalArgumentException", .castable "java/lang/IllegalStateException" "java/lang/IllegalStateException", .declares ⟨"java/lang/RuntimeException", "<init>", "(Ljava/lang/String;)V"⟩, .declares ⟨"java/lang/Exception", "<init>", "(Ljava/lang/String;)V"⟩, .declares ⟨"java/lang/Throwable", "<init>", "(Ljava/lang/String;)V"⟩]
def hb_str (s0 : State) : Prop := ∀ k tx, Cond.stringRef "HoldBook" k tx ∈ lw_tbl → ∃ q, vk_R "HoldBook" k tx q s0
def hb_E (l : Launch) (s0 : State) (D : va_G) (cI cJ cO : ClassId) (e0 mi : Nat) : Prop :=
  l.stackTraces = false ∧ (∀ w ∈ hb_tbl, w.before #[] s0 = true) ∧ va_K D hb_cl [(cI, .int), (cJ, .long), (cO, .object "java/lang/Object")] s0 ∧
  va_Z "java/util/ArrayList" "DEFAULTCAPACITY_EMPTY_ELEMENTDATA" "[Ljava/lang/Object;" (.ref e0) (fun q => s0.heap.size ≤ q) s0 s0.heap ∧ va_T (.object "java/lang/Object") e0 0 (fun _ => .null) (fun q => s0.heap.size ≤ q) s0 s0.heap ∧
  va_AO "java/lang/Object" s0 ∧ va_Mi "[Ljava/lang/Object;" mi s0 ∧ va_Dc s0 ∧ (∀ w ∈ hb_tb2, va_Nw w s0) ∧
  vx_Zq "java/lang/Throwable" "UNASSIGNED_STACK" "[Ljava/lang/StackTraceElement;" (fun q => s0.heap.size ≤ q) s0 s0.heap ∧ vx_Zq "java/lang/Throwable" "SUPPRESSED_SENTINEL" "Ljava/util/List;" (fun q => s0.heap.size ≤ q) s0 s0.heap ∧
  hb_str s0 ∧ va_Nc "java/lang/IllegalArgumentException" "java/lang/IllegalStateException" s0 ∧ va_Nc "java/lang/IllegalStateException" "java/lang/IllegalArgumentException" s0
section ENV
variable {l : Launch} {s0 s : State} {D : va_G} {cI cJ cO : ClassId} {e0 mi : Nat}
theorem hb_E.ts (hE : hb_E l s0 D cI cJ cO e0 mi) (hG : hb_G s0 s) (args : Array Value) : ∀ w ∈ hb_tbl, w.before args s = true := fun w hw => word_at hG.1 (good_of_word (hb_gd w hw)) (hE.2.1 w hw)
theorem hb_E.kn (hE : hb_E l s0 D cI cJ cO e0 mi) (hG : hb_G s0 s) : va_K D hb_cl [(cI, .int), (cJ, .long), (cO, .object "java/lang/Object")] s := va_K.moved hG.1.alike hE.2.2.1
end ENV
section LCMP
variable {p : Program} {l : Launch} {e : Env} {R : Room} {s : State} {m : MethodId} {args : Array Value} {below : List Frame} {meth : Method} {c : Code} {H : Heap} {locs : List Loc} {cells slots : Nat} {Q : State → Prop} {cc : ByteArray} {pc : Nat} {ls : Array Slot} {rest : List Value}
theorem hb_lc_lt (hx : p.tables.exec = Jvm.exec) (hb : c.code = cc) {x y : Int64} {off : Int} {tgt : Nat} (d1 : decode cc pc = .ok (.lcmp, 1)) (d2 : decode cc (pc + 1) = .ok (.ifCond .lt off, 3)) (ht : ((pc + 1 : Nat) : Int) + off = (tgt : Int)) (kt : x < y → W p l e R s m args below meth c H locs cells slots Q (F0 m tgt ls rest)) (kf : ¬ x < y → W p l e R s m args below meth c H locs cells slots Q (F0 m (pc + 1 + 3) ls rest)) : W p l e R s m args below meth c H locs cells slots Q (F0 m pc ls (.long y :: .long x :: rest)) :=
  W.lcmp hx hb d1 (lv_if_lt hx hb d2 ht (fun h => kt ((lg_cmp_lt x y).mp h)) (fun h => kf (fun h2 => h ((lg_cmp_lt x y).mpr h2))))
theorem hb_lc_ge (hx : p.tables.exec = Jvm.exec) (hb : c.code = cc) {x y : Int64} {off : Int} {tgt : Nat} (d1 : decode cc pc = .ok (.lcmp, 1)) (d2 : decode cc (pc + 1) = .ok (.ifCond .ge off, 3)) (ht : ((pc + 1 : Nat) : Int) + off = (tgt : Int)) (kt : y ≤ x → W p l e R s m args below meth c H locs cells slots Q (F0 m tgt ls rest)) (kf : ¬ y ≤ x → W p l e R s m args below meth c H locs cells slots Q (F0 m (pc + 1 + 3) ls rest)) : W p l e R s m args below meth c H locs cells slots Q (F0 m pc ls (.long y :: .long x :: rest)) :=
  W.lcmp hx hb d1 (lv_if_ge hx hb d2 ht (fun h => kt ((lg_cmp_ge x y).mp h)) (fun h => kf (fun h2 => h ((lg_cmp_ge x y).mpr h2))))
theorem hb_lc_gt (hx : p.tables.exec = Jvm.exec) (hb : c.code = cc) {x y : Int64} {off : Int} {tgt : Nat} (d1 : decode cc pc = .ok (.lcmp, 1)) (d2 : decode cc (pc + 1) = .ok (.ifCond .gt off, 3)) (ht : ((pc + 1 : Nat) : Int) + off = (tgt : Int)) (kt : y < x → W p l e R s m args below meth c H locs cells slots Q (F0 m tgt ls rest)) (kf : ¬ y < x → W p l e R s m args below meth c H locs cells slots Q (F0 m (pc + 1 + 3) ls rest)) : W p l e R s m args below meth c H locs cells slots Q (F0 m pc ls (.long y :: .long x :: rest)) :=
  W.lcmp hx hb d1 (lv_if_gt hx hb d2 ht (fun h => kt ((lg_cmp_gt x y).mp h)) (fun h => kf (fun h2 => h ((lg_cmp_gt x y).mpr h2))))
theorem hb_lc_le (hx : p.tables.exec = Jvm.exec) (hb : c.code = cc) {x y : Int64} {off : Int} {tgt : Nat} (d1 : decode cc pc = .ok (.lcmp, 1)) (d2 : decode cc (pc + 1) = .ok (.ifCond .le off, 3)) (ht : ((pc + 1 : Nat) : Int) + off = (tgt : Int)) (kt : x ≤ y → W p l e R s m args below meth c H locs cells slots Q (F0 m tgt ls rest)) (kf : ¬ x ≤ y → W p l e R s m args below meth c H locs cells slots Q (F0 m (pc + 1 + 3) ls rest)) : W p l e R s m args below meth c H locs cells slots Q (F0 m pc ls (.long y :: .long x :: rest)) :=
  W.lcmp hx hb d1 (lv_if_le hx hb d2 ht (fun h => kt ((lg_cmp_le x y).mp h)) (fun h => kf (fun h2 => h ((lg_cmp_le x y).mpr h2))))
theorem hb_lc_eq (hx : p.tables.exec = Jvm.exec) (hb : c.code = cc) {x y : Int64} {off : Int} {tgt : Nat} (d1 : decode cc pc = .ok (.lcmp, 1)) (d2 : decode cc (pc + 1) = .ok (.ifCond .eq off, 3)) (ht : ((pc + 1 : Nat) : Int) + off = (tgt : Int)) (kt : x = y → W p l e R s m args below meth c H locs cells slots Q (F0 m tgt ls rest)) (kf : ¬ x = y → W p l e R s m args below meth c H locs cells slots Q (F0 m (pc + 1 + 3) ls rest)) : W p l e R s m args below meth c H locs cells slots Q (F0 m pc ls (.long y :: .long x :: rest)) :=
  W.lcmp hx hb d1 (lv_if_eq hx hb d2 ht (fun h => kt ((lg_cmp_eq x y).mp h)) (fun h => kf (fun h2 => h ((lg_cmp_eq x y).mpr h2))))
theorem hb_lc_ne (hx : p.tables.exec = Jvm.exec) (hb : c.code = cc) {x y : Int64} {off : Int} {tgt : Nat} (d1 : decode cc pc = .ok (.lcmp, 1)) (d2 : decode cc (pc + 1) = .ok (.ifCond .ne off, 3)) (ht : ((pc + 1 : Nat) : Int) + off = (tgt : Int)) (kt : ¬ x = y → W p l e R s m args below meth c H locs cells slots Q (F0 m tgt ls rest)) (kf : x = y → W p l e R s m args below meth c H locs cells slots Q (F0 m (pc + 1 + 3) ls rest)) : W p l e R s m args below meth c H locs cells slots Q (F0 m pc ls (.long y :: .long x :: rest)) :=
  W.lcmp hx hb d1 (lv_if_ne hx hb d2 ht (fun h => kt (fun h2 => h ((lg_cmp_eq x y).mpr h2))) (fun h => kf ((lg_cmp_eq x y).mp h)))
end LCMP
/-! maps that agree but at some addresses -/
def hb_off (L : List Nat) (M M1 : hb_M) : Prop := ∀ q, q ∉ L → M1 q = M q
theorem hb_off.rf {L : List Nat} {M : hb_M} : hb_off L M M := fun _ _ => rfl
theorem hb_off.up {L : List Nat} {M M1 M2 : hb_M} {a : Nat} {e : va_E} (h : hb_off L M M1) (ha : a ∈ L) (h2 : M2 = hb_up M1 a e) : hb_off L M M2 := by
  intro q hq
  have hne : q ≠ a := fun z => hq (by rw [z]; exact ha)
  rw [h2, hb_up_ne hne]
  exact h q hq
theorem hb_off.tr {L L1 : List Nat} {M M1 M2 : hb_M} (h : hb_off L M M1) (h1 : hb_off L1 M1 M2) (hs : ∀ q, q ∈ L1 → q ∈ L) : hb_off L M M2 := fun q hq => by
  rw [h1 q (fun z => hq (hs q z))]
  exact h q hq
theorem hb_off.at {L : List Nat} {M M1 : hb_M} {b : Nat} {o : Option va_E} (h : hb_off L M M1) (hb : b ∉ L) (e : M b = o) : M1 b = o := by rw [h b hb]; exact e
theorem hb_n1 {a b : Nat} (h : b ≠ a) : b ∉ [a] := by simp [h]
theorem hb_n2 {a a' b : Nat} (h : b ≠ a) (h' : b ≠ a') : b ∉ [a, a'] := by simp [h, h']
theorem hb_n3 {a a' a'' b : Nat} (h : b ≠ a) (h' : b ≠ a') (h'' : b ≠ a'') : b ∉ [a, a', a''] := by simp [h, h', h'']
theorem hb_gt {x y : Int64} (h : ¬ x ≤ y) : y < x := by
  rw [Int64.lt_iff_toInt_lt]
  rw [Int64.le_iff_toInt_le] at h
  omega
theorem hb_ngt {x y : Int64} (h : x ≤ y) : ¬ y < x := by
  rw [Int64.lt_iff_toInt_lt]
  rw [Int64.le_iff_toInt_le] at h
  omega
theorem hb_gti {x y : Int32} (h : ¬ x ≤ y) : y < x := by
  rw [Int32.lt_iff_toInt_lt]
  rw [Int32.le_iff_toInt_le] at h
  omega
theorem hb_ngti {x y : Int32} (h : x ≤ y) : ¬ y < x := by
  rw [Int32.lt_iff_toInt_lt]
  rw [Int32.le_iff_toInt_le] at h
  omega
