/-! THE LAW'S HELPERS -/
theorem d_Law_account_0 : decode b_Law_account 0 = .ok (.aload 5, 2) := by decide +kernel
theorem d_Law_account_2 : decode b_Law_account 2 = .ok (.iconst 0, 1) := by decide +kernel
theorem d_Law_account_3 : decode b_Law_account 3 = .ok (.aload_n 0, 1) := by decide +kernel
theorem d_Law_account_4 : decode b_Law_account 4 = .ok (.lload_n 1, 1) := by decide +kernel
theorem d_Law_account_5 : decode b_Law_account 5 = .ok (.lload_n 3, 1) := by decide +kernel
theorem d_Law_account_6 : decode b_Law_account 6 = .ok (.invokevirtual 7, 3) := by decide +kernel
theorem d_Law_account_9 : decode b_Law_account 9 = .ok (.i2l, 1) := by decide +kernel
theorem d_Law_account_10 : decode b_Law_account 10 = .ok (.lastore, 1) := by decide +kernel
theorem d_Law_account_11 : decode b_Law_account 11 = .ok (.goto 11, 3) := by decide +kernel
theorem d_Law_account_14 : decode b_Law_account 14 = .ok (.astore 6, 2) := by decide +kernel
theorem d_Law_account_16 : decode b_Law_account 16 = .ok (.iconst 1, 1) := by decide +kernel
theorem d_Law_account_17 : decode b_Law_account 17 = .ok (.ireturn, 1) := by decide +kernel
theorem d_Law_account_18 : decode b_Law_account 18 = .ok (.astore 6, 2) := by decide +kernel
theorem d_Law_account_20 : decode b_Law_account 20 = .ok (.iconst 2, 1) := by decide +kernel
theorem d_Law_account_21 : decode b_Law_account 21 = .ok (.ireturn, 1) := by decide +kernel
theorem d_Law_account_22 : decode b_Law_account 22 = .ok (.iconst 0, 1) := by decide +kernel
theorem d_Law_account_23 : decode b_Law_account 23 = .ok (.ireturn, 1) := by decide +kernel
theorem d_Law_ask_0 : decode b_Law_ask 0 = .ok (.aload 6, 2) := by decide +kernel
theorem d_Law_ask_2 : decode b_Law_ask 2 = .ok (.iconst 0, 1) := by decide +kernel
theorem d_Law_ask_3 : decode b_Law_ask 3 = .ok (.aload_n 0, 1) := by decide +kernel
theorem d_Law_ask_4 : decode b_Law_ask 4 = .ok (.iload_n 1, 1) := by decide +kernel
theorem d_Law_ask_5 : decode b_Law_ask 5 = .ok (.iload_n 2, 1) := by decide +kernel
theorem d_Law_ask_6 : decode b_Law_ask 6 = .ok (.lload_n 3, 1) := by decide +kernel
theorem d_Law_ask_7 : decode b_Law_ask 7 = .ok (.iload 5, 2) := by decide +kernel
theorem d_Law_ask_9 : decode b_Law_ask 9 = .ok (.invokevirtual 17, 3) := by decide +kernel
theorem d_Law_ask_12 : decode b_Law_ask 12 = .ok (.lastore, 1) := by decide +kernel
theorem d_Law_ask_13 : decode b_Law_ask 13 = .ok (.goto 7, 3) := by decide +kernel
theorem d_Law_ask_16 : decode b_Law_ask 16 = .ok (.astore 7, 2) := by decide +kernel
theorem d_Law_ask_18 : decode b_Law_ask 18 = .ok (.iconst 1, 1) := by decide +kernel
theorem d_Law_ask_19 : decode b_Law_ask 19 = .ok (.ireturn, 1) := by decide +kernel
theorem d_Law_ask_20 : decode b_Law_ask 20 = .ok (.iconst 0, 1) := by decide +kernel
theorem d_Law_ask_21 : decode b_Law_ask 21 = .ok (.ireturn, 1) := by decide +kernel
theorem d_Law_clear_0 : decode b_Law_clear 0 = .ok (.aload 5, 2) := by decide +kernel
theorem d_Law_clear_2 : decode b_Law_clear 2 = .ok (.iconst 0, 1) := by decide +kernel
theorem d_Law_clear_3 : decode b_Law_clear 3 = .ok (.aload_n 0, 1) := by decide +kernel
theorem d_Law_clear_4 : decode b_Law_clear 4 = .ok (.iload_n 1, 1) := by decide +kernel
theorem d_Law_clear_5 : decode b_Law_clear 5 = .ok (.lload_n 2, 1) := by decide +kernel
theorem d_Law_clear_6 : decode b_Law_clear 6 = .ok (.iload 4, 2) := by decide +kernel
theorem d_Law_clear_8 : decode b_Law_clear 8 = .ok (.invokevirtual 21, 3) := by decide +kernel
theorem d_Law_clear_11 : decode b_Law_clear 11 = .ok (.lastore, 1) := by decide +kernel
theorem d_Law_clear_12 : decode b_Law_clear 12 = .ok (.goto 7, 3) := by decide +kernel
theorem d_Law_clear_15 : decode b_Law_clear 15 = .ok (.astore 6, 2) := by decide +kernel
theorem d_Law_clear_17 : decode b_Law_clear 17 = .ok (.iconst 1, 1) := by decide +kernel
theorem d_Law_clear_18 : decode b_Law_clear 18 = .ok (.ireturn, 1) := by decide +kernel
theorem d_Law_clear_19 : decode b_Law_clear 19 = .ok (.iconst 0, 1) := by decide +kernel
theorem d_Law_clear_20 : decode b_Law_clear 20 = .ok (.ireturn, 1) := by decide +kernel
theorem d_Law_undo_0 : decode b_Law_undo 0 = .ok (.aload 5, 2) := by decide +kernel
theorem d_Law_undo_2 : decode b_Law_undo 2 = .ok (.iconst 0, 1) := by decide +kernel
theorem d_Law_undo_3 : decode b_Law_undo 3 = .ok (.aload_n 0, 1) := by decide +kernel
theorem d_Law_undo_4 : decode b_Law_undo 4 = .ok (.iload_n 1, 1) := by decide +kernel
theorem d_Law_undo_5 : decode b_Law_undo 5 = .ok (.lload_n 2, 1) := by decide +kernel
theorem d_Law_undo_6 : decode b_Law_undo 6 = .ok (.iload 4, 2) := by decide +kernel
theorem d_Law_undo_8 : decode b_Law_undo 8 = .ok (.invokevirtual 25, 3) := by decide +kernel
theorem d_Law_undo_11 : decode b_Law_undo 11 = .ok (.lastore, 1) := by decide +kernel
theorem d_Law_undo_12 : decode b_Law_undo 12 = .ok (.goto 7, 3) := by decide +kernel
theorem d_Law_undo_15 : decode b_Law_undo 15 = .ok (.astore 6, 2) := by decide +kernel
theorem d_Law_undo_17 : decode b_Law_undo 17 = .ok (.iconst 1, 1) := by decide +kernel
theorem d_Law_undo_18 : decode b_Law_undo 18 = .ok (.ireturn, 1) := by decide +kernel
theorem d_Law_undo_19 : decode b_Law_undo 19 = .ok (.iconst 0, 1) := by decide +kernel
theorem d_Law_undo_20 : decode b_Law_undo 20 = .ok (.ireturn, 1) := by decide +kernel
theorem d_Law_ticks_0 : decode b_Law_ticks 0 = .ok (.aload_n 2, 1) := by decide +kernel
theorem d_Law_ticks_1 : decode b_Law_ticks 1 = .ok (.iconst 0, 1) := by decide +kernel
theorem d_Law_ticks_2 : decode b_Law_ticks 2 = .ok (.aload_n 0, 1) := by decide +kernel
theorem d_Law_ticks_3 : decode b_Law_ticks 3 = .ok (.iload_n 1, 1) := by decide +kernel
theorem d_Law_ticks_4 : decode b_Law_ticks 4 = .ok (.invokevirtual 28, 3) := by decide +kernel
theorem d_Law_ticks_7 : decode b_Law_ticks 7 = .ok (.i2l, 1) := by decide +kernel
theorem d_Law_ticks_8 : decode b_Law_ticks 8 = .ok (.lastore, 1) := by decide +kernel
theorem d_Law_ticks_9 : decode b_Law_ticks 9 = .ok (.goto 9, 3) := by decide +kernel
theorem d_Law_ticks_12 : decode b_Law_ticks 12 = .ok (.astore_n 3, 1) := by decide +kernel
theorem d_Law_ticks_13 : decode b_Law_ticks 13 = .ok (.iconst 1, 1) := by decide +kernel
theorem d_Law_ticks_14 : decode b_Law_ticks 14 = .ok (.ireturn, 1) := by decide +kernel
theorem d_Law_ticks_15 : decode b_Law_ticks 15 = .ok (.astore_n 3, 1) := by decide +kernel
theorem d_Law_ticks_16 : decode b_Law_ticks 16 = .ok (.iconst 2, 1) := by decide +kernel
theorem d_Law_ticks_17 : decode b_Law_ticks 17 = .ok (.ireturn, 1) := by decide +kernel
theorem d_Law_ticks_18 : decode b_Law_ticks 18 = .ok (.iconst 0, 1) := by decide +kernel
theorem d_Law_ticks_19 : decode b_Law_ticks 19 = .ok (.ireturn, 1) := by decide +kernel
theorem d_Law_charge_0 : decode b_Law_charge 0 = .ok (.aload 4, 2) := by decide +kernel
theorem d_Law_charge_2 : decode b_Law_charge 2 = .ok (.iconst 0, 1) := by decide +kernel
theorem d_Law_charge_3 : decode b_Law_charge 3 = .ok (.aload_n 0, 1) := by decide +kernel
theorem d_Law_charge_4 : decode b_Law_charge 4 = .ok (.iload_n 1, 1) := by decide +kernel
theorem d_Law_charge_5 : decode b_Law_charge 5 = .ok (.lload_n 2, 1) := by decide +kernel
theorem d_Law_charge_6 : decode b_Law_charge 6 = .ok (.invokevirtual 32, 3) := by decide +kernel
theorem d_Law_charge_9 : decode b_Law_charge 9 = .ok (.i2l, 1) := by decide +kernel
theorem d_Law_charge_10 : decode b_Law_charge 10 = .ok (.lastore, 1) := by decide +kernel
theorem d_Law_charge_11 : decode b_Law_charge 11 = .ok (.goto 7, 3) := by decide +kernel
theorem d_Law_charge_14 : decode b_Law_charge 14 = .ok (.astore 5, 2) := by decide +kernel
theorem d_Law_charge_16 : decode b_Law_charge 16 = .ok (.iconst 1, 1) := by decide +kernel
theorem d_Law_charge_17 : decode b_Law_charge 17 = .ok (.ireturn, 1) := by decide +kernel
theorem d_Law_charge_18 : decode b_Law_charge 18 = .ok (.iconst 0, 1) := by decide +kernel
theorem d_Law_charge_19 : decode b_Law_charge 19 = .ok (.ireturn, 1) := by decide +kernel
theorem d_Law_represent_0 : decode b_Law_represent 0 = .ok (.aload_n 2, 1) := by decide +kernel
theorem d_Law_represent_1 : decode b_Law_represent 1 = .ok (.iconst 0, 1) := by decide +kernel
theorem d_Law_represent_2 : decode b_Law_represent 2 = .ok (.aload_n 0, 1) := by decide +kernel
theorem d_Law_represent_3 : decode b_Law_represent 3 = .ok (.iload_n 1, 1) := by decide +kernel
theorem d_Law_represent_4 : decode b_Law_represent 4 = .ok (.invokevirtual 36, 3) := by decide +kernel
theorem d_Law_represent_7 : decode b_Law_represent 7 = .ok (.i2l, 1) := by decide +kernel
theorem d_Law_represent_8 : decode b_Law_represent 8 = .ok (.lastore, 1) := by decide +kernel
theorem d_Law_represent_9 : decode b_Law_represent 9 = .ok (.goto 6, 3) := by decide +kernel
theorem d_Law_represent_12 : decode b_Law_represent 12 = .ok (.astore_n 3, 1) := by decide +kernel
theorem d_Law_represent_13 : decode b_Law_represent 13 = .ok (.iconst 1, 1) := by decide +kernel
theorem d_Law_represent_14 : decode b_Law_represent 14 = .ok (.ireturn, 1) := by decide +kernel
theorem d_Law_represent_15 : decode b_Law_represent 15 = .ok (.iconst 0, 1) := by decide +kernel
theorem d_Law_represent_16 : decode b_Law_represent 16 = .ok (.ireturn, 1) := by decide +kernel
theorem d_Law_decide_0 : decode b_Law_decide 0 = .ok (.aload_n 3, 1) := by decide +kernel
theorem d_Law_decide_1 : decode b_Law_decide 1 = .ok (.iconst 0, 1) := by decide +kernel
theorem d_Law_decide_2 : decode b_Law_decide 2 = .ok (.aload_n 0, 1) := by decide +kernel
theorem d_Law_decide_3 : decode b_Law_decide 3 = .ok (.iload_n 1, 1) := by decide +kernel
theorem d_Law_decide_4 : decode b_Law_decide 4 = .ok (.iload_n 2, 1) := by decide +kernel
theorem d_Law_decide_5 : decode b_Law_decide 5 = .ok (.invokevirtual 39, 3) := by decide +kernel
theorem d_Law_decide_8 : decode b_Law_decide 8 = .ok (.i2l, 1) := by decide +kernel
theorem d_Law_decide_9 : decode b_Law_decide 9 = .ok (.lastore, 1) := by decide +kernel
theorem d_Law_decide_10 : decode b_Law_decide 10 = .ok (.goto 7, 3) := by decide +kernel
theorem d_Law_decide_13 : decode b_Law_decide 13 = .ok (.astore 4, 2) := by decide +kernel
theorem d_Law_decide_15 : decode b_Law_decide 15 = .ok (.iconst 1, 1) := by decide +kernel
theorem d_Law_decide_16 : decode b_Law_decide 16 = .ok (.ireturn, 1) := by decide +kernel
theorem d_Law_decide_17 : decode b_Law_decide 17 = .ok (.iconst 0, 1) := by decide +kernel
theorem d_Law_decide_18 : decode b_Law_decide 18 = .ok (.ireturn, 1) := by decide +kernel
theorem d_Law_funds_0 : decode b_Law_funds 0 = .ok (.aload_n 3, 1) := by decide +kernel
theorem d_Law_funds_1 : decode b_Law_funds 1 = .ok (.iconst 0, 1) := by decide +kernel
theorem d_Law_funds_2 : decode b_Law_funds 2 = .ok (.aload_n 0, 1) := by decide +kernel
theorem d_Law_funds_3 : decode b_Law_funds 3 = .ok (.iload_n 1, 1) := by decide +kernel
theorem d_Law_funds_4 : decode b_Law_funds 4 = .ok (.iload_n 2, 1) := by decide +kernel
theorem d_Law_funds_5 : decode b_Law_funds 5 = .ok (.invokevirtual 43, 3) := by decide +kernel
theorem d_Law_funds_8 : decode b_Law_funds 8 = .ok (.lastore, 1) := by decide +kernel
theorem d_Law_funds_9 : decode b_Law_funds 9 = .ok (.goto 7, 3) := by decide +kernel
theorem d_Law_funds_12 : decode b_Law_funds 12 = .ok (.astore 4, 2) := by decide +kernel
theorem d_Law_funds_14 : decode b_Law_funds 14 = .ok (.iconst 1, 1) := by decide +kernel
theorem d_Law_funds_15 : decode b_Law_funds 15 = .ok (.ireturn, 1) := by decide +kernel
theorem d_Law_funds_16 : decode b_Law_funds 16 = .ok (.iconst 0, 1) := by decide +kernel
theorem d_Law_funds_17 : decode b_Law_funds 17 = .ok (.ireturn, 1) := by decide +kernel
theorem d_Law_payment_0 : decode b_Law_payment 0 = .ok (.aload_n 3, 1) := by decide +kernel
theorem d_Law_payment_1 : decode b_Law_payment 1 = .ok (.iconst 0, 1) := by decide +kernel
theorem d_Law_payment_2 : decode b_Law_payment 2 = .ok (.aload_n 0, 1) := by decide +kernel
theorem d_Law_payment_3 : decode b_Law_payment 3 = .ok (.iload_n 1, 1) := by decide +kernel
theorem d_Law_payment_4 : decode b_Law_payment 4 = .ok (.iload_n 2, 1) := by decide +kernel
theorem d_Law_payment_5 : decode b_Law_payment 5 = .ok (.invokevirtual 47, 3) := by decide +kernel
theorem d_Law_payment_8 : decode b_Law_payment 8 = .ok (.lastore, 1) := by decide +kernel
theorem d_Law_payment_9 : decode b_Law_payment 9 = .ok (.goto 7, 3) := by decide +kernel
theorem d_Law_payment_12 : decode b_Law_payment 12 = .ok (.astore 4, 2) := by decide +kernel
theorem d_Law_payment_14 : decode b_Law_payment 14 = .ok (.iconst 1, 1) := by decide +kernel
theorem d_Law_payment_15 : decode b_Law_payment 15 = .ok (.ireturn, 1) := by decide +kernel
theorem d_Law_payment_16 : decode b_Law_payment 16 = .ok (.iconst 0, 1) := by decide +kernel
theorem d_Law_payment_17 : decode b_Law_payment 17 = .ok (.ireturn, 1) := by decide +kernel
theorem d_Law_key_0 : decode b_Law_key 0 = .ok (.aload_n 2, 1) := by decide +kernel
theorem d_Law_key_1 : decode b_Law_key 1 = .ok (.iconst 0, 1) := by decide +kernel
theorem d_Law_key_2 : decode b_Law_key 2 = .ok (.aload_n 0, 1) := by decide +kernel
theorem d_Law_key_3 : decode b_Law_key 3 = .ok (.iload_n 1, 1) := by decide +kernel
theorem d_Law_key_4 : decode b_Law_key 4 = .ok (.invokevirtual 50, 3) := by decide +kernel
theorem d_Law_key_7 : decode b_Law_key 7 = .ok (.i2l, 1) := by decide +kernel
theorem d_Law_key_8 : decode b_Law_key 8 = .ok (.lastore, 1) := by decide +kernel
theorem d_Law_key_9 : decode b_Law_key 9 = .ok (.goto 6, 3) := by decide +kernel
theorem d_Law_key_12 : decode b_Law_key 12 = .ok (.astore_n 3, 1) := by decide +kernel
theorem d_Law_key_13 : decode b_Law_key 13 = .ok (.iconst 1, 1) := by decide +kernel
theorem d_Law_key_14 : decode b_Law_key 14 = .ok (.ireturn, 1) := by decide +kernel
theorem d_Law_key_15 : decode b_Law_key 15 = .ok (.iconst 0, 1) := by decide +kernel
theorem d_Law_key_16 : decode b_Law_key 16 = .ok (.ireturn, 1) := by decide +kernel
theorem d_Law_cell_0 : decode b_Law_cell 0 = .ok (.iload_n 1, 1) := by decide +kernel
theorem d_Law_cell_1 : decode b_Law_cell 1 = .ok (.aload_n 0, 1) := by decide +kernel
theorem d_Law_cell_2 : decode b_Law_cell 2 = .ok (.arraylength, 1) := by decide +kernel
theorem d_Law_cell_3 : decode b_Law_cell 3 = .ok (.if_icmp .ge 9, 3) := by decide +kernel
theorem d_Law_cell_6 : decode b_Law_cell 6 = .ok (.aload_n 0, 1) := by decide +kernel
theorem d_Law_cell_7 : decode b_Law_cell 7 = .ok (.iload_n 1, 1) := by decide +kernel
theorem d_Law_cell_8 : decode b_Law_cell 8 = .ok (.iaload, 1) := by decide +kernel
theorem d_Law_cell_9 : decode b_Law_cell 9 = .ok (.goto 4, 3) := by decide +kernel
theorem d_Law_cell_12 : decode b_Law_cell 12 = .ok (.iconst 0, 1) := by decide +kernel
theorem d_Law_cell_13 : decode b_Law_cell 13 = .ok (.ireturn, 1) := by decide +kernel
abbrev hh_account : List (Nat × Nat × Nat × Nat) := [(0, 11, 14, 13), (0, 11, 18, 15)]
theorem YW_account : hb_YW hb_tbl y_Law_account b_Law_account 7 (some .int) hh_account 4 := ⟨cd_Law_account, in_Law, ⟨by decide, by decide⟩, by decide +kernel⟩
abbrev hh_ask : List (Nat × Nat × Nat × Nat) := [(0, 13, 16, 13)]
theorem YW_ask : hb_YW hb_tbl y_Law_ask b_Law_ask 8 (some .int) hh_ask 6 := ⟨cd_Law_ask, in_Law, ⟨by decide, by decide⟩, by decide +kernel⟩
abbrev hh_clear : List (Nat × Nat × Nat × Nat) := [(0, 12, 15, 13)]
theorem YW_clear : hb_YW hb_tbl y_Law_clear b_Law_clear 7 (some .int) hh_clear 5 := ⟨cd_Law_clear, in_Law, ⟨by decide, by decide⟩, by decide +kernel⟩
abbrev hh_undo : List (Nat × Nat × Nat × Nat) := [(0, 12, 15, 13)]
theorem YW_undo : hb_YW hb_tbl y_Law_undo b_Law_undo 7 (some .int) hh_undo 5 := ⟨cd_Law_undo, in_Law, ⟨by decide, by decide⟩, by decide +kernel⟩
abbrev hh_ticks : List (Nat × Nat × Nat × Nat) := [(0, 9, 12, 13), (0, 9, 15, 15)]
theorem YW_ticks : hb_YW hb_tbl y_Law_ticks b_Law_ticks 4 (some .int) hh_ticks 3 := ⟨cd_Law_ticks, in_Law, ⟨by decide, by decide⟩, by decide +kernel⟩
abbrev hh_charge : List (Nat × Nat × Nat × Nat) := [(0, 11, 14, 13)]
theorem YW_charge : hb_YW hb_tbl y_Law_charge b_Law_charge 6 (some .int) hh_charge 4 := ⟨cd_Law_charge, in_Law, ⟨by decide, by decide⟩, by decide +kernel⟩
abbrev hh_represent : List (Nat × Nat × Nat × Nat) := [(0, 9, 12, 13)]
theorem YW_represent : hb_YW hb_tbl y_Law_represent b_Law_represent 4 (some .int) hh_represent 3 := ⟨cd_Law_represent, in_Law, ⟨by decide, by decide⟩, by decide +kernel⟩
abbrev hh_decide : List (Nat × Nat × Nat × Nat) := [(0, 10, 13, 13)]
theorem YW_decide : hb_YW hb_tbl y_Law_decide b_Law_decide 5 (some .int) hh_decide 4 := ⟨cd_Law_decide, in_Law, ⟨by decide, by decide⟩, by decide +kernel⟩
abbrev hh_funds : List (Nat × Nat × Nat × Nat) := [(0, 9, 12, 13)]
theorem YW_funds : hb_YW hb_tbl y_Law_funds b_Law_funds 5 (some .int) hh_funds 4 := ⟨cd_Law_funds, in_Law, ⟨by decide, by decide⟩, by decide +kernel⟩
abbrev hh_payment : List (Nat × Nat × Nat × Nat) := [(0, 9, 12, 13)]
theorem YW_payment : hb_YW hb_tbl y_Law_payment b_Law_payment 5 (some .int) hh_payment 4 := ⟨cd_Law_payment, in_Law, ⟨by decide, by decide⟩, by decide +kernel⟩
abbrev hh_key : List (Nat × Nat × Nat × Nat) := [(0, 9, 12, 13)]
theorem YW_key : hb_YW hb_tbl y_Law_key b_Law_key 4 (some .int) hh_key 3 := ⟨cd_Law_key, in_Law, ⟨by decide, by decide⟩, by decide +kernel⟩
/-- the out array -/
abbrev jE (cJ : ClassId) (g : Nat → Int64) : va_E := .inl (cJ, 1, .inr (.inl g))
/-- what a helper leaves: its answer k, the class's cells with PX, out[0] = z if k is 0 -/
abbrev hb_HP (cJ : ClassId) (o : Nat) (k : Int32) (z : Int64) (PX : hb_M → Prop) : Option Value → hb_M → Prop := fun v M1 => v = some (.int k) ∧ ∃ (Mx : hb_M) (g : Nat → Int64), M1 = hb_jn Mx (hb_one o (jE cJ g)) ∧ Mx o = none ∧ PX Mx ∧ (k = 0 → g 0 = z)
abbrev hb_RH : Room := { frames := 10, cells := 2, slots := 120, locals := 344 }
def hb_rmo (rm : Room) : Prop := rm.frames ≤ 9 ∧ rm.cells ≤ 2 ∧ rm.slots ≤ 120 ∧ rm.locals ≤ 315
theorem hb_E.nc1 {l : Launch} {s0 s : State} {D : va_G} {cI cJ cO : ClassId} {e0 mi : Nat} (hE : hb_E l s0 D cI cJ cO e0 mi) (hG : hb_G s0 s) : va_Nc "java/lang/IllegalArgumentException" "java/lang/IllegalStateException" s := va_Nc.moved hG.1.alike hE.2.2.2.2.2.2.2.2.2.2.2.2.1
theorem hb_E.nc2 {l : Launch} {s0 s : State} {D : va_G} {cI cJ cO : ClassId} {e0 mi : Nat} (hE : hb_E l s0 D cI cJ cO e0 mi) (hG : hb_G s0 s) : va_Nc "java/lang/IllegalStateException" "java/lang/IllegalArgumentException" s := va_Nc.moved hG.1.alike hE.2.2.2.2.2.2.2.2.2.2.2.2.2
set_option maxHeartbeats 4000000 in
theorem h_account_ok {l : Launch} {s0 : State} {D : va_G} {cI cJ cO : ClassId} {e0 mi : Nat} (hE : hb_E l s0 D cI cJ cO e0 mi) (Mx : hb_M) (x o : Nat) (fs : List Value) (g : Nat → Int64) (hx0 : Mx x = some (.inr (2, fs))) (ho : Mx o = none) (p0 : Int64) (p1 : Int64) (PX : hb_M → Prop) (rm : Room) (hrm : hb_rmo rm) (z : Int32) (hM : hb_Met l D hb_cl s0 y_Hb_account b_Hb_account 6 (some .int) rm [.ref x, .long p0, .long p1] Mx (fun v M1 => v = some (.int z) ∧ PX M1)) : hb_MetW l D hb_cl s0 y_Law_account b_Law_account 7 (some .int) hh_account hb_RH [.ref x, .long p0, .long p1, .ref o] (hb_jn Mx (hb_one o (jE cJ g))) (hb_HP cJ o 0 z.toInt64 PX) := by
  refine hb_MetW.of (by decide) (Nat.le_of_ble_eq_true rfl) ?_
  intro p e s m below meth c A hAe hX hz hP hD hA hS ls hl
  obtain ⟨hx, hb, hr, hml, hown, hlocks, hG, htab⟩ := id hX
  obtain ⟨r1, r2, r3, r4⟩ := hrm
  have hown : s.vm.findClass "HoldBookLaw" = some m.cls := hown
  have hts := hE.ts hG ([.ref x, .long p0, .long p1, .ref o] : List Value).toArray
  have hK := hE.kn hG
  have hX2 : hb_Cy p s0 s m c "HoldBookLaw" b_Law_account 7 := ⟨hx, hb, hml, hown, hG⟩
  have hdj : hb_dj Mx (hb_one o (jE cJ g)) := hb_dj_one.mpr ho
  have hl : lv_has ls 7 [(0, .ref x), (1, .long p0), (3, .long p1), (5, .ref o)] := hl
  refine lv_aload hx hb d_Law_account_0 (lv_at hl 3 rfl) ?_
  refine lv_iconst (v := 0) hx hb d_Law_account_2 (by decide) ?_
  refine lv_aload_n hx hb d_Law_account_3 rfl (lv_at hl 0 rfl) ?_
  refine lv_lload_n hx hb d_Law_account_4 rfl (lv_at hl 1 rfl) ?_
  refine lv_lload_n hx hb d_Law_account_5 rfl (lv_at hl 2 rfl) ?_
  refine hb_lcV (rest := [.int 0, .ref o]) hX2 hts hb_gd Y_Hb_account (hM.frame hdj) ml_Law_7 im_Hb_account se_Hb_account hK (hb_jn_l hx0) hC_Hb.1 hz hP hD hS hA rfl hl.1 rfl (Nat.le_of_ble_eq_true rfl) ⟨by show rm.frames + 1 ≤ 10; omega, by show 8 + (6 + 11) + rm.locals ≤ 344; omega⟩ ⟨by show 0 + rm.cells ≤ 2; omega, by show 0 + rm.slots ≤ 120; omega⟩ d_Law_account_6 (fun v M1 H locs hq hP hD hS _ _ => ?_)
  refine W.widen (k := 2) (n := 120) (by omega) (by omega) ?_
  obtain ⟨M2, ⟨ev, hPX⟩, eM, hdj2⟩ := hq
  subst ev
  have ho2 := hb_dj_one.mp hdj2
  have fo : M1 o = some (jE cJ g) := by rw [eM, hb_jn_r ho2]; exact hb_one_at
  refine W.eq (g2 := F0 m 9 ls [.int z, .int 0, .ref o]) rfl ?_
  refine lv_i2l (v := z.toInt64) hx hb d_Law_account_9 rfl ?_
  refine hb_last hx hb hK hP hD hS fo (show vp_in (nI 0) 1 from vp_in_nI (by omega) (by omega)) d_Law_account_10 (fun M3 H locs eM3 hP hD hS => ?_)
  rw [eM, hb_up_jn ho2] at eM3
  refine lv_goto (tgt := 22) hx hb d_Law_account_11 (by decide) ?_
  refine lv_iconst (v := 0) hx hb d_Law_account_22 (by decide) ?_
  exact hb_iret hAe hx hb hr hlocks hP hD hS (Nat.le_of_ble_eq_true rfl) (Nat.le_of_ble_eq_true rfl) (⟨rfl, M2, _, eM3, ho2, hPX, fun _ => rfl⟩) d_Law_account_23
set_option maxHeartbeats 4000000 in
theorem h_account_bad {l : Launch} {s0 : State} {D : va_G} {cI cJ cO : ClassId} {e0 mi : Nat} (hE : hb_E l s0 D cI cJ cO e0 mi) (Mx : hb_M) (x o : Nat) (fs : List Value) (g : Nat → Int64) (hx0 : Mx x = some (.inr (2, fs))) (ho : Mx o = none) (p0 : Int64) (p1 : Int64) (PX : hb_M → Prop) (rm : Room) (hrm : hb_rmo rm) (hT : hb_Thr l D hb_cl s0 y_Hb_account b_Hb_account 6 (some .int) rm [.ref x, .long p0, .long p1] Mx "java/lang/IllegalArgumentException") (hPX : PX Mx) : hb_MetW l D hb_cl s0 y_Law_account b_Law_account 7 (some .int) hh_account hb_RH [.ref x, .long p0, .long p1, .ref o] (hb_jn Mx (hb_one o (jE cJ g))) (hb_HP cJ o 1 0 PX) := by
  refine hb_MetW.of (by decide) (Nat.le_of_ble_eq_true rfl) ?_
  intro p e s m below meth c A hAe hX hz hP hD hA hS ls hl
  obtain ⟨hx, hb, hr, hml, hown, hlocks, hG, htab⟩ := id hX
  obtain ⟨r1, r2, r3, r4⟩ := hrm
  have hown : s.vm.findClass "HoldBookLaw" = some m.cls := hown
  have hts := hE.ts hG ([.ref x, .long p0, .long p1, .ref o] : List Value).toArray
  have hK := hE.kn hG
  have hX2 : hb_Cy p s0 s m c "HoldBookLaw" b_Law_account 7 := ⟨hx, hb, hml, hown, hG⟩
  have hdj : hb_dj Mx (hb_one o (jE cJ g)) := hb_dj_one.mpr ho
  have hl : lv_has ls 7 [(0, .ref x), (1, .long p0), (3, .long p1), (5, .ref o)] := hl
  refine lv_aload hx hb d_Law_account_0 (lv_at hl 3 rfl) ?_
  refine lv_iconst (v := 0) hx hb d_Law_account_2 (by decide) ?_
  refine lv_aload_n hx hb d_Law_account_3 rfl (lv_at hl 0 rfl) ?_
  refine lv_lload_n hx hb d_Law_account_4 rfl (lv_at hl 1 rfl) ?_
  refine lv_lload_n hx hb d_Law_account_5 rfl (lv_at hl 2 rfl) ?_
  refine hb_catV (E := "java/lang/IllegalArgumentException") (name := "java/lang/IllegalArgumentException") (rest := [.int 0, .ref o]) hX2 hts hb_gd Y_Hb_account (hT.frame hdj) ml_Law_7 im_Hb_account se_Hb_account hK (hb_jn_l hx0) hC_Hb.1 hz hP hD hS hA rfl hl.1 rfl (Nat.le_of_ble_eq_true rfl) ⟨by show rm.frames + 1 ≤ 10; omega, by show 8 + (6 + 11) + rm.locals ≤ 344; omega⟩ ⟨by show 0 + rm.cells ≤ 2; omega, by show 0 + rm.slots ≤ 120; omega⟩ d_Law_account_6 [] (⟨0, 11, 14, 13⟩ : ExceptionTableEntry) [(⟨0, 11, 18, 15⟩ : ExceptionTableEntry)] htab (fun z hz => by simp at hz) (by decide) (by decide) (hts _ kl_Law_13) (hE.t2 hG _ (by decide)) (fun q0 H locs hP hS => ?_)
  refine W.widen (k := 2) (n := 120) (by omega) (by omega) ?_
  refine lv_astore (lv' := [(6, .ref q0), (0, .ref x), (1, .long p0), (3, .long p1), (5, .ref o)]) hx hb d_Law_account_14 hl (by decide) rfl (fun ls hl => ?_)
  refine lv_iconst (v := 1) hx hb d_Law_account_16 (by decide) ?_
  exact hb_iret hAe hx hb hr hlocks hP hD hS (Nat.le_of_ble_eq_true rfl) (Nat.le_of_ble_eq_true rfl) (⟨rfl, Mx, g, rfl, ho, hPX, fun z => absurd z (by decide)⟩) d_Law_account_17
set_option maxHeartbeats 4000000 in
theorem h_account_ise {l : Launch} {s0 : State} {D : va_G} {cI cJ cO : ClassId} {e0 mi : Nat} (hE : hb_E l s0 D cI cJ cO e0 mi) (Mx : hb_M) (x o : Nat) (fs : List Value) (g : Nat → Int64) (hx0 : Mx x = some (.inr (2, fs))) (ho : Mx o = none) (p0 : Int64) (p1 : Int64) (PX : hb_M → Prop) (rm : Room) (hrm : hb_rmo rm) (hT : hb_Thr l D hb_cl s0 y_Hb_account b_Hb_account 6 (some .int) rm [.ref x, .long p0, .long p1] Mx "java/lang/IllegalStateException") (hPX : PX Mx) : hb_MetW l D hb_cl s0 y_Law_account b_Law_account 7 (some .int) hh_account hb_RH [.ref x, .long p0, .long p1, .ref o] (hb_jn Mx (hb_one o (jE cJ g))) (hb_HP cJ o 2 0 PX) := by
  refine hb_MetW.of (by decide) (Nat.le_of_ble_eq_true rfl) ?_
  intro p e s m below meth c A hAe hX hz hP hD hA hS ls hl
  obtain ⟨hx, hb, hr, hml, hown, hlocks, hG, htab⟩ := id hX
  obtain ⟨r1, r2, r3, r4⟩ := hrm
  have hown : s.vm.findClass "HoldBookLaw" = some m.cls := hown
  have hts := hE.ts hG ([.ref x, .long p0, .long p1, .ref o] : List Value).toArray
  have hK := hE.kn hG
  have hX2 : hb_Cy p s0 s m c "HoldBookLaw" b_Law_account 7 := ⟨hx, hb, hml, hown, hG⟩
  have hdj : hb_dj Mx (hb_one o (jE cJ g)) := hb_dj_one.mpr ho
  have hl : lv_has ls 7 [(0, .ref x), (1, .long p0), (3, .long p1), (5, .ref o)] := hl
  refine lv_aload hx hb d_Law_account_0 (lv_at hl 3 rfl) ?_
  refine lv_iconst (v := 0) hx hb d_Law_account_2 (by decide) ?_
  refine lv_aload_n hx hb d_Law_account_3 rfl (lv_at hl 0 rfl) ?_
  refine lv_lload_n hx hb d_Law_account_4 rfl (lv_at hl 1 rfl) ?_
  refine lv_lload_n hx hb d_Law_account_5 rfl (lv_at hl 2 rfl) ?_
  refine hb_catV (E := "java/lang/IllegalStateException") (name := "java/lang/IllegalStateException") (rest := [.int 0, .ref o]) hX2 hts hb_gd Y_Hb_account (hT.frame hdj) ml_Law_7 im_Hb_account se_Hb_account hK (hb_jn_l hx0) hC_Hb.1 hz hP hD hS hA rfl hl.1 rfl (Nat.le_of_ble_eq_true rfl) ⟨by show rm.frames + 1 ≤ 10; omega, by show 8 + (6 + 11) + rm.locals ≤ 344; omega⟩ ⟨by show 0 + rm.cells ≤ 2; omega, by show 0 + rm.slots ≤ 120; omega⟩ d_Law_account_6 [(⟨0, 11, 14, 13⟩ : ExceptionTableEntry)] (⟨0, 11, 18, 15⟩ : ExceptionTableEntry) [] htab (List.forall_mem_cons.mpr ⟨Or.inr ⟨by decide, "java/lang/IllegalArgumentException", hts _ kl_Law_13, hE.nc2 hG⟩, fun _ h9 => absurd h9 List.not_mem_nil⟩) (by decide) (by decide) (hts _ kl_Law_15) (hE.t2 hG _ (by decide)) (fun q0 H locs hP hS => ?_)
  refine W.widen (k := 2) (n := 120) (by omega) (by omega) ?_
  refine lv_astore (lv' := [(6, .ref q0), (0, .ref x), (1, .long p0), (3, .long p1), (5, .ref o)]) hx hb d_Law_account_18 hl (by decide) rfl (fun ls hl => ?_)
  refine lv_iconst (v := 2) hx hb d_Law_account_20 (by decide) ?_
  exact hb_iret hAe hx hb hr hlocks hP hD hS (Nat.le_of_ble_eq_true rfl) (Nat.le_of_ble_eq_true rfl) (⟨rfl, Mx, g, rfl, ho, hPX, fun z => absurd z (by decide)⟩) d_Law_account_21
set_option maxHeartbeats 4000000 in
theorem h_ask_ok {l : Launch} {s0 : State} {D : va_G} {cI cJ cO : ClassId} {e0 mi : Nat} (hE : hb_E l s0 D cI cJ cO e0 mi) (Mx : hb_M) (x o : Nat) (fs : List Value) (g : Nat → Int64) (hx0 : Mx x = some (.inr (2, fs))) (ho : Mx o = none) (p0 : Int32) (p1 : Int32) (p2 : Int64) (p3 : Int32) (PX : hb_M → Prop) (rm : Room) (hrm : hb_rmo rm) (z : Int64) (hM : hb_Met l D hb_cl s0 y_Hb_ask b_Hb_ask 10 (some .long) rm [.ref x, .int p0, .int p1, .long p2, .int p3] Mx (fun v M1 => v = some (.long z) ∧ PX M1)) : hb_MetW l D hb_cl s0 y_Law_ask b_Law_ask 8 (some .int) hh_ask hb_RH [.ref x, .int p0, .int p1, .long p2, .int p3, .ref o] (hb_jn Mx (hb_one o (jE cJ g))) (hb_HP cJ o 0 z PX) := by
  refine hb_MetW.of (by decide) (Nat.le_of_ble_eq_true rfl) ?_
  intro p e s m below meth c A hAe hX hz hP hD hA hS ls hl
  obtain ⟨hx, hb, hr, hml, hown, hlocks, hG, htab⟩ := id hX
  obtain ⟨r1, r2, r3, r4⟩ := hrm
  have hown : s.vm.findClass "HoldBookLaw" = some m.cls := hown
  have hts := hE.ts hG ([.ref x, .int p0, .int p1, .long p2, .int p3, .ref o] : List Value).toArray
  have hK := hE.kn hG
  have hX2 : hb_Cy p s0 s m c "HoldBookLaw" b_Law_ask 8 := ⟨hx, hb, hml, hown, hG⟩
  have hdj : hb_dj Mx (hb_one o (jE cJ g)) := hb_dj_one.mpr ho
  have hl : lv_has ls 8 [(0, .ref x), (1, .int p0), (2, .int p1), (3, .long p2), (5, .int p3), (6, .ref o)] := hl
  refine lv_aload hx hb d_Law_ask_0 (lv_at hl 5 rfl) ?_
  refine lv_iconst (v := 0) hx hb d_Law_ask_2 (by decide) ?_
  refine lv_aload_n hx hb d_Law_ask_3 rfl (lv_at hl 0 rfl) ?_
  refine lv_iload_n hx hb d_Law_ask_4 rfl (lv_at hl 1 rfl) ?_
  refine lv_iload_n hx hb d_Law_ask_5 rfl (lv_at hl 2 rfl) ?_
  refine lv_lload_n hx hb d_Law_ask_6 rfl (lv_at hl 3 rfl) ?_
  refine lv_iload hx hb d_Law_ask_7 (lv_at hl 4 rfl) ?_
  refine hb_lcV (rest := [.int 0, .ref o]) hX2 hts hb_gd Y_Hb_ask (hM.frame hdj) ml_Law_17 im_Hb_ask se_Hb_ask hK (hb_jn_l hx0) hC_Hb.1 hz hP hD hS hA rfl hl.1 rfl (Nat.le_of_ble_eq_true rfl) ⟨by show rm.frames + 1 ≤ 10; omega, by show 8 + (10 + 11) + rm.locals ≤ 344; omega⟩ ⟨by show 0 + rm.cells ≤ 2; omega, by show 0 + rm.slots ≤ 120; omega⟩ d_Law_ask_9 (fun v M1 H locs hq hP hD hS _ _ => ?_)
  refine W.widen (k := 2) (n := 120) (by omega) (by omega) ?_
  obtain ⟨M2, ⟨ev, hPX⟩, eM, hdj2⟩ := hq
  subst ev
  have ho2 := hb_dj_one.mp hdj2
  have fo : M1 o = some (jE cJ g) := by rw [eM, hb_jn_r ho2]; exact hb_one_at
  refine W.eq (g2 := F0 m 12 ls [.long z, .int 0, .ref o]) rfl ?_
  refine hb_last hx hb hK hP hD hS fo (show vp_in (nI 0) 1 from vp_in_nI (by omega) (by omega)) d_Law_ask_12 (fun M3 H locs eM3 hP hD hS => ?_)
  rw [eM, hb_up_jn ho2] at eM3
  refine lv_goto (tgt := 20) hx hb d_Law_ask_13 (by decide) ?_
  refine lv_iconst (v := 0) hx hb d_Law_ask_20 (by decide) ?_
  exact hb_iret hAe hx hb hr hlocks hP hD hS (Nat.le_of_ble_eq_true rfl) (Nat.le_of_ble_eq_true rfl) (⟨rfl, M2, _, eM3, ho2, hPX, fun _ => rfl⟩) d_Law_ask_21
set_option maxHeartbeats 4000000 in
theorem h_ask_bad {l : Launch} {s0 : State} {D : va_G} {cI cJ cO : ClassId} {e0 mi : Nat} (hE : hb_E l s0 D cI cJ cO e0 mi) (Mx : hb_M) (x o : Nat) (fs : List Value) (g : Nat → Int64) (hx0 : Mx x = some (.inr (2, fs))) (ho : Mx o = none) (p0 : Int32) (p1 : Int32) (p2 : Int64) (p3 : Int32) (PX : hb_M → Prop) (rm : Room) (hrm : hb_rmo rm) (hT : hb_Thr l D hb_cl s0 y_Hb_ask b_Hb_ask 10 (some .long) rm [.ref x, .int p0, .int p1, .long p2, .int p3] Mx "java/lang/IllegalArgumentException") (hPX : PX Mx) : hb_MetW l D hb_cl s0 y_Law_ask b_Law_ask 8 (some .int) hh_ask hb_RH [.ref x, .int p0, .int p1, .long p2, .int p3, .ref o] (hb_jn Mx (hb_one o (jE cJ g))) (hb_HP cJ o 1 0 PX) := by
  refine hb_MetW.of (by decide) (Nat.le_of_ble_eq_true rfl) ?_
  intro p e s m below meth c A hAe hX hz hP hD hA hS ls hl
  obtain ⟨hx, hb, hr, hml, hown, hlocks, hG, htab⟩ := id hX
  obtain ⟨r1, r2, r3, r4⟩ := hrm
  have hown : s.vm.findClass "HoldBookLaw" = some m.cls := hown
  have hts := hE.ts hG ([.ref x, .int p0, .int p1, .long p2, .int p3, .ref o] : List Value).toArray
  have hK := hE.kn hG
  have hX2 : hb_Cy p s0 s m c "HoldBookLaw" b_Law_ask 8 := ⟨hx, hb, hml, hown, hG⟩
  have hdj : hb_dj Mx (hb_one o (jE cJ g)) := hb_dj_one.mpr ho
  have hl : lv_has ls 8 [(0, .ref x), (1, .int p0), (2, .int p1), (3, .long p2), (5, .int p3), (6, .ref o)] := hl
  refine lv_aload hx hb d_Law_ask_0 (lv_at hl 5 rfl) ?_
  refine lv_iconst (v := 0) hx hb d_Law_ask_2 (by decide) ?_
  refine lv_aload_n hx hb d_Law_ask_3 rfl (lv_at hl 0 rfl) ?_
  refine lv_iload_n hx hb d_Law_ask_4 rfl (lv_at hl 1 rfl) ?_
  refine lv_iload_n hx hb d_Law_ask_5 rfl (lv_at hl 2 rfl) ?_
  refine lv_lload_n hx hb d_Law_ask_6 rfl (lv_at hl 3 rfl) ?_
  refine lv_iload hx hb d_Law_ask_7 (lv_at hl 4 rfl) ?_
  refine hb_catV (E := "java/lang/IllegalArgumentException") (name := "java/lang/IllegalArgumentException") (rest := [.int 0, .ref o]) hX2 hts hb_gd Y_Hb_ask (hT.frame hdj) ml_Law_17 im_Hb_ask se_Hb_ask hK (hb_jn_l hx0) hC_Hb.1 hz hP hD hS hA rfl hl.1 rfl (Nat.le_of_ble_eq_true rfl) ⟨by show rm.frames + 1 ≤ 10; omega, by show 8 + (10 + 11) + rm.locals ≤ 344; omega⟩ ⟨by show 0 + rm.cells ≤ 2; omega, by show 0 + rm.slots ≤ 120; omega⟩ d_Law_ask_9 [] (⟨0, 13, 16, 13⟩ : ExceptionTableEntry) [] htab (fun z hz => by simp at hz) (by decide) (by decide) (hts _ kl_Law_13) (hE.t2 hG _ (by decide)) (fun q0 H locs hP hS => ?_)
  refine W.widen (k := 2) (n := 120) (by omega) (by omega) ?_
  refine lv_astore (lv' := [(7, .ref q0), (0, .ref x), (1, .int p0), (2, .int p1), (3, .long p2), (5, .int p3), (6, .ref o)]) hx hb d_Law_ask_16 hl (by decide) rfl (fun ls hl => ?_)
  refine lv_iconst (v := 1) hx hb d_Law_ask_18 (by decide) ?_
  exact hb_iret hAe hx hb hr hlocks hP hD hS (Nat.le_of_ble_eq_true rfl) (Nat.le_of_ble_eq_true rfl) (⟨rfl, Mx, g, rfl, ho, hPX, fun z => absurd z (by decide)⟩) d_Law_ask_19
set_option maxHeartbeats 4000000 in
theorem h_clear_ok {l : Launch} {s0 : State} {D : va_G} {cI cJ cO : ClassId} {e0 mi : Nat} (hE : hb_E l s0 D cI cJ cO e0 mi) (Mx : hb_M) (x o : Nat) (fs : List Value) (g : Nat → Int64) (hx0 : Mx x = some (.inr (2, fs))) (ho : Mx o = none) (p0 : Int32) (p1 : Int64) (p2 : Int32) (PX : hb_M → Prop) (rm : Room) (hrm : hb_rmo rm) (z : Int64) (hM : hb_Met l D hb_cl s0 y_Hb_clear b_Hb_clear 6 (some .long) rm [.ref x, .int p0, .long p1, .int p2] Mx (fun v M1 => v = some (.long z) ∧ PX M1)) : hb_MetW l D hb_cl s0 y_Law_clear b_Law_clear 7 (some .int) hh_clear hb_RH [.ref x, .int p0, .long p1, .int p2, .ref o] (hb_jn Mx (hb_one o (jE cJ g))) (hb_HP cJ o 0 z PX) := by
  refine hb_MetW.of (by decide) (Nat.le_of_ble_eq_true rfl) ?_
  intro p e s m below meth c A hAe hX hz hP hD hA hS ls hl
  obtain ⟨hx, hb, hr, hml, hown, hlocks, hG, htab⟩ := id hX
  obtain ⟨r1, r2, r3, r4⟩ := hrm
  have hown : s.vm.findClass "HoldBookLaw" = some m.cls := hown
  have hts := hE.ts hG ([.ref x, .int p0, .long p1, .int p2, .ref o] : List Value).toArray
  have hK := hE.kn hG
  have hX2 : hb_Cy p s0 s m c "HoldBookLaw" b_Law_clear 7 := ⟨hx, hb, hml, hown, hG⟩
  have hdj : hb_dj Mx (hb_one o (jE cJ g)) := hb_dj_one.mpr ho
  have hl : lv_has ls 7 [(0, .ref x), (1, .int p0), (2, .long p1), (4, .int p2), (5, .ref o)] := hl
  refine lv_aload hx hb d_Law_clear_0 (lv_at hl 4 rfl) ?_
  refine lv_iconst (v := 0) hx hb d_Law_clear_2 (by decide) ?_
  refine lv_aload_n hx hb d_Law_clear_3 rfl (lv_at hl 0 rfl) ?_
  refine lv_iload_n hx hb d_Law_clear_4 rfl (lv_at hl 1 rfl) ?_
  refine lv_lload_n hx hb d_Law_clear_5 rfl (lv_at hl 2 rfl) ?_
  refine lv_iload hx hb d_Law_clear_6 (lv_at hl 3 rfl) ?_
  refine hb_lcV (rest := [.int 0, .ref o]) hX2 hts hb_gd Y_Hb_clear (hM.frame hdj) ml_Law_21 im_Hb_clear se_Hb_clear hK (hb_jn_l hx0) hC_Hb.1 hz hP hD hS hA rfl hl.1 rfl (Nat.le_of_ble_eq_true rfl) ⟨by show rm.frames + 1 ≤ 10; omega, by show 8 + (6 + 11) + rm.locals ≤ 344; omega⟩ ⟨by show 0 + rm.cells ≤ 2; omega, by show 0 + rm.slots ≤ 120; omega⟩ d_Law_clear_8 (fun v M1 H locs hq hP hD hS _ _ => ?_)
  refine W.widen (k := 2) (n := 120) (by omega) (by omega) ?_
  obtain ⟨M2, ⟨ev, hPX⟩, eM, hdj2⟩ := hq
  subst ev
  have ho2 := hb_dj_one.mp hdj2
  have fo : M1 o = some (jE cJ g) := by rw [eM, hb_jn_r ho2]; exact hb_one_at
  refine W.eq (g2 := F0 m 11 ls [.long z, .int 0, .ref o]) rfl ?_
  refine hb_last hx hb hK hP hD hS fo (show vp_in (nI 0) 1 from vp_in_nI (by omega) (by omega)) d_Law_clear_11 (fun M3 H locs eM3 hP hD hS => ?_)
  rw [eM, hb_up_jn ho2] at eM3
  refine lv_goto (tgt := 19) hx hb d_Law_clear_12 (by decide) ?_
  refine lv_iconst (v := 0) hx hb d_Law_clear_19 (by decide) ?_
  exact hb_iret hAe hx hb hr hlocks hP hD hS (Nat.le_of_ble_eq_true rfl) (Nat.le_of_ble_eq_true rfl) (⟨rfl, M2, _, eM3, ho2, hPX, fun _ => rfl⟩) d_Law_clear_20
set_option maxHeartbeats 4000000 in
theorem h_clear_bad {l : Launch} {s0 : State} {D : va_G} {cI cJ cO : ClassId} {e0 mi : Nat} (hE : hb_E l s0 D cI cJ cO e0 mi) (Mx : hb_M) (x o : Nat) (fs : List Value) (g : Nat → Int64) (hx0 : Mx x = some (.inr (2, fs))) (ho : Mx o = none) (p0 : Int32) (p1 : Int64) (p2 : Int32) (PX : hb_M → Prop) (rm : Room) (hrm : hb_rmo rm) (hT : hb_Thr l D hb_cl s0 y_Hb_clear b_Hb_clear 6 (some .long) rm [.ref x, .int p0, .long p1, .int p2] Mx "java/lang/IllegalArgumentException") (hPX : PX Mx) : hb_MetW l D hb_cl s0 y_Law_clear b_Law_clear 7 (some .int) hh_clear hb_RH [.ref x, .int p0, .long p1, .int p2, .ref o] (hb_jn Mx (hb_one o (jE cJ g))) (hb_HP cJ o 1 0 PX) := by
  refine hb_MetW.of (by decide) (Nat.le_of_ble_eq_true rfl) ?_
  intro p e s m below meth c A hAe hX hz hP hD hA hS ls hl
  obtain ⟨hx, hb, hr, hml, hown, hlocks, hG, htab⟩ := id hX
  obtain ⟨r1, r2, r3, r4⟩ := hrm
  have hown : s.vm.findClass "HoldBookLaw" = some m.cls := hown
  have hts := hE.ts hG ([.ref x, .int p0, .long p1, .int p2, .ref o] : List Value).toArray
  have hK := hE.kn hG
  have hX2 : hb_Cy p s0 s m c "HoldBookLaw" b_Law_clear 7 := ⟨hx, hb, hml, hown, hG⟩
  have hdj : hb_dj Mx (hb_one o (jE cJ g)) := hb_dj_one.mpr ho
  have hl : lv_has ls 7 [(0, .ref x), (1, .int p0), (2, .long p1), (4, .int p2), (5, .ref o)] := hl
  refine lv_aload hx hb d_Law_clear_0 (lv_at hl 4 rfl) ?_
  refine lv_iconst (v := 0) hx hb d_Law_clear_2 (by decide) ?_
  refine lv_aload_n hx hb d_Law_clear_3 rfl (lv_at hl 0 rfl) ?_
  refine lv_iload_n hx hb d_Law_clear_4 rfl (lv_at hl 1 rfl) ?_
  refine lv_lload_n hx hb d_Law_clear_5 rfl (lv_at hl 2 rfl) ?_
  refine lv_iload hx hb d_Law_clear_6 (lv_at hl 3 rfl) ?_
  refine hb_catV (E := "java/lang/IllegalArgumentException") (name := "java/lang/IllegalArgumentException") (rest := [.int 0, .ref o]) hX2 hts hb_gd Y_Hb_clear (hT.frame hdj) ml_Law_21 im_Hb_clear se_Hb_clear hK (hb_jn_l hx0) hC_Hb.1 hz hP hD hS hA rfl hl.1 rfl (Nat.le_of_ble_eq_true rfl) ⟨by show rm.frames + 1 ≤ 10; omega, by show 8 + (6 + 11) + rm.locals ≤ 344; omega⟩ ⟨by show 0 + rm.cells ≤ 2; omega, by show 0 + rm.slots ≤ 120; omega⟩ d_Law_clear_8 [] (⟨0, 12, 15, 13⟩ : ExceptionTableEntry) [] htab (fun z hz => by simp at hz) (by decide) (by decide) (hts _ kl_Law_13) (hE.t2 hG _ (by decide)) (fun q0 H locs hP hS => ?_)
  refine W.widen (k := 2) (n := 120) (by omega) (by omega) ?_
  refine lv_astore (lv' := [(6, .ref q0), (0, .ref x), (1, .int p0), (2, .long p1), (4, .int p2), (5, .ref o)]) hx hb d_Law_clear_15 hl (by decide) rfl (fun ls hl => ?_)
  refine lv_iconst (v := 1) hx hb d_Law_clear_17 (by decide) ?_
  exact hb_iret hAe hx hb hr hlocks hP hD hS (Nat.le_of_ble_eq_true rfl) (Nat.le_of_ble_eq_true rfl) (⟨rfl, Mx, g, rfl, ho, hPX, fun z => absurd z (by decide)⟩) d_Law_clear_18
set_option maxHeartbeats 4000000 in
theorem h_undo_ok {l : Launch} {s0 : State} {D : va_G} {cI cJ cO : ClassId} {e0 mi : Nat} (hE : hb_E l s0 D cI cJ cO e0 mi) (Mx : hb_M) (x o : Nat) (fs : List Value) (g : Nat → Int64) (hx0 : Mx x = some (.inr (2, fs))) (ho : Mx o = none) (p0 : Int32) (p1 : Int64) (p2 : Int32) (PX : hb_M → Prop) (rm : Room) (hrm : hb_rmo rm) (z : Int64) (hM : hb_Met l D hb_cl s0 y_Hb_undo b_Hb_undo 6 (some .long) rm [.ref x, .int p0, .long p1, .int p2] Mx (fun v M1 => v = some (.long z) ∧ PX M1)) : hb_MetW l D hb_cl s0 y_Law_undo b_Law_undo 7 (some .int) hh_undo hb_RH [.ref x, .int p0, .long p1, .int p2, .ref o] (hb_jn Mx (hb_one o (jE cJ g))) (hb_HP cJ o 0 z PX) := by
  refine hb_MetW.of (by decide) (Nat.le_of_ble_eq_true rfl) ?_
  intro p e s m below meth c A hAe hX hz hP hD hA hS ls hl
  obtain ⟨hx, hb, hr, hml, hown, hlocks, hG, htab⟩ := id hX
  obtain ⟨r1, r2, r3, r4⟩ := hrm
  have hown : s.vm.findClass "HoldBookLaw" = some m.cls := hown
  have hts := hE.ts hG ([.ref x, .int p0, .long p1, .int p2, .ref o] : List Value).toArray
  have hK := hE.kn hG
  have hX2 : hb_Cy p s0 s m c "HoldBookLaw" b_Law_undo 7 := ⟨hx, hb, hml, hown, hG⟩
  have hdj : hb_dj Mx (hb_one o (jE cJ g)) := hb_dj_one.mpr ho
  have hl : lv_has ls 7 [(0, .ref x), (1, .int p0), (2, .long p1), (4, .int p2), (5, .ref o)] := hl
  refine lv_aload hx hb d_Law_undo_0 (lv_at hl 4 rfl) ?_
  refine lv_iconst (v := 0) hx hb d_Law_undo_2 (by decide) ?_
  refine lv_aload_n hx hb d_Law_undo_3 rfl (lv_at hl 0 rfl) ?_
  refine lv_iload_n hx hb d_Law_undo_4 rfl (lv_at hl 1 rfl) ?_
  refine lv_lload_n hx hb d_Law_undo_5 rfl (lv_at hl 2 rfl) ?_
  refine lv_iload hx hb d_Law_undo_6 (lv_at hl 3 rfl) ?_
  refine hb_lcV (rest := [.int 0, .ref o]) hX2 hts hb_gd Y_Hb_undo (hM.frame hdj) ml_Law_25 im_Hb_undo se_Hb_undo hK (hb_jn_l hx0) hC_Hb.1 hz hP hD hS hA rfl hl.1 rfl (Nat.le_of_ble_eq_true rfl) ⟨by show rm.frames + 1 ≤ 10; omega, by show 8 + (6 + 11) + rm.locals ≤ 344; omega⟩ ⟨by show 0 + rm.cells ≤ 2; omega, by show 0 + rm.slots ≤ 120; omega⟩ d_Law_undo_8 (fun v M1 H locs hq hP hD hS _ _ => ?_)
  refine W.widen (k := 2) (n := 120) (by omega) (by omega) ?_
  obtain ⟨M2, ⟨ev, hPX⟩, eM, hdj2⟩ := hq
  subst ev
  have ho2 := hb_dj_one.mp hdj2
  have fo : M1 o = some (jE cJ g) := by rw [eM, hb_jn_r ho2]; exact hb_one_at
  refine W.eq (g2 := F0 m 11 ls [.long z, .int 0, .ref o]) rfl ?_
  refine hb_last hx hb hK hP hD hS fo (show vp_in (nI 0) 1 from vp_in_nI (by omega) (by omega)) d_Law_undo_11 (fun M3 H locs eM3 hP hD hS => ?_)
  rw [eM, hb_up_jn ho2] at eM3
  refine lv_goto (tgt := 19) hx hb d_Law_undo_12 (by decide) ?_
  refine lv_iconst (v := 0) hx hb d_Law_undo_19 (by decide) ?_
  exact hb_iret hAe hx hb hr hlocks hP hD hS (Nat.le_of_ble_eq_true rfl) (Nat.le_of_ble_eq_true rfl) (⟨rfl, M2, _, eM3, ho2, hPX, fun _ => rfl⟩) d_Law_undo_20
set_option maxHeartbeats 4000000 in
theorem h_undo_bad {l : Launch} {s0 : State} {D : va_G} {cI cJ cO : ClassId} {e0 mi : Nat} (hE : hb_E l s0 D cI cJ cO e0 mi) (Mx : hb_M) (x o : Nat) (fs : List Value) (g : Nat → Int64) (hx0 : Mx x = some (.inr (2, fs))) (ho : Mx o = none) (p0 : Int32) (p1 : Int64) (p2 : Int32) (PX : hb_M → Prop) (rm : Room) (hrm : hb_rmo rm) (hT : hb_Thr l D hb_cl s0 y_Hb_undo b_Hb_undo 6 (some .long) rm [.ref x, .int p0, .long p1, .int p2] Mx "java/lang/IllegalArgumentException") (hPX : PX Mx) : hb_MetW l D hb_cl s0 y_Law_undo b_Law_undo 7 (some .int) hh_undo hb_RH [.ref x, .int p0, .long p1, .int p2, .ref o] (hb_jn Mx (hb_one o (jE cJ g))) (hb_HP cJ o 1 0 PX) := by
  refine hb_MetW.of (by decide) (Nat.le_of_ble_eq_true rfl) ?_
  intro p e s m below meth c A hAe hX hz hP hD hA hS ls hl
  obtain ⟨hx, hb, hr, hml, hown, hlocks, hG, htab⟩ := id hX
  obtain ⟨r1, r2, r3, r4⟩ := hrm
  have hown : s.vm.findClass "HoldBookLaw" = some m.cls := hown
  have hts := hE.ts hG ([.ref x, .int p0, .long p1, .int p2, .ref o] : List Value).toArray
  have hK := hE.kn hG
  have hX2 : hb_Cy p s0 s m c "HoldBookLaw" b_Law_undo 7 := ⟨hx, hb, hml, hown, hG⟩
  have hdj : hb_dj Mx (hb_one o (jE cJ g)) := hb_dj_one.mpr ho
  have hl : lv_has ls 7 [(0, .ref x), (1, .int p0), (2, .long p1), (4, .int p2), (5, .ref o)] := hl
  refine lv_aload hx hb d_Law_undo_0 (lv_at hl 4 rfl) ?_
  refine lv_iconst (v := 0) hx hb d_Law_undo_2 (by decide) ?_
  refine lv_aload_n hx hb d_Law_undo_3 rfl (lv_at hl 0 rfl) ?_
  refine lv_iload_n hx hb d_Law_undo_4 rfl (lv_at hl 1 rfl) ?_
  refine lv_lload_n hx hb d_Law_undo_5 rfl (lv_at hl 2 rfl) ?_
  refine lv_iload hx hb d_Law_undo_6 (lv_at hl 3 rfl) ?_
  refine hb_catV (E := "java/lang/IllegalArgumentException") (name := "java/lang/IllegalArgumentException") (rest := [.int 0, .ref o]) hX2 hts hb_gd Y_Hb_undo (hT.frame hdj) ml_Law_25 im_Hb_undo se_Hb_undo hK (hb_jn_l hx0) hC_Hb.1 hz hP hD hS hA rfl hl.1 rfl (Nat.le_of_ble_eq_true rfl) ⟨by show rm.frames + 1 ≤ 10; omega, by show 8 + (6 + 11) + rm.locals ≤ 344; omega⟩ ⟨by show 0 + rm.cells ≤ 2; omega, by show 0 + rm.slots ≤ 120; omega⟩ d_Law_undo_8 [] (⟨0, 12, 15, 13⟩ : ExceptionTableEntry) [] htab (fun z hz => by simp at hz) (by decide) (by decide) (hts _ kl_Law_13) (hE.t2 hG _ (by decide)) (fun q0 H locs hP hS => ?_)
  refine W.widen (k := 2) (n := 120) (by omega) (by omega) ?_
  refine lv_astore (lv' := [(6, .ref q0), (0, .ref x), (1, .int p0), (2, .long p1), (4, .int p2), (5, .ref o)]) hx hb d_Law_undo_15 hl (by decide) rfl (fun ls hl => ?_)
  refine lv_iconst (v := 1) hx hb d_Law_undo_17 (by decide) ?_
  exact hb_iret hAe hx hb hr hlocks hP hD hS (Nat.le_of_ble_eq_true rfl) (Nat.le_of_ble_eq_true rfl) (⟨rfl, Mx, g, rfl, ho, hPX, fun z => absurd z (by decide)⟩) d_Law_undo_18
set_option maxHeartbeats 4000000 in
theorem h_ticks_ok {l : Launch} {s0 : State} {D : va_G} {cI cJ cO : ClassId} {e0 mi : Nat} (hE : hb_E l s0 D cI cJ cO e0 mi) (Mx : hb_M) (x o : Nat) (fs : List Value) (g : Nat → Int64) (hx0 : Mx x = some (.inr (2, fs))) (ho : Mx o = none) (p0 : Int32) (PX : hb_M → Prop) (rm : Room) (hrm : hb_rmo rm) (z : Int32) (hM : hb_Met l D hb_cl s0 y_Hb_ticks b_Hb_ticks 3 (some .int) rm [.ref x, .int p0] Mx (fun v M1 => v = some (.int z) ∧ PX M1)) : hb_MetW l D hb_cl s0 y_Law_ticks b_Law_ticks 4 (some .int) hh_ticks hb_RH [.ref x, .int p0, .ref o] (hb_jn Mx (hb_one o (jE cJ g))) (hb_HP cJ o 0 z.toInt64 PX) := by
  refine hb_MetW.of (by decide) (Nat.le_of_ble_eq_true rfl) ?_
  intro p e s m below meth c A hAe hX hz hP hD hA hS ls hl
  obtain ⟨hx, hb, hr, hml, hown, hlocks, hG, htab⟩ := id hX
  obtain ⟨r1, r2, r3, r4⟩ := hrm
  have hown : s.vm.findClass "HoldBookLaw" = some m.cls := hown
  have hts := hE.ts hG ([.ref x, .int p0, .ref o] : List Value).toArray
  have hK := hE.kn hG
  have hX2 : hb_Cy p s0 s m c "HoldBookLaw" b_Law_ticks 4 := ⟨hx, hb, hml, hown, hG⟩
  have hdj : hb_dj Mx (hb_one o (jE cJ g)) := hb_dj_one.mpr ho
  have hl : lv_has ls 4 [(0, .ref x), (1, .int p0), (2, .ref o)] := hl
  refine lv_aload_n hx hb d_Law_ticks_0 rfl (lv_at hl 2 rfl) ?_
  refine lv_iconst (v := 0) hx hb d_Law_ticks_1 (by decide) ?_
  refine lv_aload_n hx hb d_Law_ticks_2 rfl (lv_at hl 0 rfl) ?_
  refine lv_iload_n hx hb d_Law_ticks_3 rfl (lv_at hl 1 rfl) ?_
  refine hb_lcV (rest := [.int 0, .ref o]) hX2 hts hb_gd Y_Hb_ticks (hM.frame hdj) ml_Law_28 im_Hb_ticks se_Hb_ticks hK (hb_jn_l hx0) hC_Hb.1 hz hP hD hS hA rfl hl.1 rfl (Nat.le_of_ble_eq_true rfl) ⟨by show rm.frames + 1 ≤ 10; omega, by show 8 + (3 + 11) + rm.locals ≤ 344; omega⟩ ⟨by show 0 + rm.cells ≤ 2; omega, by show 0 + rm.slots ≤ 120; omega⟩ d_Law_ticks_4 (fun v M1 H locs hq hP hD hS _ _ => ?_)
  refine W.widen (k := 2) (n := 120) (by omega) (by omega) ?_
  obtain ⟨M2, ⟨ev, hPX⟩, eM, hdj2⟩ := hq
  subst ev
  have ho2 := hb_dj_one.mp hdj2
  have fo : M1 o = some (jE cJ g) := by rw [eM, hb_jn_r ho2]; exact hb_one_at
  refine W.eq (g2 := F0 m 7 ls [.int z, .int 0, .ref o]) rfl ?_
  refine lv_i2l (v := z.toInt64) hx hb d_Law_ticks_7 rfl ?_
  refine hb_last hx hb hK hP hD hS fo (show vp_in (nI 0) 1 from vp_in_nI (by omega) (by omega)) d_Law_ticks_8 (fun M3 H locs eM3 hP hD hS => ?_)
  rw [eM, hb_up_jn ho2] at eM3
  refine lv_goto (tgt := 18) hx hb d_Law_ticks_9 (by decide) ?_
  refine lv_iconst (v := 0) hx hb d_Law_ticks_18 (by decide) ?_
  exact hb_iret hAe hx hb hr hlocks hP hD hS (Nat.le_of_ble_eq_true rfl) (Nat.le_of_ble_eq_true rfl) (⟨rfl, M2, _, eM3, ho2, hPX, fun _ => rfl⟩) d_Law_ticks_19
set_option maxHeartbeats 4000000 in
theorem h_ticks_bad {l : Launch} {s0 : State} {D : va_G} {cI cJ cO : ClassId} {e0 mi : Nat} (hE : hb_E l s0 D cI cJ cO e0 mi) (Mx : hb_M) (x o : Nat) (fs : List Value) (g : Nat → Int64) (hx0 : Mx x = some (.inr (2, fs))) (ho : Mx o = none) (p0 : Int32) (PX : hb_M → Prop) (rm : Room) (hrm : hb_rmo rm) (hT : hb_Thr l D hb_cl s0 y_Hb_ticks b_Hb_ticks 3 (some .int) rm [.ref x, .int p0] Mx "java/lang/IllegalArgumentException") (hPX : PX Mx) : hb_MetW l D hb_cl s0 y_Law_ticks b_Law_ticks 4 (some .int) hh_ticks hb_RH [.ref x, .int p0, .ref o] (hb_jn Mx (hb_one o (jE cJ g))) (hb_HP cJ o 1 0 PX) := by
  refine hb_MetW.of (by decide) (Nat.le_of_ble_eq_true rfl) ?_
  intro p e s m below meth c A hAe hX hz hP hD hA hS ls hl
  obtain ⟨hx, hb, hr, hml, hown, hlocks, hG, htab⟩ := id hX
  obtain ⟨r1, r2, r3, r4⟩ := hrm
  have hown : s.vm.findClass "HoldBookLaw" = some m.cls := hown
  have hts := hE.ts hG ([.ref x, .int p0, .ref o] : List Value).toArray
  have hK := hE.kn hG
  have hX2 : hb_Cy p s0 s m c "HoldBookLaw" b_Law_ticks 4 := ⟨hx, hb, hml, hown, hG⟩
  have hdj : hb_dj Mx (hb_one o (jE cJ g)) := hb_dj_one.mpr ho
  have hl : lv_has ls 4 [(0, .ref x), (1, .int p0), (2, .ref o)] := hl
  refine lv_aload_n hx hb d_Law_ticks_0 rfl (lv_at hl 2 rfl) ?_
  refine lv_iconst (v := 0) hx hb d_Law_ticks_1 (by decide) ?_
  refine lv_aload_n hx hb d_Law_ticks_2 rfl (lv_at hl 0 rfl) ?_
  refine lv_iload_n hx hb d_Law_ticks_3 rfl (lv_at hl 1 rfl) ?_
  refine hb_catV (E := "java/lang/IllegalArgumentException") (name := "java/lang/IllegalArgumentException") (rest := [.int 0, .ref o]) hX2 hts hb_gd Y_Hb_ticks (hT.frame hdj) ml_Law_28 im_Hb_ticks se_Hb_ticks hK (hb_jn_l hx0) hC_Hb.1 hz hP hD hS hA rfl hl.1 rfl (Nat.le_of_ble_eq_true rfl) ⟨by show rm.frames + 1 ≤ 10; omega, by show 8 + (3 + 11) + rm.locals ≤ 344; omega⟩ ⟨by show 0 + rm.cells ≤ 2; omega, by show 0 + rm.slots ≤ 120; omega⟩ d_Law_ticks_4 [] (⟨0, 9, 12, 13⟩ : ExceptionTableEntry) [(⟨0, 9, 15, 15⟩ : ExceptionTableEntry)] htab (fun z hz => by simp at hz) (by decide) (by decide) (hts _ kl_Law_13) (hE.t2 hG _ (by decide)) (fun q0 H locs hP hS => ?_)
  refine W.widen (k := 2) (n := 120) (by omega) (by omega) ?_
  refine lv_astore_n (lv' := [(3, .ref q0), (0, .ref x), (1, .int p0), (2, .ref o)]) hx hb d_Law_ticks_12 rfl hl (by decide) rfl (fun ls hl => ?_)
  refine lv_iconst (v := 1) hx hb d_Law_ticks_13 (by decide) ?_
  exact hb_iret hAe hx hb hr hlocks hP hD hS (Nat.le_of_ble_eq_true rfl) (Nat.le_of_ble_eq_true rfl) (⟨rfl, Mx, g, rfl, ho, hPX, fun z => absurd z (by decide)⟩) d_Law_ticks_14
set_option maxHeartbeats 4000000 in
theorem h_ticks_ise {l : Launch} {s0 : State} {D : va_G} {cI cJ cO : ClassId} {e0 mi : Nat} (hE : hb_E l s0 D cI cJ cO e0 mi) (Mx : hb_M) (x o : Nat) (fs : List Value) (g : Nat → Int64) (hx0 : Mx x = some (.inr (2, fs))) (ho : Mx o = none) (p0 : Int32) (PX : hb_M → Prop) (rm : Room) (hrm : hb_rmo rm) (hT : hb_Thr l D hb_cl s0 y_Hb_ticks b_Hb_ticks 3 (some .int) rm [.ref x, .int p0] Mx "java/lang/IllegalStateException") (hPX : PX Mx) : hb_MetW l D hb_cl s0 y_Law_ticks b_Law_ticks 4 (some .int) hh_ticks hb_RH [.ref x, .int p0, .ref o] (hb_jn Mx (hb_one o (jE cJ g))) (hb_HP cJ o 2 0 PX) := by
  refine hb_MetW.of (by decide) (Nat.le_of_ble_eq_true rfl) ?_
  intro p e s m below meth c A hAe hX hz hP hD hA hS ls hl
  obtain ⟨hx, hb, hr, hml, hown, hlocks, hG, htab⟩ := id hX
  obtain ⟨r1, r2, r3, r4⟩ := hrm
  have hown : s.vm.findClass "HoldBookLaw" = some m.cls := hown
  have hts := hE.ts hG ([.ref x, .int p0, .ref o] : List Value).toArray
  have hK := hE.kn hG
  have hX2 : hb_Cy p s0 s m c "HoldBookLaw" b_Law_ticks 4 := ⟨hx, hb, hml, hown, hG⟩
  have hdj : hb_dj Mx (hb_one o (jE cJ g)) := hb_dj_one.mpr ho
  have hl : lv_has ls 4 [(0, .ref x), (1, .int p0), (2, .ref o)] := hl
  refine lv_aload_n hx hb d_Law_ticks_0 rfl (lv_at hl 2 rfl) ?_
  refine lv_iconst (v := 0) hx hb d_Law_ticks_1 (by decide) ?_
  refine lv_aload_n hx hb d_Law_ticks_2 rfl (lv_at hl 0 rfl) ?_
  refine lv_iload_n hx hb d_Law_ticks_3 rfl (lv_at hl 1 rfl) ?_
  refine hb_catV (E := "java/lang/IllegalStateException") (name := "java/lang/IllegalStateException") (rest := [.int 0, .ref o]) hX2 hts hb_gd Y_Hb_ticks (hT.frame hdj) ml_Law_28 im_Hb_ticks se_Hb_ticks hK (hb_jn_l hx0) hC_Hb.1 hz hP hD hS hA rfl hl.1 rfl (Nat.le_of_ble_eq_true rfl) ⟨by show rm.frames + 1 ≤ 10; omega, by show 8 + (3 + 11) + rm.locals ≤ 344; omega⟩ ⟨by show 0 + rm.cells ≤ 2; omega, by show 0 + rm.slots ≤ 120; omega⟩ d_Law_ticks_4 [(⟨0, 9, 12, 13⟩ : ExceptionTableEntry)] (⟨0, 9, 15, 15⟩ : ExceptionTableEntry) [] htab (List.forall_mem_cons.mpr ⟨Or.inr ⟨by decide, "java/lang/IllegalArgumentException", hts _ kl_Law_13, hE.nc2 hG⟩, fun _ h9 => absurd h9 List.not_mem_nil⟩) (by decide) (by decide) (hts _ kl_Law_15) (hE.t2 hG _ (by decide)) (fun q0 H locs hP hS => ?_)
  refine W.widen (k := 2) (n := 120) (by omega) (by omega) ?_
  refine lv_astore_n (lv' := [(3, .ref q0), (0, .ref x), (1, .int p0), (2, .ref o)]) hx hb d_Law_ticks_15 rfl hl (by decide) rfl (fun ls hl => ?_)
  refine lv_iconst (v := 2) hx hb d_Law_ticks_16 (by decide) ?_
  exact hb_iret hAe hx hb hr hlocks hP hD hS (Nat.le_of_ble_eq_true rfl) (Nat.le_of_ble_eq_true rfl) (⟨rfl, Mx, g, rfl, ho, hPX, fun z => absurd z (by decide)⟩) d_Law_ticks_17
set_option maxHeartbeats 4000000 in
theorem h_charge_ok {l : Launch} {s0 : State} {D : va_G} {cI cJ cO : ClassId} {e0 mi : Nat} (hE : hb_E l s0 D cI cJ cO e0 mi) (Mx : hb_M) (x o : Nat) (fs : List Value) (g : Nat → Int64) (hx0 : Mx x = some (.inr (2, fs))) (ho : Mx o = none) (p0 : Int32) (p1 : Int64) (PX : hb_M → Prop) (rm : Room) (hrm : hb_rmo rm) (z : Int32) (hM : hb_Met l D hb_cl s0 y_Hb_charge b_Hb_charge 5 (some .int) rm [.ref x, .int p0, .long p1] Mx (fun v M1 => v = some (.int z) ∧ PX M1)) : hb_MetW l D hb_cl s0 y_Law_charge b_Law_charge 6 (some .int) hh_charge hb_RH [.ref x, .int p0, .long p1, .ref o] (hb_jn Mx (hb_one o (jE cJ g))) (hb_HP cJ o 0 z.toInt64 PX) := by
  refine hb_MetW.of (by decide) (Nat.le_of_ble_eq_true rfl) ?_
  intro p e s m below meth c A hAe hX hz hP hD hA hS ls hl
  obtain ⟨hx, hb, hr, hml, hown, hlocks, hG, htab⟩ := id hX
  obtain ⟨r1, r2, r3, r4⟩ := hrm
  have hown : s.vm.findClass "HoldBookLaw" = some m.cls := hown
  have hts := hE.ts hG ([.ref x, .int p0, .long p1, .ref o] : List Value).toArray
  have hK := hE.kn hG
  have hX2 : hb_Cy p s0 s m c "HoldBookLaw" b_Law_charge 6 := ⟨hx, hb, hml, hown, hG⟩
  have hdj : hb_dj Mx (hb_one o (jE cJ g)) := hb_dj_one.mpr ho
  have hl : lv_has ls 6 [(0, .ref x), (1, .int p0), (2, .long p1), (4, .ref o)] := hl
  refine lv_aload hx hb d_Law_charge_0 (lv_at hl 3 rfl) ?_
  refine lv_iconst (v := 0) hx hb d_Law_charge_2 (by decide) ?_
  refine lv_aload_n hx hb d_Law_charge_3 rfl (lv_at hl 0 rfl) ?_
  refine lv_iload_n hx hb d_Law_charge_4 rfl (lv_at hl 1 rfl) ?_
  refine lv_lload_n hx hb d_Law_charge_5 rfl (lv_at hl 2 rfl) ?_
  refine hb_lcV (rest := [.int 0, .ref o]) hX2 hts hb_gd Y_Hb_charge (hM.frame hdj) ml_Law_32 im_Hb_charge se_Hb_charge hK (hb_jn_l hx0) hC_Hb.1 hz hP hD hS hA rfl hl.1 rfl (Nat.le_of_ble_eq_true rfl) ⟨by show rm.frames + 1 ≤ 10; omega, by show 8 + (5 + 11) + rm.locals ≤ 344; omega⟩ ⟨by show 0 + rm.cells ≤ 2; omega, by show 0 + rm.slots ≤ 120; omega⟩ d_Law_charge_6 (fun v M1 H locs hq hP hD hS _ _ => ?_)
  refine W.widen (k := 2) (n := 120) (by omega) (by omega) ?_
  obtain ⟨M2, ⟨ev, hPX⟩, eM, hdj2⟩ := hq
  subst ev
  have ho2 := hb_dj_one.mp hdj2
  have fo : M1 o = some (jE cJ g) := by rw [eM, hb_jn_r ho2]; exact hb_one_at
  refine W.eq (g2 := F0 m 9 ls [.int z, .int 0, .ref o]) rfl ?_
  refine lv_i2l (v := z.toInt64) hx hb d_Law_charge_9 rfl ?_
  refine hb_last hx hb hK hP hD hS fo (show vp_in (nI 0) 1 from vp_in_nI (by omega) (by omega)) d_Law_charge_10 (fun M3 H locs eM3 hP hD hS => ?_)
  rw [eM, hb_up_jn ho2] at eM3
  refine lv_goto (tgt := 18) hx hb d_Law_charge_11 (by decide) ?_
  refine lv_iconst (v := 0) hx hb d_Law_charge_18 (by decide) ?_
  exact hb_iret hAe hx hb hr hlocks hP hD hS (Nat.le_of_ble_eq_true rfl) (Nat.le_of_ble_eq_true rfl) (⟨rfl, M2, _, eM3, ho2, hPX, fun _ => rfl⟩) d_Law_charge_19
set_option maxHeartbeats 4000000 in
theorem h_charge_bad {l : Launch} {s0 : State} {D : va_G} {cI cJ cO : ClassId} {e0 mi : Nat} (hE : hb_E l s0 D cI cJ cO e0 mi) (Mx : hb_M) (x o : Nat) (fs : List Value) (g : Nat → Int64) (hx0 : Mx x = some (.inr (2, fs))) (ho : Mx o = none) (p0 : Int32) (p1 : Int64) (PX : hb_M → Prop) (rm : Room) (hrm : hb_rmo rm) (hT : hb_Thr l D hb_cl s0 y_Hb_charge b_Hb_charge 5 (some .int) rm [.ref x, .int p0, .long p1] Mx "java/lang/IllegalArgumentException") (hPX : PX Mx) : hb_MetW l D hb_cl s0 y_Law_charge b_Law_charge 6 (some .int) hh_charge hb_RH [.ref x, .int p0, .long p1, .ref o] (hb_jn Mx (hb_one o (jE cJ g))) (hb_HP cJ o 1 0 PX) := by
  refine hb_MetW.of (by decide) (Nat.le_of_ble_eq_true rfl) ?_
  intro p e s m below meth c A hAe hX hz hP hD hA hS ls hl
  obtain ⟨hx, hb, hr, hml, hown, hlocks, hG, htab⟩ := id hX
  obtain ⟨r1, r2, r3, r4⟩ := hrm
  have hown : s.vm.findClass "HoldBookLaw" = some m.cls := hown
  have hts := hE.ts hG ([.ref x, .int p0, .long p1, .ref o] : List Value).toArray
  have hK := hE.kn hG
  have hX2 : hb_Cy p s0 s m c "HoldBookLaw" b_Law_charge 6 := ⟨hx, hb, hml, hown, hG⟩
  have hdj : hb_dj Mx (hb_one o (jE cJ g)) := hb_dj_one.mpr ho
  have hl : lv_has ls 6 [(0, .ref x), (1, .int p0), (2, .long p1), (4, .ref o)] := hl
  refine lv_aload hx hb d_Law_charge_0 (lv_at hl 3 rfl) ?_
  refine lv_iconst (v := 0) hx hb d_Law_charge_2 (by decide) ?_
  refine lv_aload_n hx hb d_Law_charge_3 rfl (lv_at hl 0 rfl) ?_
  refine lv_iload_n hx hb d_Law_charge_4 rfl (lv_at hl 1 rfl) ?_
  refine lv_lload_n hx hb d_Law_charge_5 rfl (lv_at hl 2 rfl) ?_
  refine hb_catV (E := "java/lang/IllegalArgumentException") (name := "java/lang/IllegalArgumentException") (rest := [.int 0, .ref o]) hX2 hts hb_gd Y_Hb_charge (hT.frame hdj) ml_Law_32 im_Hb_charge se_Hb_charge hK (hb_jn_l hx0) hC_Hb.1 hz hP hD hS hA rfl hl.1 rfl (Nat.le_of_ble_eq_true rfl) ⟨by show rm.frames + 1 ≤ 10; omega, by show 8 + (5 + 11) + rm.locals ≤ 344; omega⟩ ⟨by show 0 + rm.cells ≤ 2; omega, by show 0 + rm.slots ≤ 120; omega⟩ d_Law_charge_6 [] (⟨0, 11, 14, 13⟩ : ExceptionTableEntry) [] htab (fun z hz => by simp at hz) (by decide) (by decide) (hts _ kl_Law_13) (hE.t2 hG _ (by decide)) (fun q0 H locs hP hS => ?_)
  refine W.widen (k := 2) (n := 120) (by omega) (by omega) ?_
  refine lv_astore (lv' := [(5, .ref q0), (0, .ref x), (1, .int p0), (2, .long p1), (4, .ref o)]) hx hb d_Law_charge_14 hl (by decide) rfl (fun ls hl => ?_)
  refine lv_iconst (v := 1) hx hb d_Law_charge_16 (by decide) ?_
  exact hb_iret hAe hx hb hr hlocks hP hD hS (Nat.le_of_ble_eq_true rfl) (Nat.le_of_ble_eq_true rfl) (⟨rfl, Mx, g, rfl, ho, hPX, fun z => absurd z (by decide)⟩) d_Law_charge_17
set_option maxHeartbeats 4000000 in
theorem h_represent_ok {l : Launch} {s0 : State} {D : va_G} {cI cJ cO : ClassId} {e0 mi : Nat} (hE : hb_E l s0 D cI cJ cO e0 mi) (Mx : hb_M) (x o : Nat) (fs : List Value) (g : Nat → Int64) (hx0 : Mx x = some (.inr (2, fs))) (ho : Mx o = none) (p0 : Int32) (PX : hb_M → Prop) (rm : Room) (hrm : hb_rmo rm) (z : Int32) (hM : hb_Met l D hb_cl s0 y_Hb_represent b_Hb_represent 3 (some .int) rm [.ref x, .int p0] Mx (fun v M1 => v = some (.int z) ∧ PX M1)) : hb_MetW l D hb_cl s0 y_Law_represent b_Law_represent 4 (some .int) hh_represent hb_RH [.ref x, .int p0, .ref o] (hb_jn Mx (hb_one o (jE cJ g))) (hb_HP cJ o 0 z.toInt64 PX) := by
  refine hb_MetW.of (by decide) (Nat.le_of_ble_eq_true rfl) ?_
  intro p e s m below meth c A hAe hX hz hP hD hA hS ls hl
  obtain ⟨hx, hb, hr, hml, hown, hlocks, hG, htab⟩ := id hX
  obtain ⟨r1, r2, r3, r4⟩ := hrm
  have hown : s.vm.findClass "HoldBookLaw" = some m.cls := hown
  have hts := hE.ts hG ([.ref x, .int p0, .ref o] : List Value).toArray
  have hK := hE.kn hG
  have hX2 : hb_Cy p s0 s m c "HoldBookLaw" b_Law_represent 4 := ⟨hx, hb, hml, hown, hG⟩
  have hdj : hb_dj Mx (hb_one o (jE cJ g)) := hb_dj_one.mpr ho
  have hl : lv_has ls 4 [(0, .ref x), (1, .int p0), (2, .ref o)] := hl
  refine lv_aload_n hx hb d_Law_represent_0 rfl (lv_at hl 2 rfl) ?_
  refine lv_iconst (v := 0) hx hb d_Law_represent_1 (by decide) ?_
  refine lv_aload_n hx hb d_Law_represent_2 rfl (lv_at hl 0 rfl) ?_
  refine lv_iload_n hx hb d_Law_represent_3 rfl (lv_at hl 1 rfl) ?_
  refine hb_lcV (rest := [.int 0, .ref o]) hX2 hts hb_gd Y_Hb_represent (hM.frame hdj) ml_Law_36 im_Hb_represent se_Hb_represent hK (hb_jn_l hx0) hC_Hb.1 hz hP hD hS hA rfl hl.1 rfl (Nat.le_of_ble_eq_true rfl) ⟨by show rm.frames + 1 ≤ 10; omega, by show 8 + (3 + 11) + rm.locals ≤ 344; omega⟩ ⟨by show 0 + rm.cells ≤ 2; omega, by show 0 + rm.slots ≤ 120; omega⟩ d_Law_represent_4 (fun v M1 H locs hq hP hD hS _ _ => ?_)
  refine W.widen (k := 2) (n := 120) (by omega) (by omega) ?_
  obtain ⟨M2, ⟨ev, hPX⟩, eM, hdj2⟩ := hq
  subst ev
  have ho2 := hb_dj_one.mp hdj2
  have fo : M1 o = some (jE cJ g) := by rw [eM, hb_jn_r ho2]; exact hb_one_at
  refine W.eq (g2 := F0 m 7 ls [.int z, .int 0, .ref o]) rfl ?_
  refine lv_i2l (v := z.toInt64) hx hb d_Law_represent_7 rfl ?_
  refine hb_last hx hb hK hP hD hS fo (show vp_in (nI 0) 1 from vp_in_nI (by omega) (by omega)) d_Law_represent_8 (fun M3 H locs eM3 hP hD hS => ?_)
  rw [eM, hb_up_jn ho2] at eM3
  refine lv_goto (tgt := 15) hx hb d_Law_represent_9 (by decide) ?_
  refine lv_iconst (v := 0) hx hb d_Law_represent_15 (by decide) ?_
  exact hb_iret hAe hx hb hr hlocks hP hD hS (Nat.le_of_ble_eq_true rfl) (Nat.le_of_ble_eq_true rfl) (⟨rfl, M2, _, eM3, ho2, hPX, fun _ => rfl⟩) d_Law_represent_16
set_option maxHeartbeats 4000000 in
theorem h_represent_bad {l : Launch} {s0 : State} {D : va_G} {cI cJ cO : ClassId} {e0 mi : Nat} (hE : hb_E l s0 D cI cJ cO e0 mi) (Mx : hb_M) (x o : Nat) (fs : List Value) (g : Nat → Int64) (hx0 : Mx x = some (.inr (2, fs))) (ho : Mx o = none) (p0 : Int32) (PX : hb_M → Prop) (rm : Room) (hrm : hb_rmo rm) (hT : hb_Thr l D hb_cl s0 y_Hb_represent b_Hb_represent 3 (some .int) rm [.ref x, .int p0] Mx "java/lang/IllegalArgumentException") (hPX : PX Mx) : hb_MetW l D hb_cl s0 y_Law_represent b_Law_represent 4 (some .int) hh_represent hb_RH [.ref x, .int p0, .ref o] (hb_jn Mx (hb_one o (jE cJ g))) (hb_HP cJ o 1 0 PX) := by
  refine hb_MetW.of (by decide) (Nat.le_of_ble_eq_true rfl) ?_
  intro p e s m below meth c A hAe hX hz hP hD hA hS ls hl
  obtain ⟨hx, hb, hr, hml, hown, hlocks, hG, htab⟩ := id hX
  obtain ⟨r1, r2, r3, r4⟩ := hrm
  have hown : s.vm.findClass "HoldBookLaw" = some m.cls := hown
  have hts := hE.ts hG ([.ref x, .int p0, .ref o] : List Value).toArray
  have hK := hE.kn hG
  have hX2 : hb_Cy p s0 s m c "HoldBookLaw" b_Law_represent 4 := ⟨hx, hb, hml, hown, hG⟩
  have hdj : hb_dj Mx (hb_one o (jE cJ g)) := hb_dj_one.mpr ho
  have hl : lv_has ls 4 [(0, .ref x), (1, .int p0), (2, .ref o)] := hl
  refine lv_aload_n hx hb d_Law_represent_0 rfl (lv_at hl 2 rfl) ?_
  refine lv_iconst (v := 0) hx hb d_Law_represent_1 (by decide) ?_
  refine lv_aload_n hx hb d_Law_represent_2 rfl (lv_at hl 0 rfl) ?_
  refine lv_iload_n hx hb d_Law_represent_3 rfl (lv_at hl 1 rfl) ?_
  refine hb_catV (E := "java/lang/IllegalArgumentException") (name := "java/lang/IllegalArgumentException") (rest := [.int 0, .ref o]) hX2 hts hb_gd Y_Hb_represent (hT.frame hdj) ml_Law_36 im_Hb_represent se_Hb_represent hK (hb_jn_l hx0) hC_Hb.1 hz hP hD hS hA rfl hl.1 rfl (Nat.le_of_ble_eq_true rfl) ⟨by show rm.frames + 1 ≤ 10; omega, by show 8 + (3 + 11) + rm.locals ≤ 344; omega⟩ ⟨by show 0 + rm.cells ≤ 2; omega, by show 0 + rm.slots ≤ 120; omega⟩ d_Law_represent_4 [] (⟨0, 9, 12, 13⟩ : ExceptionTableEntry) [] htab (fun z hz => by simp at hz) (by decide) (by decide) (hts _ kl_Law_13) (hE.t2 hG _ (by decide)) (fun q0 H locs hP hS => ?_)
  refine W.widen (k := 2) (n := 120) (by omega) (by omega) ?_
  refine lv_astore_n (lv' := [(3, .ref q0), (0, .ref x), (1, .int p0), (2, .ref o)]) hx hb d_Law_represent_12 rfl hl (by decide) rfl (fun ls hl => ?_)
  refine lv_iconst (v := 1) hx hb d_Law_represent_13 (by decide) ?_
  exact hb_iret hAe hx hb hr hlocks hP hD hS (Nat.le_of_ble_eq_true rfl) (Nat.le_of_ble_eq_true rfl) (⟨rfl, Mx, g, rfl, ho, hPX, fun z => absurd z (by decide)⟩) d_Law_represent_14
set_option maxHeartbeats 4000000 in
theorem h_decide_ok {l : Launch} {s0 : State} {D : va_G} {cI cJ cO : ClassId} {e0 mi : Nat} (hE : hb_E l s0 D cI cJ cO e0 mi) (Mx : hb_M) (x o : Nat) (fs : List Value) (g : Nat → Int64) (hx0 : Mx x = some (.inr (2, fs))) (ho : Mx o = none) (p0 : Int32) (p1 : Int32) (PX : hb_M → Prop) (rm : Room) (hrm : hb_rmo rm) (z : Int32) (hM : hb_Met l D hb_cl s0 y_Hb_decide b_Hb_decide 4 (some .int) rm [.ref x, .int p0, .int p1] Mx (fun v M1 => v = some (.int z) ∧ PX M1)) : hb_MetW l D hb_cl s0 y_Law_decide b_Law_decide 5 (some .int) hh_decide hb_RH [.ref x, .int p0, .int p1, .ref o] (hb_jn Mx (hb_one o (jE cJ g))) (hb_HP cJ o 0 z.toInt64 PX) := by
  refine hb_MetW.of (by decide) (Nat.le_of_ble_eq_true rfl) ?_
  intro p e s m below meth c A hAe hX hz hP hD hA hS ls hl
  obtain ⟨hx, hb, hr, hml, hown, hlocks, hG, htab⟩ := id hX
  obtain ⟨r1, r2, r3, r4⟩ := hrm
  have hown : s.vm.findClass "HoldBookLaw" = some m.cls := hown
  have hts := hE.ts hG ([.ref x, .int p0, .int p1, .ref o] : List Value).toArray
  have hK := hE.kn hG
  have hX2 : hb_Cy p s0 s m c "HoldBookLaw" b_Law_decide 5 := ⟨hx, hb, hml, hown, hG⟩
  have hdj : hb_dj Mx (hb_one o (jE cJ g)) := hb_dj_one.mpr ho
  have hl : lv_has ls 5 [(0, .ref x), (1, .int p0), (2, .int p1), (3, .ref o)] := hl
  refine lv_aload_n hx hb d_Law_decide_0 rfl (lv_at hl 3 rfl) ?_
  refine lv_iconst (v := 0) hx hb d_Law_decide_1 (by decide) ?_
  refine lv_aload_n hx hb d_Law_decide_2 rfl (lv_at hl 0 rfl) ?_
  refine lv_iload_n hx hb d_Law_decide_3 rfl (lv_at hl 1 rfl) ?_
  refine lv_iload_n hx hb d_Law_decide_4 rfl (lv_at hl 2 rfl) ?_
  refine hb_lcV (rest := [.int 0, .ref o]) hX2 hts hb_gd Y_Hb_decide (hM.frame hdj) ml_Law_39 im_Hb_decide se_Hb_decide hK (hb_jn_l hx0) hC_Hb.1 hz hP hD hS hA rfl hl.1 rfl (Nat.le_of_ble_eq_true rfl) ⟨by show rm.frames + 1 ≤ 10; omega, by show 8 + (4 + 11) + rm.locals ≤ 344; omega⟩ ⟨by show 0 + rm.cells ≤ 2; omega, by show 0 + rm.slots ≤ 120; omega⟩ d_Law_decide_5 (fun v M1 H locs hq hP hD hS _ _ => ?_)
  refine W.widen (k := 2) (n := 120) (by omega) (by omega) ?_
  obtain ⟨M2, ⟨ev, hPX⟩, eM, hdj2⟩ := hq
  subst ev
  have ho2 := hb_dj_one.mp hdj2
  have fo : M1 o = some (jE cJ g) := by rw [eM, hb_jn_r ho2]; exact hb_one_at
  refine W.eq (g2 := F0 m 8 ls [.int z, .int 0, .ref o]) rfl ?_
  refine lv_i2l (v := z.toInt64) hx hb d_Law_decide_8 rfl ?_
  refine hb_last hx hb hK hP hD hS fo (show vp_in (nI 0) 1 from vp_in_nI (by omega) (by omega)) d_Law_decide_9 (fun M3 H locs eM3 hP hD hS => ?_)
  rw [eM, hb_up_jn ho2] at eM3
  refine lv_goto (tgt := 17) hx hb d_Law_decide_10 (by decide) ?_
  refine lv_iconst (v := 0) hx hb d_Law_decide_17 (by decide) ?_
  exact hb_iret hAe hx hb hr hlocks hP hD hS (Nat.le_of_ble_eq_true rfl) (Nat.le_of_ble_eq_true rfl) (⟨rfl, M2, _, eM3, ho2, hPX, fun _ => rfl⟩) d_Law_decide_18
set_option maxHeartbeats 4000000 in
theorem h_decide_bad {l : Launch} {s0 : State} {D : va_G} {cI cJ cO : ClassId} {e0 mi : Nat} (hE : hb_E l s0 D cI cJ cO e0 mi) (Mx : hb_M) (x o : Nat) (fs : List Value) (g : Nat → Int64) (hx0 : Mx x = some (.inr (2, fs))) (ho : Mx o = none) (p0 : Int32) (p1 : Int32) (PX : hb_M → Prop) (rm : Room) (hrm : hb_rmo rm) (hT : hb_Thr l D hb_cl s0 y_Hb_decide b_Hb_decide 4 (some .int) rm [.ref x, .int p0, .int p1] Mx "java/lang/IllegalArgumentException") (hPX : PX Mx) : hb_MetW l D hb_cl s0 y_Law_decide b_Law_decide 5 (some .int) hh_decide hb_RH [.ref x, .int p0, .int p1, .ref o] (hb_jn Mx (hb_one o (jE cJ g))) (hb_HP cJ o 1 0 PX) := by
  refine hb_MetW.of (by decide) (Nat.le_of_ble_eq_true rfl) ?_
  intro p e s m below meth c A hAe hX hz hP hD hA hS ls hl
  obtain ⟨hx, hb, hr, hml, hown, hlocks, hG, htab⟩ := id hX
  obtain ⟨r1, r2, r3, r4⟩ := hrm
  have hown : s.vm.findClass "HoldBookLaw" = some m.cls := hown
  have hts := hE.ts hG ([.ref x, .int p0, .int p1, .ref o] : List Value).toArray
  have hK := hE.kn hG
  have hX2 : hb_Cy p s0 s m c "HoldBookLaw" b_Law_decide 5 := ⟨hx, hb, hml, hown, hG⟩
  have hdj : hb_dj Mx (hb_one o (jE cJ g)) := hb_dj_one.mpr ho
  have hl : lv_has ls 5 [(0, .ref x), (1, .int p0), (2, .int p1), (3, .ref o)] := hl
  refine lv_aload_n hx hb d_Law_decide_0 rfl (lv_at hl 3 rfl) ?_
  refine lv_iconst (v := 0) hx hb d_Law_decide_1 (by decide) ?_
  refine lv_aload_n hx hb d_Law_decide_2 rfl (lv_at hl 0 rfl) ?_
  refine lv_iload_n hx hb d_Law_decide_3 rfl (lv_at hl 1 rfl) ?_
  refine lv_iload_n hx hb d_Law_decide_4 rfl (lv_at hl 2 rfl) ?_
  refine hb_catV (E := "java/lang/IllegalArgumentException") (name := "java/lang/IllegalArgumentException") (rest := [.int 0, .ref o]) hX2 hts hb_gd Y_Hb_decide (hT.frame hdj) ml_Law_39 im_Hb_decide se_Hb_decide hK (hb_jn_l hx0) hC_Hb.1 hz hP hD hS hA rfl hl.1 rfl (Nat.le_of_ble_eq_true rfl) ⟨by show rm.frames + 1 ≤ 10; omega, by show 8 + (4 + 11) + rm.locals ≤ 344; omega⟩ ⟨by show 0 + rm.cells ≤ 2; omega, by show 0 + rm.slots ≤ 120; omega⟩ d_Law_decide_5 [] (⟨0, 10, 13, 13⟩ : ExceptionTableEntry) [] htab (fun z hz => by simp at hz) (by decide) (by decide) (hts _ kl_Law_13) (hE.t2 hG _ (by decide)) (fun q0 H locs hP hS => ?_)
  refine W.widen (k := 2) (n := 120) (by omega) (by omega) ?_
  refine lv_astore (lv' := [(4, .ref q0), (0, .ref x), (1, .int p0), (2, .int p1), (3, .ref o)]) hx hb d_Law_decide_13 hl (by decide) rfl (fun ls hl => ?_)
  refine lv_iconst (v := 1) hx hb d_Law_decide_15 (by decide) ?_
  exact hb_iret hAe hx hb hr hlocks hP hD hS (Nat.le_of_ble_eq_true rfl) (Nat.le_of_ble_eq_true rfl) (⟨rfl, Mx, g, rfl, ho, hPX, fun z => absurd z (by decide)⟩) d_Law_decide_16
set_option maxHeartbeats 4000000 in
theorem h_funds_ok {l : Launch} {s0 : State} {D : va_G} {cI cJ cO : ClassId} {e0 mi : Nat} (hE : hb_E l s0 D cI cJ cO e0 mi) (Mx : hb_M) (x o : Nat) (fs : List Value) (g : Nat → Int64) (hx0 : Mx x = some (.inr (2, fs))) (ho : Mx o = none) (p0 : Int32) (p1 : Int32) (PX : hb_M → Prop) (rm : Room) (hrm : hb_rmo rm) (z : Int64) (hM : hb_Met l D hb_cl s0 y_Hb_funds b_Hb_funds 3 (some .long) rm [.ref x, .int p0, .int p1] Mx (fun v M1 => v = some (.long z) ∧ PX M1)) : hb_MetW l D hb_cl s0 y_Law_funds b_Law_funds 5 (some .int) hh_funds hb_RH [.ref x, .int p0, .int p1, .ref o] (hb_jn Mx (hb_one o (jE cJ g))) (hb_HP cJ o 0 z PX) := by
  refine hb_MetW.of (by decide) (Nat.le_of_ble_eq_true rfl) ?_
  intro p e s m below meth c A hAe hX hz hP hD hA hS ls hl
  obtain ⟨hx, hb, hr, hml, hown, hlocks, hG, htab⟩ := id hX
  obtain ⟨r1, r2, r3, r4⟩ := hrm
  have hown : s.vm.findClass "HoldBookLaw" = some m.cls := hown
  have hts := hE.ts hG ([.ref x, .int p0, .int p1, .ref o] : List Value).toArray
  have hK := hE.kn hG
  have hX2 : hb_Cy p s0 s m c "HoldBookLaw" b_Law_funds 5 := ⟨hx, hb, hml, hown, hG⟩
  have hdj : hb_dj Mx (hb_one o (jE cJ g)) := hb_dj_one.mpr ho
  have hl : lv_has ls 5 [(0, .ref x), (1, .int p0), (2, .int p1), (3, .ref o)] := hl
  refine lv_aload_n hx hb d_Law_funds_0 rfl (lv_at hl 3 rfl) ?_
  refine lv_iconst (v := 0) hx hb d_Law_funds_1 (by decide) ?_
  refine lv_aload_n hx hb d_Law_funds_2 rfl (lv_at hl 0 rfl) ?_
  refine lv_iload_n hx hb d_Law_funds_3 rfl (lv_at hl 1 rfl) ?_
  refine lv_iload_n hx hb d_Law_funds_4 rfl (lv_at hl 2 rfl) ?_
  refine hb_lcV (rest := [.int 0, .ref o]) hX2 hts hb_gd Y_Hb_funds (hM.frame hdj) ml_Law_43 im_Hb_funds se_Hb_funds hK (hb_jn_l hx0) hC_Hb.1 hz hP hD hS hA rfl hl.1 rfl (Nat.le_of_ble_eq_true rfl) ⟨by show rm.frames + 1 ≤ 10; omega, by show 8 + (3 + 11) + rm.locals ≤ 344; omega⟩ ⟨by show 0 + rm.cells ≤ 2; omega, by show 0 + rm.slots ≤ 120; omega⟩ d_Law_funds_5 (fun v M1 H locs hq hP hD hS _ _ => ?_)
  refine W.widen (k := 2) (n := 120) (by omega) (by omega) ?_
  obtain ⟨M2, ⟨ev, hPX⟩, eM, hdj2⟩ := hq
  subst ev
  have ho2 := hb_dj_one.mp hdj2
  have fo : M1 o = some (jE cJ g) := by rw [eM, hb_jn_r ho2]; exact hb_one_at
  refine W.eq (g2 := F0 m 8 ls [.long z, .int 0, .ref o]) rfl ?_
  refine hb_last hx hb hK hP hD hS fo (show vp_in (nI 0) 1 from vp_in_nI (by omega) (by omega)) d_Law_funds_8 (fun M3 H locs eM3 hP hD hS => ?_)
  rw [eM, hb_up_jn ho2] at eM3
  refine lv_goto (tgt := 16) hx hb d_Law_funds_9 (by decide) ?_
  refine lv_iconst (v := 0) hx hb d_Law_funds_16 (by decide) ?_
  exact hb_iret hAe hx hb hr hlocks hP hD hS (Nat.le_of_ble_eq_true rfl) (Nat.le_of_ble_eq_true rfl) (⟨rfl, M2, _, eM3, ho2, hPX, fun _ => rfl⟩) d_Law_funds_17
set_option maxHeartbeats 4000000 in
theorem h_funds_bad {l : Launch} {s0 : State} {D : va_G} {cI cJ cO : ClassId} {e0 mi : Nat} (hE : hb_E l s0 D cI cJ cO e0 mi) (Mx : hb_M) (x o : Nat) (fs : List Value) (g : Nat → Int64) (hx0 : Mx x = some (.inr (2, fs))) (ho : Mx o = none) (p0 : Int32) (p1 : Int32) (PX : hb_M → Prop) (rm : Room) (hrm : hb_rmo rm) (hT : hb_Thr l D hb_cl s0 y_Hb_funds b_Hb_funds 3 (some .long) rm [.ref x, .int p0, .int p1] Mx "java/lang/IllegalArgumentException") (hPX : PX Mx) : hb_MetW l D hb_cl s0 y_Law_funds b_Law_funds 5 (some .int) hh_funds hb_RH [.ref x, .int p0, .int p1, .ref o] (hb_jn Mx (hb_one o (jE cJ g))) (hb_HP cJ o 1 0 PX) := by
  refine hb_MetW.of (by decide) (Nat.le_of_ble_eq_true rfl) ?_
  intro p e s m below meth c A hAe hX hz hP hD hA hS ls hl
  obtain ⟨hx, hb, hr, hml, hown, hlocks, hG, htab⟩ := id hX
  obtain ⟨r1, r2, r3, r4⟩ := hrm
  have hown : s.vm.findClass "HoldBookLaw" = some m.cls := hown
  have hts := hE.ts hG ([.ref x, .int p0, .int p1, .ref o] : List Value).toArray
  have hK := hE.kn hG
  have hX2 : hb_Cy p s0 s m c "HoldBookLaw" b_Law_funds 5 := ⟨hx, hb, hml, hown, hG⟩
  have hdj : hb_dj Mx (hb_one o (jE cJ g)) := hb_dj_one.mpr ho
  have hl : lv_has ls 5 [(0, .ref x), (1, .int p0), (2, .int p1), (3, .ref o)] := hl
  refine lv_aload_n hx hb d_Law_funds_0 rfl (lv_at hl 3 rfl) ?_
  refine lv_iconst (v := 0) hx hb d_Law_funds_1 (by decide) ?_
  refine lv_aload_n hx hb d_Law_funds_2 rfl (lv_at hl 0 rfl) ?_
  refine lv_iload_n hx hb d_Law_funds_3 rfl (lv_at hl 1 rfl) ?_
  refine lv_iload_n hx hb d_Law_funds_4 rfl (lv_at hl 2 rfl) ?_
  refine hb_catV (E := "java/lang/IllegalArgumentException") (name := "java/lang/IllegalArgumentException") (rest := [.int 0, .ref o]) hX2 hts hb_gd Y_Hb_funds (hT.frame hdj) ml_Law_43 im_Hb_funds se_Hb_funds hK (hb_jn_l hx0) hC_Hb.1 hz hP hD hS hA rfl hl.1 rfl (Nat.le_of_ble_eq_true rfl) ⟨by show rm.frames + 1 ≤ 10; omega, by show 8 + (3 + 11) + rm.locals ≤ 344; omega⟩ ⟨by show 0 + rm.cells ≤ 2; omega, by show 0 + rm.slots ≤ 120; omega⟩ d_Law_funds_5 [] (⟨0, 9, 12, 13⟩ : ExceptionTableEntry) [] htab (fun z hz => by simp at hz) (by decide) (by decide) (hts _ kl_Law_13) (hE.t2 hG _ (by decide)) (fun q0 H locs hP hS => ?_)
  refine W.widen (k := 2) (n := 120) (by omega) (by omega) ?_
  refine lv_astore (lv' := [(4, .ref q0), (0, .ref x), (1, .int p0), (2, .int p1), (3, .ref o)]) hx hb d_Law_funds_12 hl (by decide) rfl (fun ls hl => ?_)
  refine lv_iconst (v := 1) hx hb d_Law_funds_14 (by decide) ?_
  exact hb_iret hAe hx hb hr hlocks hP hD hS (Nat.le_of_ble_eq_true rfl) (Nat.le_of_ble_eq_true rfl) (⟨rfl, Mx, g, rfl, ho, hPX, fun z => absurd z (by decide)⟩) d_Law_funds_15
set_option maxHeartbeats 4000000 in
theorem h_payment_ok {l : Launch} {s0 : State} {D : va_G} {cI cJ cO : ClassId} {e0 mi : Nat} (hE : hb_E l s0 D cI cJ cO e0 mi) (Mx : hb_M) (x o : Nat) (fs : List Value) (g : Nat → Int64) (hx0 : Mx x = some (.inr (2, fs))) (ho : Mx o = none) (p0 : Int32) (p1 : Int32) (PX : hb_M → Prop) (rm : Room) (hrm : hb_rmo rm) (z : Int64) (hM : hb_Met l D hb_cl s0 y_Hb_payment b_Hb_payment 4 (some .long) rm [.ref x, .int p0, .int p1] Mx (fun v M1 => v = some (.long z) ∧ PX M1)) : hb_MetW l D hb_cl s0 y_Law_payment b_Law_payment 5 (some .int) hh_payment hb_RH [.ref x, .int p0, .int p1, .ref o] (hb_jn Mx (hb_one o (jE cJ g))) (hb_HP cJ o 0 z PX) := by
  refine hb_MetW.of (by decide) (Nat.le_of_ble_eq_true rfl) ?_
  intro p e s m below meth c A hAe hX hz hP hD hA hS ls hl
  obtain ⟨hx, hb, hr, hml, hown, hlocks, hG, htab⟩ := id hX
  obtain ⟨r1, r2, r3, r4⟩ := hrm
  have hown : s.vm.findClass "HoldBookLaw" = some m.cls := hown
  have hts := hE.ts hG ([.ref x, .int p0, .int p1, .ref o] : List Value).toArray
  have hK := hE.kn hG
  have hX2 : hb_Cy p s0 s m c "HoldBookLaw" b_Law_payment 5 := ⟨hx, hb, hml, hown, hG⟩
  have hdj : hb_dj Mx (hb_one o (jE cJ g)) := hb_dj_one.mpr ho
  have hl : lv_has ls 5 [(0, .ref x), (1, .int p0), (2, .int p1), (3, .ref o)] := hl
  refine lv_aload_n hx hb d_Law_payment_0 rfl (lv_at hl 3 rfl) ?_
  refine lv_iconst (v := 0) hx hb d_Law_payment_1 (by decide) ?_
  refine lv_aload_n hx hb d_Law_payment_2 rfl (lv_at hl 0 rfl) ?_
  refine lv_iload_n hx hb d_Law_payment_3 rfl (lv_at hl 1 rfl) ?_
  refine lv_iload_n hx hb d_Law_payment_4 rfl (lv_at hl 2 rfl) ?_
  refine hb_lcV (rest := [.int 0, .ref o]) hX2 hts hb_gd Y_Hb_payment (hM.frame hdj) ml_Law_47 im_Hb_payment se_Hb_payment hK (hb_jn_l hx0) hC_Hb.1 hz hP hD hS hA rfl hl.1 rfl (Nat.le_of_ble_eq_true rfl) ⟨by show rm.frames + 1 ≤ 10; omega, by show 8 + (4 + 11) + rm.locals ≤ 344; omega⟩ ⟨by show 0 + rm.cells ≤ 2; omega, by show 0 + rm.slots ≤ 120; omega⟩ d_Law_payment_5 (fun v M1 H locs hq hP hD hS _ _ => ?_)
  refine W.widen (k := 2) (n := 120) (by omega) (by omega) ?_
  obtain ⟨M2, ⟨ev, hPX⟩, eM, hdj2⟩ := hq
  subst ev
  have ho2 := hb_dj_one.mp hdj2
  have fo : M1 o = some (jE cJ g) := by rw [eM, hb_jn_r ho2]; exact hb_one_at
  refine W.eq (g2 := F0 m 8 ls [.long z, .int 0, .ref o]) rfl ?_
  refine hb_last hx hb hK hP hD hS fo (show vp_in (nI 0) 1 from vp_in_nI (by omega) (by omega)) d_Law_payment_8 (fun M3 H locs eM3 hP hD hS => ?_)
  rw [eM, hb_up_jn ho2] at eM3
  refine lv_goto (tgt := 16) hx hb d_Law_payment_9 (by decide) ?_
  refine lv_iconst (v := 0) hx hb d_Law_payment_16 (by decide) ?_
  exact hb_iret hAe hx hb hr hlocks hP hD hS (Nat.le_of_ble_eq_true rfl) (Nat.le_of_ble_eq_true rfl) (⟨rfl, M2, _, eM3, ho2, hPX, fun _ => rfl⟩) d_Law_payment_17
set_option maxHeartbeats 4000000 in
theorem h_payment_bad {l : Launch} {s0 : State} {D : va_G} {cI cJ cO : ClassId} {e0 mi : Nat} (hE : hb_E l s0 D cI cJ cO e0 mi) (Mx : hb_M) (x o : Nat) (fs : List Value) (g : Nat → Int64) (hx0 : Mx x = some (.inr (2, fs))) (ho : Mx o = none) (p0 : Int32) (p1 : Int32) (PX : hb_M → Prop) (rm : Room) (hrm : hb_rmo rm) (hT : hb_Thr l D hb_cl s0 y_Hb_payment b_Hb_payment 4 (some .long) rm [.ref x, .int p0, .int p1] Mx "java/lang/IllegalArgumentException") (hPX : PX Mx) : hb_MetW l D hb_cl s0 y_Law_payment b_Law_payment 5 (some .int) hh_payment hb_RH [.ref x, .int p0, .int p1, .ref o] (hb_jn Mx (hb_one o (jE cJ g))) (hb_HP cJ o 1 0 PX) := by
  refine hb_MetW.of (by decide) (Nat.le_of_ble_eq_true rfl) ?_
  intro p e s m below meth c A hAe hX hz hP hD hA hS ls hl
  obtain ⟨hx, hb, hr, hml, hown, hlocks, hG, htab⟩ := id hX
  obtain ⟨r1, r2, r3, r4⟩ := hrm
  have hown : s.vm.findClass "HoldBookLaw" = some m.cls := hown
  have hts := hE.ts hG ([.ref x, .int p0, .int p1, .ref o] : List Value).toArray
  have hK := hE.kn hG
  have hX2 : hb_Cy p s0 s m c "HoldBookLaw" b_Law_payment 5 := ⟨hx, hb, hml, hown, hG⟩
  have hdj : hb_dj Mx (hb_one o (jE cJ g)) := hb_dj_one.mpr ho
  have hl : lv_has ls 5 [(0, .ref x), (1, .int p0), (2, .int p1), (3, .ref o)] := hl
  refine lv_aload_n hx hb d_Law_payment_0 rfl (lv_at hl 3 rfl) ?_
  refine lv_iconst (v := 0) hx hb d_Law_payment_1 (by decide) ?_
  refine lv_aload_n hx hb d_Law_payment_2 rfl (lv_at hl 0 rfl) ?_
  refine lv_iload_n hx hb d_Law_payment_3 rfl (lv_at hl 1 rfl) ?_
  refine lv_iload_n hx hb d_Law_payment_4 rfl (lv_at hl 2 rfl) ?_
  refine hb_catV (E := "java/lang/IllegalArgumentException") (name := "java/lang/IllegalArgumentException") (rest := [.int 0, .ref o]) hX2 hts hb_gd Y_Hb_payment (hT.frame hdj) ml_Law_47 im_Hb_payment se_Hb_payment hK (hb_jn_l hx0) hC_Hb.1 hz hP hD hS hA rfl hl.1 rfl (Nat.le_of_ble_eq_true rfl) ⟨by show rm.frames + 1 ≤ 10; omega, by show 8 + (4 + 11) + rm.locals ≤ 344; omega⟩ ⟨by show 0 + rm.cells ≤ 2; omega, by show 0 + rm.slots ≤ 120; omega⟩ d_Law_payment_5 [] (⟨0, 9, 12, 13⟩ : ExceptionTableEntry) [] htab (fun z hz => by simp at hz) (by decide) (by decide) (hts _ kl_Law_13) (hE.t2 hG _ (by decide)) (fun q0 H locs hP hS => ?_)
  refine W.widen (k := 2) (n := 120) (by omega) (by omega) ?_
  refine lv_astore (lv' := [(4, .ref q0), (0, .ref x), (1, .int p0), (2, .int p1), (3, .ref o)]) hx hb d_Law_payment_12 hl (by decide) rfl (fun ls hl => ?_)
  refine lv_iconst (v := 1) hx hb d_Law_payment_14 (by decide) ?_
  exact hb_iret hAe hx hb hr hlocks hP hD hS (Nat.le_of_ble_eq_true rfl) (Nat.le_of_ble_eq_true rfl) (⟨rfl, Mx, g, rfl, ho, hPX, fun z => absurd z (by decide)⟩) d_Law_payment_15
set_option maxHeartbeats 4000000 in
theorem h_key_ok {l : Launch} {s0 : State} {D : va_G} {cI cJ cO : ClassId} {e0 mi : Nat} (hE : hb_E l s0 D cI cJ cO e0 mi) (Mx : hb_M) (x o : Nat) (fs : List Value) (g : Nat → Int64) (hx0 : Mx x = some (.inr (2, fs))) (ho : Mx o = none) (p0 : Int32) (PX : hb_M → Prop) (rm : Room) (hrm : hb_rmo rm) (z : Int32) (hM : hb_Met l D hb_cl s0 y_Hb_key b_Hb_key 2 (some .int) rm [.ref x, .int p0] Mx (fun v M1 => v = some (.int z) ∧ PX M1)) : hb_MetW l D hb_cl s0 y_Law_key b_Law_key 4 (some .int) hh_key hb_RH [.ref x, .int p0, .ref o] (hb_jn Mx (hb_one o (jE cJ g))) (hb_HP cJ o 0 z.toInt64 PX) := by
  refine hb_MetW.of (by decide) (Nat.le_of_ble_eq_true rfl) ?_
  intro p e s m below meth c A hAe hX hz hP hD hA hS ls hl
  obtain ⟨hx, hb, hr, hml, hown, hlocks, hG, htab⟩ := id hX
  obtain ⟨r1, r2, r3, r4⟩ := hrm
  have hown : s.vm.findClass "HoldBookLaw" = some m.cls := hown
  have hts := hE.ts hG ([.ref x, .int p0, .ref o] : List Value).toArray
  have hK := hE.kn hG
  have hX2 : hb_Cy p s0 s m c "HoldBookLaw" b_Law_key 4 := ⟨hx, hb, hml, hown, hG⟩
  have hdj : hb_dj Mx (hb_one o (jE cJ g)) := hb_dj_one.mpr ho
  have hl : lv_has ls 4 [(0, .ref x), (1, .int p0), (2, .ref o)] := hl
  refine lv_aload_n hx hb d_Law_key_0 rfl (lv_at hl 2 rfl) ?_
  refine lv_iconst (v := 0) hx hb d_Law_key_1 (by decide) ?_
  refine lv_aload_n hx hb d_Law_key_2 rfl (lv_at hl 0 rfl) ?_
  refine lv_iload_n hx hb d_Law_key_3 rfl (lv_at hl 1 rfl) ?_
  refine hb_lcV (rest := [.int 0, .ref o]) hX2 hts hb_gd Y_Hb_key (hM.frame hdj) ml_Law_50 im_Hb_key se_Hb_key hK (hb_jn_l hx0) hC_Hb.1 hz hP hD hS hA rfl hl.1 rfl (Nat.le_of_ble_eq_true rfl) ⟨by show rm.frames + 1 ≤ 10; omega, by show 8 + (2 + 11) + rm.locals ≤ 344; omega⟩ ⟨by show 0 + rm.cells ≤ 2; omega, by show 0 + rm.slots ≤ 120; omega⟩ d_Law_key_4 (fun v M1 H locs hq hP hD hS _ _ => ?_)
  refine W.widen (k := 2) (n := 120) (by omega) (by omega) ?_
  obtain ⟨M2, ⟨ev, hPX⟩, eM, hdj2⟩ := hq
  subst ev
  have ho2 := hb_dj_one.mp hdj2
  have fo : M1 o = some (jE cJ g) := by rw [eM, hb_jn_r ho2]; exact hb_one_at
  refine W.eq (g2 := F0 m 7 ls [.int z, .int 0, .ref o]) rfl ?_
  refine lv_i2l (v := z.toInt64) hx hb d_Law_key_7 rfl ?_
  refine hb_last hx hb hK hP hD hS fo (show vp_in (nI 0) 1 from vp_in_nI (by omega) (by omega)) d_Law_key_8 (fun M3 H locs eM3 hP hD hS => ?_)
  rw [eM, hb_up_jn ho2] at eM3
  refine lv_goto (tgt := 15) hx hb d_Law_key_9 (by decide) ?_
  refine lv_iconst (v := 0) hx hb d_Law_key_15 (by decide) ?_
  exact hb_iret hAe hx hb hr hlocks hP hD hS (Nat.le_of_ble_eq_true rfl) (Nat.le_of_ble_eq_true rfl) (⟨rfl, M2, _, eM3, ho2, hPX, fun _ => rfl⟩) d_Law_key_16
set_option maxHeartbeats 4000000 in
theorem h_key_bad {l : Launch} {s0 : State} {D : va_G} {cI cJ cO : ClassId} {e0 mi : Nat} (hE : hb_E l s0 D cI cJ cO e0 mi) (Mx : hb_M) (x o : Nat) (fs : List Value) (g : Nat → Int64) (hx0 : Mx x = some (.inr (2, fs))) (ho : Mx o = none) (p0 : Int32) (PX : hb_M → Prop) (rm : Room) (hrm : hb_rmo rm) (hT : hb_Thr l D hb_cl s0 y_Hb_key b_Hb_key 2 (some .int) rm [.ref x, .int p0] Mx "java/lang/IllegalArgumentException") (hPX : PX Mx) : hb_MetW l D hb_cl s0 y_Law_key b_Law_key 4 (some .int) hh_key hb_RH [.ref x, .int p0, .ref o] (hb_jn Mx (hb_one o (jE cJ g))) (hb_HP cJ o 1 0 PX) := by
  refine hb_MetW.of (by decide) (Nat.le_of_ble_eq_true rfl) ?_
  intro p e s m below meth c A hAe hX hz hP hD hA hS ls hl
  obtain ⟨hx, hb, hr, hml, hown, hlocks, hG, htab⟩ := id hX
  obtain ⟨r1, r2, r3, r4⟩ := hrm
  have hown : s.vm.findClass "HoldBookLaw" = some m.cls := hown
  have hts := hE.ts hG ([.ref x, .int p0, .ref o] : List Value).toArray
  have hK := hE.kn hG
  have hX2 : hb_Cy p s0 s m c "HoldBookLaw" b_Law_key 4 := ⟨hx, hb, hml, hown, hG⟩
  have hdj : hb_dj Mx (hb_one o (jE cJ g)) := hb_dj_one.mpr ho
  have hl : lv_has ls 4 [(0, .ref x), (1, .int p0), (2, .ref o)] := hl
  refine lv_aload_n hx hb d_Law_key_0 rfl (lv_at hl 2 rfl) ?_
  refine lv_iconst (v := 0) hx hb d_Law_key_1 (by decide) ?_
  refine lv_aload_n hx hb d_Law_key_2 rfl (lv_at hl 0 rfl) ?_
  refine lv_iload_n hx hb d_Law_key_3 rfl (lv_at hl 1 rfl) ?_
  refine hb_catV (E := "java/lang/IllegalArgumentException") (name := "java/lang/IllegalArgumentException") (rest := [.int 0, .ref o]) hX2 hts hb_gd Y_Hb_key (hT.frame hdj) ml_Law_50 im_Hb_key se_Hb_key hK (hb_jn_l hx0) hC_Hb.1 hz hP hD hS hA rfl hl.1 rfl (Nat.le_of_ble_eq_true rfl) ⟨by show rm.frames + 1 ≤ 10; omega, by show 8 + (2 + 11) + rm.locals ≤ 344; omega⟩ ⟨by show 0 + rm.cells ≤ 2; omega, by show 0 + rm.slots ≤ 120; omega⟩ d_Law_key_4 [] (⟨0, 9, 12, 13⟩ : ExceptionTableEntry) [] htab (fun z hz => by simp at hz) (by decide) (by decide) (hts _ kl_Law_13) (hE.t2 hG _ (by decide)) (fun q0 H locs hP hS => ?_)
  refine W.widen (k := 2) (n := 120) (by omega) (by omega) ?_
  refine lv_astore_n (lv' := [(3, .ref q0), (0, .ref x), (1, .int p0), (2, .ref o)]) hx hb d_Law_key_12 rfl hl (by decide) rfl (fun ls hl => ?_)
  refine lv_iconst (v := 1) hx hb d_Law_key_13 (by decide) ?_
  exact hb_iret hAe hx hb hr hlocks hP hD hS (Nat.le_of_ble_eq_true rfl) (Nat.le_of_ble_eq_true rfl) (⟨rfl, Mx, g, rfl, ho, hPX, fun z => absurd z (by decide)⟩) d_Law_key_14
