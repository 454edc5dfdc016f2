/-! SUMS over the payments of an account; the account of a payment -/
def hb_sm (f : Nat → Int64) : Nat → Int64
  | 0 => 0
  | j + 1 => hb_sm f j + f j
def hb_fh (Py : List (Nat × hbY)) (n : Int32) (j : Nat) : Int64 := match Py[j]? with
  | some q => if q.2.2.1 = n then q.2.2.2.2.1 else 0
  | none => 0
def hb_fl (Py : List (Nat × hbY)) (n : Int32) (j : Nat) : Int64 := match Py[j]? with
  | some q => if q.2.2.1 = n then (if q.2.2.2.2.2.2.2.2.1 = 1 ∨ q.2.2.2.2.2.2.2.2.1 = 2 then q.2.2.2.2.2.2.2.2.2.1 else 0) else 0
  | none => 0
theorem hb_fh_at {Py : List (Nat × hbY)} {n : Int32} {j q : Nat} {r : hbY} (h : Py[j]? = some (q, r)) : hb_fh Py n j = if r.2.1 = n then r.2.2.2.1 else 0 := by
  unfold hb_fh
  rw [h]
theorem hb_fl_at {Py : List (Nat × hbY)} {n : Int32} {j q : Nat} {r : hbY} (h : Py[j]? = some (q, r)) : hb_fl Py n j = if r.2.1 = n then (if r.2.2.2.2.2.2.2.1 = 1 ∨ r.2.2.2.2.2.2.2.1 = 2 then r.2.2.2.2.2.2.2.2.1 else 0) else 0 := by
  unfold hb_fl
  rw [h]
theorem hb_add0 (x : Int64) : x + 0 = x := by simp
theorem cR.acE {cO : ClassId} {e0 : Nat} {M : hb_M} {x la lp nb ra rp : Nat} {ho pa tm : Int32} {Ac : List (Nat × hbA)} {Py : List (Nat × hbY)} (h : cR cO e0 M x la lp nb ra rp ho pa tm Ac Py) (hk : cOK Ac Py) {i q : Nat} {r : hbY} (hi : Py[i]? = some (q, r)) : ∃ s, M (hb_acc nb Ac r.2.1) = some (aE r.2.1 s) := by
  rcases hk.2.2.2 (q, r) (List.mem_of_getElem? hi) with h1 | ⟨k, hl, h1⟩
  · have h2 : r.2.1 = -1 := h1
    rw [h2]
    exact ⟨_, by rw [show hb_acc nb Ac (-1) = nb from if_pos rfl]; exact h.2.2.2.2.2.2.1⟩
  · have h2 : r.2.1 = nI k := h1
    obtain ⟨a, s, ha⟩ := hb_get2 hl
    have := hk.1
    rw [h2, hb_acc_nI (by omega) ha]
    exact ⟨s, h.ac ha⟩
