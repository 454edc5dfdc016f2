/-! THE CLASS'S STATE: a new account; pure conditions -/
theorem hb_acc_app {nb : Nat} {Ac : List (Nat × hbA)} {q : Nat × hbA} {z : Int32} (h : z = -1 ∨ ∃ k, k < Ac.length ∧ z = nI k) (hl : Ac.length ≤ 16) : hb_acc nb (Ac ++ [q]) z = hb_acc nb Ac z := by
  rcases h with h | ⟨k, hk, rfl⟩
  · unfold hb_acc
    rw [if_pos h, if_pos h]
  · obtain ⟨a, r, ha⟩ := hb_get2 hk
    rw [hb_acc_nI (by omega) ha, hb_acc_nI (by omega) (by rw [List.getElem?_append_left hk]; exact ha)]
theorem cR.insA {cO : ClassId} {e0 : Nat} {M M1 : hb_M} {x la lp nb ra rp : Nat} {ho pa tm : Int32} {Ac : List (Nat × hbA)} {Py : List (Nat × hbY)} (h : cR cO e0 M x la lp nb ra rp ho pa tm Ac Py) (hk : cOK Ac Py) {a0 ra1 : Nat} {r : hbA} (fp : M a0 = some (aE (nI Ac.length) r)) (hl : hb_lst cO e0 M1 la ra1 ((Ac.map Prod.fst).insertIdx (Ac.map Prod.fst).length a0)) (hr : ra1 = ra ∨ M ra1 = none) (kp : hb_kp [la, ra] M M1) (m0 : M1 e0 = none) : cR cO e0 M1 x la lp nb ra1 rp ho pa tm (Ac ++ [(a0, r)]) Py := by
  have hne := h.2.2.2.1
  have e1 : (Ac ++ [(a0, r)]).map Prod.fst = (Ac.map Prod.fst).insertIdx (Ac.map Prod.fst).length a0 := by
    rw [List.insertIdx_length_self, List.map_append]
    rfl
  refine ⟨h.kpl h.2.1 kp h.1 (by decide), by rw [e1]; exact hl, ?_, hne, ?_, m0, h.kpl h.2.1 kp h.2.2.2.2.2.2.1 (by decide), ?_, ?_⟩
  · obtain ⟨md, h1, h2⟩ := h.2.1
    refine h.2.2.1.kp kp (fun fs hf => hb_n2 (fun z => hne z.symm) (fun z => ?_)) (fun y hf => hb_n2 (fun z => ?_) (fun z => ?_))
    · rcases h2 with ⟨h2, -⟩ | ⟨cap, f, h3, -⟩
      · rw [z, h2, h.2.2.2.2.2.1] at hf; cases hf
      · rw [z, h3] at hf; cases hf
    · rw [z, h1] at hf; cases hf
    · have := h.2.2.2.2.1 z.symm
      rw [z, this, h.2.2.2.2.2.1] at hf; cases hf
  · intro z
    rcases hr with rfl | hr
    · exact h.2.2.2.2.1 z
    · rw [z] at hr
      obtain ⟨md, h1, h2⟩ := h.2.2.1
      rcases h2 with ⟨h2, -⟩ | ⟨cap, f, h3, -⟩
      · rw [z]; exact h2
      · rw [hr] at h3; cases h3
  · intro i a t hi
    by_cases h1 : i < Ac.length
    · rw [List.getElem?_append_left h1] at hi
      exact h.kpl h.2.1 kp (h.ac hi) (by decide)
    · rw [List.getElem?_append_right (by omega)] at hi
      have h2 : i - Ac.length = 0 := by
        rcases Nat.eq_zero_or_pos (i - Ac.length) with z | z
        · exact z
        · rw [List.getElem?_eq_none (by simp; omega)] at hi; cases hi
      rw [h2] at hi
      cases hi
      rw [show i = Ac.length by omega]
      exact h.kpl h.2.1 kp fp (by decide)
  · intro i q t hi
    rw [hb_acc_app (hk.2.2.2 (q, t) (List.mem_of_getElem? hi)) hk.1]
    exact h.kpl h.2.1 kp (h.py hi) (by decide)
theorem cOK.setA {Ac : List (Nat × hbA)} {Py : List (Nat × hbY)} (h : cOK Ac Py) {k : Nat} {q : Nat × hbA} : cOK (Ac.set k q) Py := by
  unfold cOK at *
  rw [List.length_set]
  exact h
theorem hb_ins_self {α : Type} {L : List α} {j : Nat} {a : α} (h : j ≤ L.length) : (L.insertIdx j a)[j]? = some a := by
  rw [List.getElem?_insertIdx, if_neg (Nat.lt_irrefl _), if_pos rfl, if_pos h]
