/-! PURE PART: sums over rows, orders, numbers -/
abbrev yA (r : hbY) : Int32 := r.2.1
abbrev yS (r : hbY) : Int32 := r.2.2.1
abbrev yH (r : hbY) : Int64 := r.2.2.2.1
abbrev yC (r : hbY) : Int64 := r.2.2.2.2.1
abbrev yU (r : hbY) : Int32 := r.2.2.2.2.2.1
abbrev yN (r : hbY) : Int32 := r.2.2.2.2.2.2.1
abbrev yD (r : hbY) : Int32 := r.2.2.2.2.2.2.2.1
abbrev yM (r : hbY) : Int64 := r.2.2.2.2.2.2.2.2.1
abbrev yL (r : hbY) : Int32 := r.2.2.2.2.2.2.2.2.2
abbrev aM (s : hbA) : Int64 := s.1
abbrev aF (s : hbA) : Int64 := s.2.1
abbrev aB (s : hbA) : Int64 := s.2.2.1
abbrev aH (s : hbA) : Int64 := s.2.2.2.1
abbrev aL (s : hbA) : Int64 := s.2.2.2.2
def lk (r : hbY) : Int64 := if yD r = 1 ∨ yD r = 2 then yM r else 0
def gH (k : Int32) (r : hbY) : Int64 := if yA r = k then yH r else 0
def gL (k : Int32) (r : hbY) : Int64 := if yA r = k then lk r else 0
def hb_ls (f : hbY → Int64) : List hbY → Int64
  | [] => 0
  | r :: L => f r + hb_ls f L
theorem hb_ls_perm {f : hbY → Int64} {L L' : List hbY} (h : L.Perm L') : hb_ls f L = hb_ls f L' := by
  induction h with
  | nil => rfl
  | cons r _ ih => show f r + _ = f r + _; rw [ih]
  | swap a b L =>
    show f b + (f a + hb_ls f L) = f a + (f b + hb_ls f L)
    rw [← Int64.add_assoc, ← Int64.add_assoc, Int64.add_comm (f b)]
  | trans _ _ h1 h2 => exact h1.trans h2
theorem hb_ls_app {f : hbY → Int64} {L L' : List hbY} : hb_ls f (L ++ L') = hb_ls f L + hb_ls f L' := by
  induction L with
  | nil => show hb_ls f L' = 0 + hb_ls f L'; rw [Int64.zero_add]
  | cons r L ih =>
    show f r + hb_ls f (L ++ L') = f r + hb_ls f L + hb_ls f L'
    rw [ih, Int64.add_assoc]
theorem hb_ls_one {f : hbY → Int64} {r : hbY} : hb_ls f [r] = f r := by
  show f r + 0 = f r
  rw [Int64.add_zero]
theorem hb_sm_ls {g : Nat → Int64} {f : hbY → Int64} {L : List hbY} (h : ∀ i r, L[i]? = some r → g i = f r) : ∀ n, n ≤ L.length → hb_sm g n = hb_ls f (L.take n) := by
  intro n
  induction n with
  | zero => intro _; rfl
  | succ n ih =>
    intro hn
    obtain ⟨r, hr⟩ : ∃ r, L[n]? = some r := ⟨L[n], List.getElem?_eq_getElem hn⟩
    show hb_sm g n + g n = _
    rw [ih (by omega), List.take_succ, hr, h n r hr, hb_ls_app]
    show _ + _ = _ + hb_ls f [r]
    rw [hb_ls_one]
theorem hb_sm_all {g : Nat → Int64} {f : hbY → Int64} {L : List hbY} {n : Nat} (h : ∀ i r, L[i]? = some r → g i = f r) (hn : n = L.length) : hb_sm g n = hb_ls f L := by
  rw [hb_sm_ls h n (by omega), List.take_of_length_le (by omega)]
theorem hb_ls_cg {f g : hbY → Int64} {L : List hbY} (h : ∀ r ∈ L, f r = g r) : hb_ls f L = hb_ls g L := by
  induction L with
  | nil => rfl
  | cons r L ih =>
    show f r + hb_ls f L = g r + hb_ls g L
    rw [h r List.mem_cons_self, ih (fun q hq => h q (List.mem_cons_of_mem _ hq))]
/-- a row is first, the others follow -/
theorem hb_first {α : Type} {L : List α} {i : Nat} {r : α} (h : L[i]? = some r) : L.Perm (r :: L.eraseIdx i) := by
  induction L generalizing i with
  | nil => simp at h
  | cons a L ih =>
    cases i with
    | zero => simp at h; subst h; simp
    | succ i =>
      simp only [List.getElem?_cons_succ] at h
      exact ((ih h).cons a).trans (List.Perm.swap r a _)
theorem hb_setp {α : Type} {L : List α} {i : Nat} {r r' : α} (h : L[i]? = some r) : (L.set i r').Perm (r' :: L.eraseIdx i) := by
  induction L generalizing i with
  | nil => simp at h
  | cons a L ih =>
    cases i with
    | zero => simp
    | succ i =>
      simp only [List.getElem?_cons_succ] at h
      exact ((ih h).cons a).trans (List.Perm.swap r' a _)
theorem hb_set2 {α : Type} {L L' : List α} {i j : Nat} {r r' : α} (h : L.Perm L') (hi : L[i]? = some r) (hj : L'[j]? = some r) : (L.set i r').Perm (L'.set j r') := by
  have h1 : (L.eraseIdx i).Perm (L'.eraseIdx j) := List.Perm.cons_inv (((hb_first hi).symm.trans h).trans (hb_first hj))
  exact ((hb_setp hi).trans (h1.cons r')).trans (hb_setp hj).symm
theorem hb_ls_set {f : hbY → Int64} {L : List hbY} {i : Nat} {r r' : hbY} (h : L[i]? = some r) : hb_ls f (L.set i r') = hb_ls f L + (f r' - f r) := by
  rw [hb_ls_perm (hb_setp h), hb_ls_perm (hb_first h)]
  show f r' + hb_ls f (L.eraseIdx i) = f r + hb_ls f (L.eraseIdx i) + (f r' - f r)
  generalize hb_ls f (L.eraseIdx i) = z
  generalize f r' = x
  generalize f r = y
  grind
/-! numbers -/
theorem q64_add {a b : Int64} (h1 : -9223372036854775808 ≤ a.toInt + b.toInt) (h2 : a.toInt + b.toInt < 9223372036854775808) : (a + b).toInt = a.toInt + b.toInt := by
  rw [Int64.toInt_add, Int.bmod_eq_of_le (by omega) (by omega)]
theorem q64_sub {a b : Int64} (h1 : -9223372036854775808 ≤ a.toInt - b.toInt) (h2 : a.toInt - b.toInt < 9223372036854775808) : (a - b).toInt = a.toInt - b.toInt := by
  rw [Int64.toInt_sub, Int.bmod_eq_of_le (by omega) (by omega)]
theorem q32_add {a b : Int32} (h1 : -2147483648 ≤ a.toInt + b.toInt) (h2 : a.toInt + b.toInt < 2147483648) : (a + b).toInt = a.toInt + b.toInt := by
  rw [Int32.toInt_add, Int.bmod_eq_of_le (by omega) (by omega)]
theorem q32_sub {a b : Int32} (h1 : -2147483648 ≤ a.toInt - b.toInt) (h2 : a.toInt - b.toInt < 2147483648) : (a - b).toInt = a.toInt - b.toInt := by
  rw [Int32.toInt_sub, Int.bmod_eq_of_le (by omega) (by omega)]
theorem q64_z : (0 : Int64).toInt = 0 := by decide
theorem q64_1 : (1 : Int64).toInt = 1 := by decide
theorem q64_m : (1000000000000 : Int64).toInt = 1000000000000 := by decide
theorem q64_n : (-1000000000000 : Int64).toInt = -1000000000000 := by decide
theorem q32_z : (0 : Int32).toInt = 0 := by decide
theorem q32_1 : (1 : Int32).toInt = 1 := by decide
theorem q32_k : (1000 : Int32).toInt = 1000 := by decide
theorem q32_m : (1000000 : Int32).toInt = 1000000 := by decide
theorem q32_5 : (5000 : Int32).toInt = 5000 := by decide
theorem hb_ls_bd {f : hbY → Int64} {L : List hbY} (h : ∀ r ∈ L, 0 ≤ (f r).toInt ∧ (f r).toInt ≤ 1000000000000) (hn : L.length ≤ 1000) : 0 ≤ (hb_ls f L).toInt ∧ (hb_ls f L).toInt ≤ (L.length : Int) * 1000000000000 := by
  induction L with
  | nil => show 0 ≤ (0 : Int64).toInt ∧ (0 : Int64).toInt ≤ _; rw [q64_z]; simp
  | cons r L ih =>
    have hn' : L.length + 1 ≤ 1000 := hn
    obtain ⟨h1, h2⟩ := ih (fun q hq => h q (List.mem_cons_of_mem _ hq)) (by omega)
    obtain ⟨h3, h4⟩ := h r List.mem_cons_self
    have e : (f r + hb_ls f L).toInt = (f r).toInt + (hb_ls f L).toInt := q64_add (by omega) (by omega)
    show 0 ≤ (f r + hb_ls f L).toInt ∧ (f r + hb_ls f L).toInt ≤ ((L.length + 1 : Nat) : Int) * _
    rw [e]
    push_cast
    omega
/-! the rows of the reference -/
def hb_rl (f : Nat → hbY) (n : Nat) : List hbY := (List.range n).map f
theorem hb_rl_len {f : Nat → hbY} {n : Nat} : (hb_rl f n).length = n := by simp [hb_rl]
theorem hb_rl_at {f : Nat → hbY} {n j : Nat} (h : j < n) : (hb_rl f n)[j]? = some (f j) := by simp [hb_rl, h]
theorem hb_rl_get {f : Nat → hbY} {n j : Nat} {r : hbY} (h : (hb_rl f n)[j]? = some r) : j < n ∧ f j = r := by
  have h1 := (List.getElem?_eq_some_iff.mp h).1
  rw [hb_rl_len] at h1
  rw [hb_rl_at h1] at h
  exact ⟨h1, Option.some.inj h⟩
theorem hb_rl_set {f : Nat → hbY} {n j : Nat} {r : hbY} : hb_rl (hb_uY f j r) n = (hb_rl f n).set j r := by
  apply List.ext_getElem?
  intro i
  rw [List.getElem?_set, hb_rl_len]
  by_cases hi : i < n
  · rw [hb_rl_at hi]
    unfold hb_uY
    by_cases hj : j = i
    · rw [if_pos hj, if_pos hj.symm, if_pos (by omega)]
    · rw [if_neg hj, if_neg (fun z => hj z.symm), hb_rl_at hi]
  · rw [List.getElem?_eq_none (by rw [hb_rl_len]; omega), List.getElem?_eq_none (l := hb_rl f n) (by rw [hb_rl_len]; omega)]
    by_cases hj : j = i
    · rw [if_pos hj, if_neg (by omega)]
    · rw [if_neg hj]
theorem hb_rl_succ {f : Nat → hbY} {n : Nat} : hb_rl f (n + 1) = hb_rl f n ++ [f n] := by
  simp [hb_rl, List.range_succ]
theorem hb_rl_cg {f g : Nat → hbY} {n : Nat} (h : ∀ i, i < n → f i = g i) : hb_rl f n = hb_rl g n := by
  unfold hb_rl
  exact List.map_congr_left (fun i hi => h i (List.mem_range.mp hi))
theorem hb_rl_push {f : Nat → hbY} {n : Nat} {r : hbY} : hb_rl (hb_uY f n r) (n + 1) = hb_rl f n ++ [r] := by
  rw [hb_rl_succ, hb_rl_cg (g := f) (fun i hi => by unfold hb_uY; rw [if_neg (by omega)])]
  unfold hb_uY
  rw [if_pos rfl]
