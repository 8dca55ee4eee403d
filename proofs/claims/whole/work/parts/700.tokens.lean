/-! a text of n bytes, its tokens -/
abbrev TX : Type := (Nat → Nat) × Nat
def isSp (c : Nat) : Bool := decide (c = 32) || decide (c = 10)
def isLt (c : Nat) : Bool := decide (97 ≤ c) && decide (c ≤ 122)
def isDg (c : Nat) : Bool := decide (48 ≤ c) && decide (c ≤ 57)
def isSg (c : Nat) : Bool := decide (c = 59) || (decide (c = 40) || (decide (c = 41) || (decide (c = 43) || (decide (c = 45) || (decide (c = 42) || (decide (c = 47) || (decide (c = 60) || decide (c = 61))))))))
def rnF (f : Nat → Bool) (X : TX) (p : Nat) : Nat := p + fa_first (fun i => !f (X.1 (p + i))) (X.2 - p)
theorem rn_ge {f : Nat → Bool} {X : TX} {p : Nat} : p ≤ rnF f X p := Nat.le_add_right _ _
theorem rn_le {f : Nat → Bool} {X : TX} {p : Nat} (h : p ≤ X.2) : rnF f X p ≤ X.2 := by
  have := fa_first_le (fun i => !f (X.1 (p + i))) (X.2 - p)
  unfold rnF; omega
theorem rn_in {f : Nat → Bool} {X : TX} {p i : Nat} (h1 : p ≤ i) (h2 : i < rnF f X p) : f (X.1 i) = true := by
  unfold rnF at h2
  have h9 := fa_first_no (fun i => !f (X.1 (p + i))) (X.2 - p) (i - p) (by omega)
  rw [show p + (i - p) = i by omega] at h9
  cases e : f (X.1 i)
  · rw [e] at h9; cases h9
  · rfl
theorem rn_out {f : Nat → Bool} {X : TX} {p : Nat} (h : rnF f X p < X.2) : f (X.1 (rnF f X p)) = false := by
  have h9 := fa_first_yes (fun i => !f (X.1 (p + i))) (X.2 - p) (by unfold rnF at h; omega)
  change (!f (X.1 (rnF f X p))) = true at h9
  cases e : f (X.1 (rnF f X p))
  · rfl
  · rw [e] at h9; cases h9
theorem rn_gt {f : Nat → Bool} {X : TX} {p : Nat} (h : p < X.2) (hf : f (X.1 p) = true) : p < rnF f X p := by
  rcases Nat.lt_or_ge p (rnF f X p) with q | q
  · exact q
  · have e : rnF f X p = p := Nat.le_antisymm q rn_ge
    have := rn_out (f := f) (X := X) (p := p) (by omega)
    rw [e, hf] at this; cases this
def stP (X : TX) (p : Nat) : Nat := rnF isSp X p
def enP (X : TX) (p : Nat) : Nat := if stP X p = X.2 then X.2 else if isLt (X.1 (stP X p)) then rnF isLt X (stP X p) else if isDg (X.1 (stP X p)) then rnF isDg X (stP X p) else stP X p + 1
def kdP (X : TX) (p : Nat) : Nat := if stP X p = X.2 then 0 else if isLt (X.1 (stP X p)) then 1 else if isDg (X.1 (stP X p)) then 2 else if isSg (X.1 (stP X p)) then X.1 (stP X p) else 3
def pe (X : TX) : Nat → Nat | 0 => 0 | j + 1 => enP X (pe X j)
def ts (X : TX) (j : Nat) : Nat := stP X (pe X j)
def te (X : TX) (j : Nat) : Nat := enP X (pe X j)
def tk (X : TX) (j : Nat) : Nat := kdP X (pe X j)
def tl (X : TX) (j : Nat) : Nat := te X j - ts X j
def nv (T : Nat → Nat) (s : Nat) : Nat → Nat | 0 => 0 | i + 1 => 10 * nv T s i + (T (s + i) - 48)
def tv (X : TX) (j : Nat) : Nat := nv X.1 (ts X j) (min (tl X j) 4)
theorem isSg_ge {c : Nat} (h : isSg c = true) : 40 ≤ c ∧ c ≤ 61 := by
  unfold isSg at h
  simp only [Bool.or_eq_true, decide_eq_true_eq] at h
  omega
theorem st_le {X : TX} {p : Nat} (h : p ≤ X.2) : stP X p ≤ X.2 := rn_le h
theorem en_le {X : TX} {p : Nat} (h : p ≤ X.2) : enP X p ≤ X.2 ∧ stP X p ≤ enP X p := by
  have s := st_le h
  unfold enP
  split
  · exact ⟨Nat.le_refl _, s⟩
  · split
    · exact ⟨rn_le s, rn_ge⟩
    · split
      · exact ⟨rn_le s, rn_ge⟩
      · exact ⟨by omega, by omega⟩
theorem pe_le (X : TX) : ∀ j, pe X j ≤ X.2
  | 0 => Nat.zero_le _
  | j + 1 => (en_le (pe_le X j)).1
theorem pe_ts (X : TX) (j : Nat) : pe X j ≤ ts X j := rn_ge
theorem ts_le (X : TX) (j : Nat) : ts X j ≤ X.2 := st_le (pe_le X j)
theorem te_le (X : TX) (j : Nat) : te X j ≤ X.2 := (en_le (pe_le X j)).1
theorem ts_te (X : TX) (j : Nat) : ts X j ≤ te X j := (en_le (pe_le X j)).2
theorem tk_0 {X : TX} {j : Nat} : tk X j = 0 ↔ ts X j = X.2 := by
  unfold tk kdP ts
  split
  · rename_i h; exact ⟨fun _ => h, fun _ => rfl⟩
  · rename_i h
    refine ⟨fun e => absurd e ?_, fun e => absurd e h⟩
    split
    · omega
    · split
      · omega
      · split
        · rename_i s; have := isSg_ge s; omega
        · omega
theorem te_end {X : TX} {j : Nat} (h : ts X j = X.2) : te X j = X.2 := by
  unfold te enP; exact if_pos h
theorem te_gt {X : TX} {j : Nat} (h : tk X j ≠ 0) : ts X j < te X j := by
  have h1 : ts X j ≠ X.2 := fun e => h (tk_0.mpr e)
  have h2 := ts_le X j
  unfold te enP
  change ts X j < if ts X j = X.2 then X.2 else if isLt (X.1 (ts X j)) then rnF isLt X (ts X j) else if isDg (X.1 (ts X j)) then rnF isDg X (ts X j) else ts X j + 1
  rw [if_neg h1]
  split
  · rename_i c; exact rn_gt (by omega) c
  · split
    · rename_i c; exact rn_gt (by omega) c
    · omega
theorem pe_ge (X : TX) : ∀ j, j ≤ pe X j ∨ pe X j = X.2
  | 0 => Or.inl (Nat.le_refl _)
  | j + 1 => by
    have e : pe X (j + 1) = te X j := rfl
    by_cases h : tk X j = 0
    · right; rw [e]; exact te_end (tk_0.mp h)
    · rcases pe_ge X j with q | q
      · left
        have := te_gt h
        have := pe_ts X j
        omega
      · exact absurd (tk_0.mpr (by have := pe_ts X j; have := ts_le X j; omega)) h
/-- a token that isn't the end: not more tokens than bytes -/
theorem tk_j {X : TX} {j : Nat} (h : tk X j ≠ 0) : j < X.2 := by
  have h1 : ts X j ≠ X.2 := fun e => h (tk_0.mpr e)
  have := pe_ts X j
  have := ts_le X j
  rcases pe_ge X j with q | q <;> omega
theorem tk_big {X : TX} {j : Nat} (h : X.2 ≤ j) : tk X j = 0 := by
  rcases Nat.eq_zero_or_pos (tk X j) with e | e
  · exact e
  · have := tk_j (X := X) (j := j) (by omega); omega
theorem tk_cs (X : TX) (j : Nat) : tk X j = 0 ∨ tk X j = 1 ∨ tk X j = 2 ∨ tk X j = 3 ∨ isSg (tk X j) = true := by
  unfold tk kdP
  split
  · exact Or.inl rfl
  · split
    · exact Or.inr (Or.inl rfl)
    · split
      · exact Or.inr (Or.inr (Or.inl rfl))
      · split
        · rename_i s; exact Or.inr (Or.inr (Or.inr (Or.inr s)))
        · exact Or.inr (Or.inr (Or.inr (Or.inl rfl)))
theorem tk_lt (X : TX) (j : Nat) : tk X j < 62 := by
  rcases tk_cs X j with h | h | h | h | h
  · omega
  · omega
  · omega
  · omega
  · have := isSg_ge h; omega
/-- what a word is: letters all along -/
theorem tk_1 {X : TX} {j : Nat} (h : tk X j = 1) : ts X j < X.2 ∧ isLt (X.1 (ts X j)) = true ∧ te X j = rnF isLt X (ts X j) := by
  unfold tk kdP at h
  change (if ts X j = X.2 then 0 else if isLt (X.1 (ts X j)) then 1 else if isDg (X.1 (ts X j)) then 2 else if isSg (X.1 (ts X j)) then X.1 (ts X j) else 3) = 1 at h
  have hl := ts_le X j
  by_cases a : ts X j = X.2
  · rw [if_pos a] at h; omega
  · rw [if_neg a] at h
    by_cases b : isLt (X.1 (ts X j)) = true
    · refine ⟨by omega, b, ?_⟩
      unfold te enP
      change (if ts X j = X.2 then X.2 else if isLt (X.1 (ts X j)) then rnF isLt X (ts X j) else _) = _
      rw [if_neg a, if_pos b]
    · rw [if_neg b] at h
      exfalso
      split at h
      · omega
      · split at h
        · rename_i s; have := isSg_ge s; omega
        · omega
theorem tk_2 {X : TX} {j : Nat} (h : tk X j = 2) : ts X j < X.2 ∧ isLt (X.1 (ts X j)) = false ∧ isDg (X.1 (ts X j)) = true ∧ te X j = rnF isDg X (ts X j) := by
  unfold tk kdP at h
  change (if ts X j = X.2 then 0 else if isLt (X.1 (ts X j)) then 1 else if isDg (X.1 (ts X j)) then 2 else if isSg (X.1 (ts X j)) then X.1 (ts X j) else 3) = 2 at h
  have hl := ts_le X j
  by_cases a : ts X j = X.2
  · rw [if_pos a] at h; omega
  · rw [if_neg a] at h
    by_cases b : isLt (X.1 (ts X j)) = true
    · rw [if_pos b] at h; omega
    · rw [if_neg b] at h
      by_cases d : isDg (X.1 (ts X j)) = true
      · refine ⟨by omega, Bool.eq_false_iff.mpr b, d, ?_⟩
        unfold te enP
        change (if ts X j = X.2 then X.2 else if isLt (X.1 (ts X j)) then _ else if isDg (X.1 (ts X j)) then rnF isDg X (ts X j) else _) = _
        rw [if_neg a, if_neg b, if_pos d]
      · rw [if_neg d] at h
        exfalso
        split at h
        · rename_i s; have := isSg_ge s; omega
        · omega
theorem tk_3 {X : TX} {j : Nat} (h0 : tk X j ≠ 0) (h1 : tk X j ≠ 1) (h2 : tk X j ≠ 2) : ts X j < X.2 ∧ isLt (X.1 (ts X j)) = false ∧ isDg (X.1 (ts X j)) = false ∧ te X j = ts X j + 1 ∧ tk X j = (if isSg (X.1 (ts X j)) then X.1 (ts X j) else 3) := by
  have hk : tk X j = (if ts X j = X.2 then 0 else if isLt (X.1 (ts X j)) then 1 else if isDg (X.1 (ts X j)) then 2 else if isSg (X.1 (ts X j)) then X.1 (ts X j) else 3) := rfl
  have hl := ts_le X j
  have a : ts X j ≠ X.2 := fun e => h0 (tk_0.mpr e)
  rw [if_neg a] at hk
  have b : ¬ isLt (X.1 (ts X j)) = true := fun b => h1 (by rw [hk, if_pos b])
  rw [if_neg b] at hk
  have d : ¬ isDg (X.1 (ts X j)) = true := fun d => h2 (by rw [hk, if_pos d])
  rw [if_neg d] at hk
  refine ⟨by omega, Bool.eq_false_iff.mpr b, Bool.eq_false_iff.mpr d, ?_, hk⟩
  unfold te enP
  change (if ts X j = X.2 then X.2 else if isLt (X.1 (ts X j)) then _ else if isDg (X.1 (ts X j)) then _ else ts X j + 1) = _
  rw [if_neg a, if_neg b, if_neg d]
theorem nv_le {T : Nat → Nat} {s : Nat} : ∀ {m : Nat}, (∀ i, i < m → T (s + i) ≤ 57) → nv T s m + 1 ≤ 10 ^ m
  | 0, _ => Nat.le_refl _
  | m + 1, h => by
    have ih := nv_le (T := T) (s := s) (m := m) (fun i hi => h i (by omega))
    have := h m (by omega)
    rw [nv, Nat.pow_succ]
    omega
theorem tv_lt {X : TX} {j : Nat} (h : tk X j = 2) : tv X j ≤ 9999 := by
  obtain ⟨a, _, _, e⟩ := tk_2 h
  have h1 : ∀ i, i < min (tl X j) 4 → X.1 (ts X j + i) ≤ 57 := fun i hi => by
    have l : ts X j + i < te X j := by unfold tl at hi; omega
    have d := rn_in (f := isDg) (X := X) (p := ts X j) (i := ts X j + i) (by omega) (by rw [← e]; exact l)
    unfold isDg at d
    simp only [Bool.and_eq_true, decide_eq_true_eq] at d
    omega
  have h2 := nv_le h1
  have h3 : 10 ^ (min (tl X j) 4) ≤ 10 ^ 4 := Nat.pow_le_pow_right (by omega) (by omega)
  unfold tv
  omega
/-! the known words: which string of the class each one is -/
def sid (k : Nat) : Nat := [9, 10, 11, 12, 7, 8, 3, 13, 14, 2, 4, 5, 17, 15, 16, 6].getD k 0
def wl (k : Nat) : Nat := lenS.getD (sid k) 0
def wch (k i : Nat) : Nat := ((bytS.getD (sid k) []).getD i 0).toNatClampNeg
theorem wl_le : ∀ k, k < 16 → 2 ≤ wl k ∧ wl k ≤ 7 := by decide +kernel
theorem sid_lt : ∀ k, k < 16 → sid k < nS := by decide +kernel
theorem wch_lt : ∀ k, k < 16 → ∀ i, i < wl k → 97 ≤ wch k i ∧ wch k i ≤ 122 := by decide +kernel
theorem w_len : ∀ k, k < 16 → f_J0_length_8abf5 (sid k) = some (nI (wl k)) := by decide +kernel
theorem w_char : ∀ k, k < 16 → ∀ i, i < wl k → f_J0_charAt_5068e (sid k) (nI i) = some (nI (wch k i)) := by decide +kernel
theorem w_dif : ∀ k, k < 16 → ∀ m, m < 16 → k ≠ m → wl k = wl m → ¬ ∀ i, i < wl k → wch k i = wch m i := by decide +kernel
def wb (X : TX) (j k : Nat) : Bool := decide (tl X j = wl k) && decide (∀ i, i < wl k → X.1 (ts X j + i) = wch k i)
theorem wb_iff {X : TX} {j k : Nat} : wb X j k = true ↔ tl X j = wl k ∧ ∀ i, i < wl k → X.1 (ts X j + i) = wch k i := by
  unfold wb
  rw [Bool.and_eq_true, decide_eq_true_eq, decide_eq_true_eq]
/-- which known word a token is; 16, none -/
def tw (X : TX) (j : Nat) : Nat := if tk X j = 1 then fa_first (wb X j) 16 else 16
theorem tw_le (X : TX) (j : Nat) : tw X j ≤ 16 := by
  unfold tw
  split
  · exact fa_first_le _ _
  · exact Nat.le_refl _
theorem tw_1 {X : TX} {j : Nat} (h : tw X j < 16) : tk X j = 1 := by
  unfold tw at h
  split at h
  · assumption
  · omega
theorem tw_eq {X : TX} {j k : Nat} (hk : k < 16) : tw X j = k ↔ tk X j = 1 ∧ wb X j k = true := by
  constructor
  · intro e
    have h1 := tw_1 (X := X) (j := j) (by omega)
    refine ⟨h1, ?_⟩
    unfold tw at e
    rw [if_pos h1] at e
    have := fa_first_yes (wb X j) 16 (by omega)
    rw [e] at this; exact this
  · intro ⟨h1, h2⟩
    unfold tw
    rw [if_pos h1]
    have le : fa_first (wb X j) 16 ≤ k := by
      rcases Nat.lt_or_ge k (fa_first (wb X j) 16) with q | q
      · have := fa_first_no (wb X j) 16 k q
        rw [h2] at this; cases this
      · exact q
    have y := fa_first_yes (wb X j) 16 (by omega)
    generalize fa_first (wb X j) 16 = m at *
    obtain ⟨a1, a2⟩ := wb_iff.mp h2
    obtain ⟨b1, b2⟩ := wb_iff.mp y
    by_cases q : m = k
    · exact q
    · exact absurd (fun i hi => (b2 i hi).symm.trans (a2 i (by omega))) (w_dif m (by omega) k hk q (b1.symm.trans a1))
