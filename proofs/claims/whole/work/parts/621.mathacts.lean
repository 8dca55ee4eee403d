/-! acts: one moves, one founds, one house is joined to another -/
def lv (V : VT) (p q : Nat) : Nat := if ho V q = ho V p ∧ pl V p < pl V q then pl V q - 1 else pl V q
def mvV (V : VT) (p h : Nat) : VT := mkV (vn V) (vh V) (ve V) (fun q => if q = p then h else ho V q) (fun q => if q = p then sz V h else lv V p q) (fun q => if q = p then 0 else si V q) (rk V) (ol V) (mv V) (idd V)
def fdV (V : VT) (p : Nat) : VT := mkV (vn V) (vh V + 1) (ve V) (fun q => if q = p then vh V else ho V q) (fun q => if q = p then 0 else lv V p q) (fun q => if q = p then 0 else si V q) (rk V) (fun h => if h = vh V then 0 else ol V h) (mv V) (fun h => if h = vh V then -1 else idd V h)
def jnV (V : VT) (a b : Nat) : VT := mkV (vn V) (vh V) (ve V) (fun q => if ho V q = a then b else ho V q) (fun q => if ho V q = a then pl V q + sz V b else pl V q) (fun q => if ho V q = a then 0 else si V q) (rk V) (ol V) (mv V) (idd V)
def rkV (V : VT) (p r : Nat) : VT := mkV (vn V) (vh V) (ve V) (ho V) (pl V) (si V) (fun q => if q = p then r else rk V q) (ol V) (mv V) (idd V)
theorem sz_rk (V : VT) (p r h : Nat) : sz (rkV V p r) h = sz V h := rfl
theorem WFV_rk {V : VT} (w : WFV V) {p r : Nat} (hr : r ≤ 9) : WFV (rkV V p r) := by
  obtain ⟨⟨w1, w4, w5, w6⟩, w7⟩ := w
  refine ⟨⟨w1, fun q hq => ?_, w5, w6⟩, w7⟩
  obtain ⟨a1, a2, a3, a4⟩ := w4 q hq
  refine ⟨a1, a2, ?_, a4⟩
  show (if q = p then r else rk V q) ≤ 9
  split <;> omega
theorem sz_mv {V : VT} {p h : Nat} (hp : p < vn V) (k : Nat) : sz (mvV V p h) k + (if ho V p = k then 1 else 0) = sz V k + (if h = k then 1 else 0) := by
  have e := fb_ct_upd (fun q => decide (ho V q = k)) (decide (h = k)) (i := p) (n := vn V) hp
  simp only [decide_eq_true_eq] at e
  rw [sz, sz, ← e]
  congr 1
  exact fb_ct_cong (fun q _ => by
    show decide ((if q = p then h else ho V q) = k) = _
    by_cases c : q = p
    · simp [c]
    · simp [c])
theorem sz_fd {V : VT} {p : Nat} (hp : p < vn V) (k : Nat) : sz (fdV V p) k + (if ho V p = k then 1 else 0) = sz V k + (if vh V = k then 1 else 0) := by
  have e := fb_ct_upd (fun q => decide (ho V q = k)) (decide (vh V = k)) (i := p) (n := vn V) hp
  simp only [decide_eq_true_eq] at e
  rw [sz, sz, ← e]
  congr 1
  exact fb_ct_cong (fun q _ => by
    show decide ((if q = p then vh V else ho V q) = k) = _
    by_cases c : q = p
    · simp [c]
    · simp [c])
theorem sz_out {V : VT} (w : WFP V) {k : Nat} (h : vh V ≤ k) : sz V k = 0 := fb_ct_zero.mpr (fun p hp => by
  have := (w.2.1 p hp).1
  simp; omega)
theorem sz_jn {V : VT} {a b : Nat} (hab : a ≠ b) (k : Nat) : sz (jnV V a b) k = if k = a then 0 else if k = b then sz V a + sz V b else sz V k := by
  have sh : ∀ q, ho (jnV V a b) q = if ho V q = a then b else ho V q := fun _ => rfl
  by_cases c1 : k = a
  · subst c1
    rw [if_pos rfl]
    refine fb_ct_zero.mpr (fun q _ => ?_)
    rw [sh]
    by_cases d : ho V q = k
    · simp [d]; omega
    · simp [d]
  · rw [if_neg c1]
    by_cases c2 : k = b
    · subst c2
      rw [if_pos rfl]
      have e2 := fb_ct_or (p := fun p => decide (ho V p = a)) (q := fun p => decide (ho V p = k)) (n := vn V) (fun q _ c => by
        have h1 := c.1
        have h2 := c.2
        simp only [decide_eq_true_eq] at h1 h2
        omega)
      rw [sz, sz, sz, ← e2]
      refine fb_ct_cong (fun q _ => ?_)
      rw [sh]
      by_cases d : ho V q = a
      · simp [d]
      · simp [d]
    · rw [if_neg c2]
      refine fb_ct_cong (fun q _ => ?_)
      rw [sh]
      by_cases d : ho V q = a
      · simp [d]; omega
      · simp [d]
theorem lvV_inj {V : VT} (w : WFP V) {p q r : Nat} (hp : p < vn V) (hq : q < vn V) (hr : r < vn V) (n1 : q ≠ p) (n2 : r ≠ p) (e1 : ho V q = ho V r) (e2 : lv V p q = lv V p r) : q = r := by
  refine w.2.2.1 q r hq hr e1 ?_
  unfold lv at e2
  by_cases c : ho V q = ho V p
  · have m1 : pl V q ≠ pl V p := fun e => n1 (w.2.2.1 q p hq hp c e)
    have m2 : pl V r ≠ pl V p := fun e => n2 (w.2.2.1 r p hr hp (by rw [← e1, c]) e)
    by_cases d : pl V p < pl V q
    · rw [if_pos ⟨c, d⟩] at e2
      by_cases d2 : pl V p < pl V r
      · rw [if_pos ⟨by rw [← e1, c], d2⟩] at e2; omega
      · rw [if_neg (fun z => d2 z.2)] at e2; omega
    · rw [if_neg (fun z => d z.2)] at e2
      by_cases d2 : pl V p < pl V r
      · rw [if_pos ⟨by rw [← e1, c], d2⟩] at e2; omega
      · rw [if_neg (fun z => d2 z.2)] at e2; exact e2
  · rw [if_neg (fun z => c z.1), if_neg (fun z => c (by rw [e1, z.1]))] at e2
    exact e2
theorem lvV_lt {V : VT} (w : WFP V) {p q : Nat} (hp : p < vn V) (hq : q < vn V) (n1 : q ≠ p) : lv V p q + (if ho V p = ho V q then 1 else 0) < sz V (ho V q) := by
  have b1 := (w.2.1 q hq).2.1
  have b2 := (w.2.1 p hp).2.1
  unfold lv
  by_cases c : ho V q = ho V p
  · have m1 : pl V q ≠ pl V p := fun e => n1 (w.2.2.1 q p hq hp c e)
    rw [if_pos c.symm]
    rw [← c] at b2
    by_cases d : pl V p < pl V q
    · rw [if_pos ⟨c, d⟩]; omega
    · rw [if_neg (fun z => d z.2)]; omega
  · rw [if_neg (fun z => c z.1), if_neg (fun z => c z.symm)]; omega
theorem WFP_mv {V : VT} (w : WFV V) {p h : Nat} (hp : p < vn V) (hh : h < vh V) (hn : ho V p ≠ h) : WFP (mvV V p h) := by
  have wp := w.1
  obtain ⟨⟨⟨w1, w2, w3⟩, w4, w5, w6⟩, w7⟩ := w
  have sh : ∀ q, ho (mvV V p h) q = if q = p then h else ho V q := fun _ => rfl
  have sp : ∀ q, pl (mvV V p h) q = if q = p then sz V h else lv V p q := fun _ => rfl
  refine ⟨⟨w1, w2, w3⟩, ?_, ?_, w6⟩
  · intro q hq
    have hq : q < vn V := hq
    obtain ⟨a1, a2, a3, a4⟩ := w4 q hq
    rw [sh, sp]
    refine ⟨?_, ?_, a3, ?_⟩
    · show _ < vh V
      split <;> omega
    · have e := sz_mv (V := V) (h := h) hp
      by_cases c : q = p
      · rw [if_pos c, if_pos c]
        have := e h
        rw [if_neg hn, if_pos rfl] at this
        omega
      · rw [if_neg c, if_neg c]
        have l := lvV_lt wp hp hq c
        have := e (ho V q)
        have : (if h = ho V q then 1 else 0) ≥ 0 := Nat.zero_le _
        omega
    · show (if q = p then 0 else si V q) ≤ ve V
      split <;> omega
  · intro q r hq hr e1 e2
    have hq : q < vn V := hq
    have hr : r < vn V := hr
    rw [sh, sh] at e1
    rw [sp, sp] at e2
    by_cases c : q = p
    · by_cases d : r = p
      · omega
      · rw [if_pos c, if_neg d] at e1 e2
        have l := lvV_lt wp hp hr d
        rw [← e1] at l
        omega
    · by_cases d : r = p
      · rw [if_neg c, if_pos d] at e1 e2
        have l := lvV_lt wp hp hq c
        rw [e1] at l
        omega
      · rw [if_neg c, if_neg d] at e1 e2
        exact lvV_inj wp hp hq hr c d e1 e2
theorem WFV_fd {V : VT} (w : WFV V) {p : Nat} (hp : p < vn V) (hn : sz V (ho V p) ≠ 1) : WFV (fdV V p) := by
  have wp := w.1
  have hhn := w.hn
  obtain ⟨⟨⟨w1, w2, w3⟩, w4, w5, w6⟩, w7⟩ := w
  have sh : ∀ q, ho (fdV V p) q = if q = p then vh V else ho V q := fun _ => rfl
  have sp : ∀ q, pl (fdV V p) q = if q = p then 0 else lv V p q := fun _ => rfl
  have e := sz_fd (V := V) hp
  have hp1 := (w4 p hp).1
  refine ⟨⟨⟨w1, by show vh V + 1 ≤ 13; omega, w3⟩, ?_, ?_, ?_⟩, ?_⟩
  · intro q hq
    have hq : q < vn V := hq
    obtain ⟨a1, a2, a3, a4⟩ := w4 q hq
    rw [sh, sp]
    refine ⟨?_, ?_, a3, ?_⟩
    · show _ < vh V + 1
      split <;> omega
    · by_cases c : q = p
      · rw [if_pos c, if_pos c]
        have := e (vh V)
        rw [if_neg (by omega), if_pos rfl] at this
        omega
      · rw [if_neg c, if_neg c]
        have l := lvV_lt wp hp hq c
        have := e (ho V q)
        have : (if vh V = ho V q then 1 else 0) ≥ 0 := Nat.zero_le _
        omega
    · show (if q = p then 0 else si V q) ≤ ve V
      split <;> omega
  · intro q r hq hr e1 e2
    have hq : q < vn V := hq
    have hr : r < vn V := hr
    have b1 := (w4 q hq).1
    have b2 := (w4 r hr).1
    rw [sh, sh] at e1
    rw [sp, sp] at e2
    by_cases c : q = p
    · by_cases d : r = p
      · omega
      · rw [if_pos c, if_neg d] at e1; omega
    · by_cases d : r = p
      · rw [if_neg c, if_pos d] at e1; omega
      · rw [if_neg c, if_neg d] at e1 e2
        exact lvV_inj wp hp hq hr c d e1 e2
  · intro h hh
    have hh : h < vh V + 1 := hh
    show (if h = vh V then 0 else ol V h) ≤ ve V
    by_cases c : h = vh V
    · rw [if_pos c]; omega
    · rw [if_neg c]; exact w6 h (by omega)
  · intro h hh
    have hh : h < vh V + 1 := hh
    have e9 := e h
    have b3 := sz_pos (V := V) hp
    by_cases c : h = vh V
    · rw [if_neg (by omega), if_pos c.symm] at e9; omega
    · have w8 := w7 h (by omega)
      by_cases d : ho V p = h
      · subst d
        rw [if_pos rfl, if_neg (by omega)] at e9
        omega
      · rw [if_neg d, if_neg (by omega)] at e9; omega
theorem WFP_jn {V : VT} (w : WFV V) {a b : Nat} (ha : a < vh V) (hb : b < vh V) (hn : a ≠ b) : WFP (jnV V a b) := by
  have wp := w.1
  obtain ⟨⟨⟨w1, w2, w3⟩, w4, w5, w6⟩, w7⟩ := w
  have sh : ∀ q, ho (jnV V a b) q = if ho V q = a then b else ho V q := fun _ => rfl
  have sp : ∀ q, pl (jnV V a b) q = if ho V q = a then pl V q + sz V b else pl V q := fun _ => rfl
  have e := sz_jn (V := V) hn
  refine ⟨⟨w1, w2, w3⟩, ?_, ?_, w6⟩
  · intro q hq
    have hq : q < vn V := hq
    obtain ⟨a1, a2, a3, a4⟩ := w4 q hq
    rw [sh, sp]
    refine ⟨?_, ?_, a3, ?_⟩
    · show _ < vh V
      split <;> omega
    · by_cases c : ho V q = a
      · rw [if_pos c, if_pos c, e, if_neg (fun z => hn z.symm), if_pos rfl]
        rw [c] at a2
        omega
      · rw [if_neg c, if_neg c, e, if_neg c]
        by_cases d : ho V q = b
        · rw [if_pos d, ← d]; omega
        · rw [if_neg d]; exact a2
    · show (if ho V q = a then 0 else si V q) ≤ ve V
      split <;> omega
  · intro q r hq hr e1 e2
    have hq : q < vn V := hq
    have hr : r < vn V := hr
    have b1 := (w4 q hq).2.1
    have b2 := (w4 r hr).2.1
    rw [sh, sh] at e1
    rw [sp, sp] at e2
    by_cases c : ho V q = a
    · by_cases d : ho V r = a
      · rw [if_pos c, if_pos d] at e2
        exact w5 q r hq hr (by rw [c, d]) (by omega)
      · rw [if_pos c, if_neg d] at e1 e2
        rw [← e1] at b2; omega
    · by_cases d : ho V r = a
      · rw [if_neg c, if_pos d] at e1 e2
        rw [e1] at b1; omega
      · rw [if_neg c, if_neg d] at e1 e2
        exact w5 q r hq hr e1 e2
/-! the two pictures -/
def RW (A : Nat → Int32) (b : Nat) (V : VT) : Prop := (A (b + 0) = nI (ve V) ∧ A (b + 1) = nI (vh V)) ∧ (∀ p, p < vn V → A (b + 2 + p) = nI (ho V p) ∧ A (b + 14 + p) = nI (pl V p) ∧ A (b + 26 + p) = nI (si V p) ∧ A (b + 38 + p) = mv V p ∧ A (b + 50 + p) = nI (rk V p)) ∧ ∀ h, h < vh V → A (b + 62 + h) = nI (ol V h) ∧ A (b + 74 + h) = idd V h
/-- the reference's rows at b are V -/
def VM (M : MS) (b : Nat) (V : VT) : Prop := M.1 1 = nI (vn V) ∧ RW (M.2.2 10) b V
/-- the class's Village v is V -/
def VC (v : Ob) (V : VT) : Prop := (v.1 0 = nI (vn V) ∧ v.1 1 = nI (vh V) ∧ v.1 2 = nI (ve V)) ∧ (∀ p, p < vn V → v.2 1 p = nI (rk V p) ∧ v.2 2 p = nI (ho V p) ∧ v.2 3 p = nI (pl V p) ∧ v.2 4 p = nI (ve V - si V p) ∧ v.2 5 p = mv V p) ∧ ∀ h, h < vh V → v.2 6 h = nI (sz V h) ∧ v.2 7 h = nI (ve V - ol V h)
theorem RW.copy {A B : Nat → Int32} {a b : Nat} {V : VT} (h : RW A a V) (hn : vn V ≤ 12) (hh : vh V ≤ 12) (e : ∀ k, k < 86 → B (b + k) = A (a + k)) : RW B b V := by
  obtain ⟨⟨h1, h2⟩, h3, h4⟩ := h
  have c : ∀ i j, i + j < 86 → B (b + i + j) = A (a + i + j) := fun i j hij => by rw [Nat.add_assoc, Nat.add_assoc]; exact e _ hij
  refine ⟨⟨by rw [e 0 (by omega)]; exact h1, by rw [e 1 (by omega)]; exact h2⟩, fun p hp => ?_, fun h hh => ?_⟩
  · rw [c 2 p (by omega), c 14 p (by omega), c 26 p (by omega), c 38 p (by omega), c 50 p (by omega)]
    exact h3 p hp
  · rw [c 62 h (by omega), c 74 h (by omega)]
    exact h4 h hh
theorem RW.congr {A : Nat → Int32} {b : Nat} {V W : VT} (h : RW A b V) (e : VE V W) : RW A b W := by
  obtain ⟨⟨h1, h2⟩, h3, h4⟩ := h
  obtain ⟨⟨e1, e2, e3⟩, e4, e5⟩ := e
  refine ⟨⟨by rw [← e3]; exact h1, by rw [← e2]; exact h2⟩, fun p hp => ?_, fun h hh => ?_⟩
  · have hp : p < vn V := by rw [e1]; exact hp
    obtain ⟨q1, q2, q3, q4, q5⟩ := e4 p hp
    rw [← q1, ← q2, ← q3, ← q4, ← q5]
    exact h3 p hp
  · have hh : h < vh V := by rw [e2]; exact hh
    obtain ⟨q1, q2⟩ := e5 h hh
    rw [← q1, ← q2]
    exact h4 h hh
theorem VM.congr {M : MS} {b : Nat} {V W : VT} (h : VM M b V) (e : VE V W) : VM M b W := ⟨by rw [← e.1.1]; exact h.1, h.2.congr e⟩
theorem VC.congr {v : Ob} {V W : VT} (h : VC v V) (e : VE V W) : VC v W := by
  obtain ⟨⟨h1, h2, h5⟩, h3, h4⟩ := h
  have es := e.zs
  obtain ⟨⟨e1, e2, e3⟩, e4, e5⟩ := e
  refine ⟨⟨by rw [← e1]; exact h1, by rw [← e2]; exact h2, by rw [← e3]; exact h5⟩, fun p hp => ?_, fun h hh => ?_⟩
  · have hp : p < vn V := by rw [e1]; exact hp
    obtain ⟨q1, q2, q3, q4, q5⟩ := e4 p hp
    rw [← q1, ← q2, ← q3, ← q4, ← q5, ← e3]
    exact h3 p hp
  · have hh : h < vh V := by rw [e2]; exact hh
    obtain ⟨q1, q2⟩ := e5 h hh
    rw [← q1, ← es, ← e3]
    exact h4 h hh
theorem WFV.congr {V W : VT} (w : WFV V) (e : VE V W) : WFV W := by
  have es := e.zs
  obtain ⟨⟨⟨w1, w2, w3⟩, w4, w5, w6⟩, w7⟩ := w
  obtain ⟨⟨e1, e2, e3⟩, e4, e5⟩ := e
  refine ⟨⟨⟨by omega, by omega, by omega⟩, fun p hp => ?_, fun p q hp hq a b => ?_, fun h hh => ?_⟩, fun h hh => ?_⟩
  · have hp : p < vn V := by rw [e1]; exact hp
    obtain ⟨q1, q2, q3, q4, q5⟩ := e4 p hp
    rw [← q1, ← q2, ← q3, ← q4, ← e3, ← e2, ← es]
    exact w4 p hp
  · have hp : p < vn V := by rw [e1]; exact hp
    have hq : q < vn V := by rw [e1]; exact hq
    rw [← (e4 p hp).1, ← (e4 q hq).1] at a
    rw [← (e4 p hp).2.1, ← (e4 q hq).2.1] at b
    exact w5 p q hp hq a b
  · rw [← (e5 h (by omega)).1, ← e3]; exact w6 h (by omega)
  · rw [← es]; exact w7 h (by omega)
/-- other names for the houses, for the reference alone -/
def idV (V : VT) (f : Nat → Int32) : VT := mkV (vn V) (vh V) (ve V) (ho V) (pl V) (si V) (rk V) (ol V) (mv V) f
theorem VC.idv {v : Ob} {V : VT} (f : Nat → Int32) (h : VC v V) : VC v (idV V f) := h
theorem WFV.idv {V : VT} (f : Nat → Int32) (w : WFV V) : WFV (idV V f) := w
