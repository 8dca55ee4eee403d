/-! the invariant of a run of calls -/
abbrev AC : Type := Nat × (Nat → VT)
abbrev IG : Type := VT × AC × SN
def AOK (A : AC) (n : Nat) : Prop := A.1 ≤ 40 ∧ ∀ i, i < A.1 → WFV (A.2 i) ∧ ve (A.2 i) ≤ 9999 ∧ vn (A.2 i) = n
def ACg (f : FS) (g : Nat → Nat) : Prop := f.1 ≤ 40 ∧ (∀ i, f.2.1 i = if i < f.1 then some (g i) else none) ∧ (∀ i, i < f.1 → g i < f.1) ∧ ∀ i j, i < f.1 → j < f.1 → g i = g j → i = j
def ACc (f : FS) (o : Ob) (A : AC) : Prop := o.1 0 = nI A.1 ∧ A.1 ≤ f.1 ∧ ∃ g, ACg f g ∧ ∀ i, i < A.1 → VC (f.2.2 (g i)) (A.2 i)
def AMr (x : Int32) (a : Nat → Int32) (A : AC) : Prop := x = nI A.1 ∧ ∀ i, i < A.1 → RW a (86 * i) (A.2 i)
def SMa (x : Int32) (a : Nat → Int32) (S : SN) : Prop := x = nI S.1 ∧ ∀ k, k < S.1 → a (3 * k) = nI (S.2.1 k) ∧ a (3 * k + 1) = nI (S.2.2.1 k) ∧ a (3 * k + 2) = nI (S.2.2.2 k)
def PU (V : VT) (E : RE) (F : FD) (S : SN) (A : AC) (IB : Bool) (I : IG) : Prop := CW E V ∧ FOK F (vn V) ∧ SOK S (vn V) ∧ AOK A (vn V) ∧ (IB = true → (WFV I.1 ∧ ve I.1 ≤ 9999 ∧ vn I.1 = vn V) ∧ AOK I.2.1 (vn V) ∧ SOK I.2.2 (vn V))
def KX (F : FD) (S : SN) (A : AC) (IB : Bool) (I : IG) (x : Nat → Ob) (f2 f3 : FS) : Prop := FC (x 7) F ∧ SCo (x 16) S ∧ ACc f2 (x 14) A ∧ (∃ g, ACg f3 g) ∧ (IB = true → VC (x 21) I.1 ∧ ACc f3 (x 22) I.2.1 ∧ SCo (x 24) I.2.2)
def MX (V : VT) (E : RE) (F : FD) (S : SN) (A : AC) (IB : Bool) (I : IG) (M : MS) : Prop := VM M 0 V ∧ EC E M ∧ FM M F ∧ SMo M S ∧ AMr (M.1 36) (M.2.2 11) A ∧ (IB = true → RW (M.2.2 23) 0 I.1 ∧ AMr (M.1 54) (M.2.2 24) I.2.1 ∧ SMa (M.1 55) (M.2.2 25) I.2.2)
def MI (IB : Bool) (T : Nat → Nat) (k : Nat) (x0 : Ob) (tp : Nat → Int32) (M : MS) : Prop := (x0.1 1 = nI k ∧ M.1 8 = nI k ∧ k ≤ 700) ∧ TAPE T k tp M ∧ x0.1 2 = M.1 10 ∧ (∀ i, i < 3 → x0.2 1 i = M.2.2 4 i) ∧ x0.1 13 = nI (if IB then 1 else 0) ∧ M.1 53 = nI (if IB then 1 else 0)
def IV (V : VT) (E : RE) (F : FD) (S : SN) (A : AC) (IB : Bool) (I : IG) (T : Nat → Nat) (k : Nat) (z : LZ) : Prop := PU V E F S A IB I ∧ (∃ N, WC E V N z.1.2.2.1 (z.1.1 10) (z.1.1 11) z.1.2.2.2.1) ∧ KX F S A IB I z.1.1 z.1.2.2.2.2.1 z.1.2.2.2.2.2 ∧ MX V E F S A IB I z.2.1 ∧ MI IB T k (z.1.1 0) z.1.2.1 z.2.1
def Inv (z : LZ) : Prop := ∃ V E F S A IB I T k, IV V E F S A IB I T k z
/-- a call keeps it -/
def GD (K : LZ → LZ → Nat → Nat → Nat → (Nat → Int32) → Prop) (z : LZ) (ar : Nat → Int32) : Prop := ∃ (z' : LZ) (B1 B2 B3 : Nat), K z z' B1 B2 B3 ar ∧ Inv z' ∧ (nf1 z ≤ B1 ∧ nf1 z' = B1) ∧ (nf2 z ≤ B2 ∧ nf2 z' = B2) ∧ (nf3 z ≤ B3 ∧ nf3 z' = B3)
theorem RW_of {a b : Nat → Int32} {c : Nat} {V : VT} (e : a = b) (h : RW a c V) : RW b c V := by rw [← e]; exact h
theorem MX.qf {V : VT} {E : RE} {F : FD} {S : SN} {A : AC} {IB : Bool} {I : IG} {M r : MS} (h : MX V E F S A IB I M) (w : WFV V) (q : QF M r) : MX V E F S A IB I r := by
  obtain ⟨h1, h2, h3, h4, h5, h6⟩ := h
  refine ⟨h1.qf w q, h2.qf q, h3.qf q, h4.qf q, ?_, fun e => ?_⟩
  · rw [q.1 36 (by decide), q.2.2.1 11 (by omega) (by decide)]; exact h5
  · rw [q.1 54 (by decide), q.1 55 (by decide), q.2.2.1 23 (by omega) (by decide), q.2.2.1 24 (by omega) (by decide), q.2.2.1 25 (by omega) (by decide)]; exact h6 e
theorem TAPE.of {T : Nat → Nat} {k : Nat} {ut : Nat → Int32} {M r : MS} (h : TAPE T k ut M) (e : r.2.2 3 = M.2.2 3) : TAPE T k ut r := fun i hi => ⟨(h i hi).1, (h i hi).2.1, by rw [e]; exact (h i hi).2.2⟩
theorem MI.qf {IB : Bool} {T : Nat → Nat} {k : Nat} {x0 : Ob} {tp : Nat → Int32} {M r : MS} (h : MI IB T k x0 tp M) (q : QF M r) : MI IB T k x0 tp r := by
  obtain ⟨h1, h2, h3, h4, h5, h6⟩ := h
  refine ⟨⟨h1.1, by rw [q.1 8 (by decide)]; exact h1.2.1, h1.2.2⟩, h2.of (q.2.2.1 3 (by omega) (by decide)), by rw [q.1 10 (by decide)]; exact h3, fun i hi => by rw [q.2.2.1 4 (by omega) (by decide)]; exact h4 i hi, h5, by rw [q.1 53 (by decide)]; exact h6⟩
theorem MX.u0 {V : VT} {E : RE} {F : FD} {S : SN} {A : AC} {IB : Bool} {I : IG} {M : MS} {x : Int32} (h : MX V E F S A IB I M) : MX V E F S A IB I ((upd M.1 0 x, M.2) : MS) := by
  have e : ∀ q, q ≠ 0 → ((upd M.1 0 x, M.2) : MS).1 q = M.1 q := fun q hq => pk_un hq
  obtain ⟨h1, h2, h3, h4, h5, h6⟩ := h
  refine ⟨⟨(e 1 (by omega)).trans h1.1, h1.2⟩, ?_, ⟨(e 2 (by omega)).trans h3.1, h3.2⟩, ⟨(e 48 (by omega)).trans h4.1, h4.2⟩, ?_, fun y => ?_⟩
  · unfold EC at h2 ⊢
    rw [e 3 (by omega), e 4 (by omega), e 39 (by omega), e 40 (by omega)]
    exact ⟨RMo_of rfl h2.1, RMo_of rfl h2.2.1, h2.2.2⟩
  · rw [e 36 (by omega)]; exact h5
  · rw [e 54 (by omega), e 55 (by omega)]; exact h6 y
theorem MI.u0 {IB : Bool} {T : Nat → Nat} {k : Nat} {x0 : Ob} {tp : Nat → Int32} {M : MS} {x : Int32} (h : MI IB T k x0 tp M) : MI IB T k x0 tp ((upd M.1 0 x, M.2) : MS) := by
  have e : ∀ q, q ≠ 0 → ((upd M.1 0 x, M.2) : MS).1 q = M.1 q := fun q hq => pk_un hq
  obtain ⟨h1, h2, h3, h4, h5, h6⟩ := h
  exact ⟨⟨h1.1, (e 8 (by omega)).trans h1.2.1, h1.2.2⟩, h2, h3.trans (e 10 (by omega)).symm, h4, h5, (e 53 (by omega)).trans h6⟩
theorem IV.q {V : VT} {E : RE} {F : FD} {S : SN} {A : AC} {IB : Bool} {I : IG} {T : Nat → Nat} {k N : Nat} {z : LZ} (h : IV V E F S A IB I T k z) {x' : Nat → Ob} {cs' : CS} {f1' : FS} {M' : MS} {o' : Nat → Int64} {x : Int32} (hx : ∀ j, j = 0 ∨ j = 7 ∨ j = 14 ∨ j = 16 ∨ j = 21 ∨ j = 22 ∨ j = 24 → x' j = z.1.1 j) (hw : WC E V N cs' (x' 10) (x' 11) f1') (hq : QF ((upd z.2.1.1 0 x, z.2.1.2) : MS) M') : IV V E F S A IB I T k (((x', z.1.2.1, cs', f1', z.1.2.2.2.2.1, z.1.2.2.2.2.2) : XS), M', o') := by
  obtain ⟨h1, h2, h3, h4, h5⟩ := h
  refine ⟨h1, ⟨N, hw⟩, ?_, h4.u0.qf h1.1.1 hq, ?_⟩
  · show KX F S A IB I x' z.1.2.2.2.2.1 z.1.2.2.2.2.2
    unfold KX at h3 ⊢
    rw [hx 7 (by omega), hx 16 (by omega), hx 14 (by omega), hx 21 (by omega), hx 22 (by omega), hx 24 (by omega)]
    exact h3
  · show MI IB T k (x' 0) z.1.2.1 M'
    rw [hx 0 (by omega)]
    exact h5.u0.qf hq
/-- names of houses don't matter to the class -/
theorem WC.id {E : RE} {V : VT} {f : Nat → Int32} {N : Nat} {cs : CS} {p k : Ob} {fs : FS} (h : WC E V N cs p k fs) : WC E (idV V f) N cs p k fs := by
  obtain ⟨⟨rd, c1, c2, c3, c4, c5⟩, h2, h3⟩ := h
  refine ⟨⟨rd, c1, c2, c3, fun i hi => ?_, fun i i1 hi => ?_⟩, h2, h3⟩
  · obtain ⟨g, e⟩ := It_id (E := E) (V := V) (f := f) i
    rw [e]; exact (c4 i hi).idv g
  · rw [c5 i i1 hi]
    unfold gm
    obtain ⟨g, e⟩ := It_id (E := E) (V := V) (f := f) (i - 1)
    rw [e]; rfl
theorem WC.di {E : RE} {V : VT} {f : Nat → Int32} {N : Nat} {cs : CS} {p k : Ob} {fs : FS} (h : WC E (idV V f) N cs p k fs) : WC E V N cs p k fs := by
  have h9 := h.id (f := idd V)
  exact ⟨⟨h9.1.choose, by
    obtain ⟨c1, c2, c3, c4, c5⟩ := h9.1.choose_spec
    refine ⟨c1, c2, c3, fun i hi => ?_, fun i i1 hi => ?_⟩
    · obtain ⟨g, e⟩ := It_id (E := E) (V := V) (f := idd V) i
      have := c4 i hi
      rw [show idV (idV V f) (idd V) = idV V (idd V) from rfl, e] at this
      exact this
    · rw [c5 i i1 hi]
      unfold gm
      obtain ⟨g, e⟩ := It_id (E := E) (V := V) (f := idd V) (i - 1)
      rw [show idV (idV V f) (idd V) = idV V (idd V) from rfl, e]; rfl⟩, h9.2⟩
theorem WC.n {E : RE} {V : VT} {N : Nat} {cs : CS} {p k : Ob} {fs : FS} (h : WC E V N cs p k fs) : fs.1 = N ∧ 1 ≤ N ∧ N ≤ 201 := by
  obtain ⟨⟨rd, c1, _⟩, _⟩ := h
  exact ⟨c1.1, c1.2.1, c1.2.2.1⟩
theorem WC.c0 {E : RE} {V : VT} {N : Nat} {cs : CS} {p k : Ob} {fs : FS} (h : WC E V N cs p k fs) : VC (fs.2.2 0) V := by
  obtain ⟨⟨rd, c1, c2, c3, c4, c5⟩, _⟩ := h
  exact c4 0 (Nat.zero_le _)
/-! what a call needs -/
theorem i_cs (p : Int32) : p < 0 ∨ ∃ i, i < 2147483648 ∧ p = nI i := by
  by_cases h : p < 0
  · exact Or.inl h
  · right
    have h2 : 0 ≤ p.toInt := by
      rcases Int.lt_or_le p.toInt 0 with q | q
      · exact absurd (Int32.lt_iff_toInt_lt.mpr (show p.toInt < (0 : Int32).toInt from q)) h
      · exact q
    have h3 := p.toInt_lt
    refine ⟨p.toInt.toNat, by omega, ?_⟩
    apply Int32.toInt_inj.mp
    rw [nI_toInt (by omega)]
    omega
/-- one of n -/
def On (n : Nat) (p : Int32) : Prop := ∃ i, i < n ∧ p = nI i
theorem On.cs (n : Nat) (hn : n < 2147483648) (p : Int32) : On n p ∨ (p < 0 ∨ (¬ p < 0 ∧ nI n ≤ p)) := by
  rcases i_cs p with h | ⟨i, hi, e⟩
  · exact Or.inr (Or.inl h)
  · rcases Nat.lt_or_ge i n with q | q
    · exact Or.inl ⟨i, q, e⟩
    · refine Or.inr (Or.inr ⟨?_, ?_⟩)
      · rw [e]; exact (nI_nlt (b := 0) (Nat.zero_le _) (by omega))
      · rw [e]; exact nI_le q (by omega)
theorem nneg {i : Nat} (h : i < 2147483648) : ¬ nI i < (0 : Int32) := nI_nlt (b := 0) (Nat.zero_le _) (by omega)
section NDS
variable {v : Ob} {fs : FS} {M : MS} {p : Int32} {i n : Nat}
theorem np_ok (h0 : 0 < fs.1) (hv : (fs.2.2 0).1 0 = nI n) (hi : i < n) (hn : n ≤ 12) : f_X11_needPerson v fs (nI i) = some () ∧ t_X11_needPerson v fs (nI i) = none := by
  unfold f_X11_needPerson t_X11_needPerson
  rw [if_neg (nneg (by omega)), if_neg (nneg (by omega)), grd_d h0, grd_d h0, hv, if_pos (nI_lt hi (by omega)), if_pos (nI_lt hi (by omega))]
  exact ⟨rfl, rfl⟩
theorem np_no (h0 : 0 < fs.1) (hv : (fs.2.2 0).1 0 = nI n) (hn : n ≤ 12) (hp : p < 0 ∨ (¬ p < 0 ∧ nI n ≤ p)) : t_X11_needPerson v fs p = some 1 := by
  unfold t_X11_needPerson
  rcases hp with h | ⟨h1, h2⟩
  · rw [if_pos h]
  · rw [if_neg h1, grd_d h0, hv, if_neg (fun h => Int32.not_lt.mpr h2 h)]
theorem nh_ok (h0 : 0 < fs.1) (hv : (fs.2.2 0).1 1 = nI n) (hi : i < n) (hn : n ≤ 13) : f_X11_needHouse v fs (nI i) = some () ∧ t_X11_needHouse v fs (nI i) = none := by
  unfold f_X11_needHouse t_X11_needHouse
  rw [if_neg (nneg (by omega)), if_neg (nneg (by omega)), grd_d h0, grd_d h0, hv, if_pos (nI_lt hi (by omega)), if_pos (nI_lt hi (by omega))]
  exact ⟨rfl, rfl⟩
theorem nh_no (h0 : 0 < fs.1) (hv : (fs.2.2 0).1 1 = nI n) (hn : n ≤ 13) (hp : p < 0 ∨ (¬ p < 0 ∧ nI n ≤ p)) : t_X11_needHouse v fs p = some 1 := by
  unfold t_X11_needHouse
  rcases hp with h | ⟨h1, h2⟩
  · rw [if_pos h]
  · rw [if_neg h1, grd_d h0, hv, if_neg (fun h => Int32.not_lt.mpr h2 h)]
theorem nw_ok (hi : i ≤ n) (hn : n ≤ 100) : f_X11_needWhat (nI i) (nI n) = some () ∧ t_X11_needWhat (nI i) (nI n) = none := by
  unfold f_X11_needWhat t_X11_needWhat
  rw [if_neg (nneg (by omega)), if_neg (nneg (by omega)), if_pos (nI_le hi (by omega)), if_pos (nI_le hi (by omega))]
  exact ⟨rfl, rfl⟩
theorem nw_no (hn : n ≤ 100) (hp : p < 0 ∨ (¬ p < 0 ∧ nI (n + 1) ≤ p)) : t_X11_needWhat p (nI n) = some 1 := by
  unfold t_X11_needWhat
  rcases hp with h | ⟨h1, h2⟩
  · rw [if_pos h]
  · rw [if_neg h1, if_neg (fun h => Int32.not_lt.mpr (Int32.le_trans h2 h) (nI_lt (Nat.lt_succ_self n) (by omega)))]
theorem ni_ok {a : Nat} (h1 : a ≤ i) (h2 : i ≤ n) (hn : n ≤ 100) : f_X11_needWithin (nI i) (nI a) (nI n) = some () ∧ t_X11_needWithin (nI i) (nI a) (nI n) = none := by
  unfold f_X11_needWithin t_X11_needWithin
  rw [if_neg (nI_nlt h1 (by omega)), if_neg (nI_nlt h1 (by omega)), if_pos (nI_le h2 (by omega)), if_pos (nI_le h2 (by omega))]
  exact ⟨rfl, rfl⟩
theorem lt_of_no {a : Nat} (q : ¬ i < a) (hp : ¬ ∃ k, a ≤ k ∧ k ≤ n ∧ nI i = nI k) : n < i := by
  rcases Nat.lt_or_ge n i with w | w
  · exact w
  · exact absurd ⟨i, by omega, w, rfl⟩ hp
theorem ni_no {a : Nat} (ha : a ≤ 1) (hn : n ≤ 100) (hp : ¬ ∃ i, a ≤ i ∧ i ≤ n ∧ p = nI i) : t_X11_needWithin p (nI a) (nI n) = some 2 := by
  unfold t_X11_needWithin
  rcases i_cs p with h | ⟨i, hi, e⟩
  · rw [if_pos (Int32.lt_of_lt_of_le h (show (0 : Int32) ≤ nI a from nI_le (a := 0) (Nat.zero_le _) (by omega)))]
  · subst e
    by_cases q : i < a
    · rw [if_pos (nI_lt q (by omega))]
    · rw [if_neg (nI_nlt (by omega) (by omega)), if_neg (nI_ge (lt_of_no q hp) (by omega))]
/-- the reference's -/
theorem mw_ok {a : Nat} (h1 : a ≤ i) (h2 : i ≤ n) (hn : n ≤ 10000) : f_X12_within (nI i) (nI a) (nI n) = some 1 := by
  unfold f_X12_within
  rw [if_neg (nI_nlt h1 (by omega)), if_neg (nI_nlt h2 (by omega))]
theorem mw_no {a : Nat} (ha : a ≤ 1) (hn : n ≤ 10000) (hp : ¬ ∃ i, a ≤ i ∧ i ≤ n ∧ p = nI i) : f_X12_within p (nI a) (nI n) = some 0 := by
  unfold f_X12_within
  rcases i_cs p with h | ⟨i, hi, e⟩
  · rw [if_pos (Int32.lt_of_lt_of_le h (show (0 : Int32) ≤ nI a from nI_le (a := 0) (Nat.zero_le _) (by omega)))]
  · subst e
    by_cases q : i < a
    · rw [if_pos (nI_lt q (by omega))]
    · rw [if_neg (nI_nlt (by omega) (by omega)), if_pos (nI_lt (lt_of_no q hp) (by omega))]
theorem mp_ok (h0 : M.1 0 = 0) (hv : M.1 1 = nI n) (hi : i < n) (hn : n ≤ 12) : f_X12_isPerson M (nI i) = some (1, M) := by
  unfold f_X12_isPerson f_X12_isPerson_J18
  rw [if_neg (nneg (by omega)), hv, if_neg (nI_ge hi (by omega)), m_right1 h0, ob_some]
  rfl
theorem mp_no (h0 : M.1 0 = 0) (hv : M.1 1 = nI n) (hp : p < 0 ∨ (¬ p < 0 ∧ nI n ≤ p)) : f_X12_isPerson M p = some (0, upd M.1 0 1, M.2) := by
  unfold f_X12_isPerson f_X12_isPerson_J17 f_X12_isPerson_J18
  rcases hp with h | ⟨h1, h2⟩
  · rw [if_pos h, m_right0 h0 (by decide), ob_some]
    rfl
  · rw [if_neg h1, hv, if_pos h2, m_right0 h0 (by decide), ob_some]
    rfl
theorem mh_ok (h0 : M.1 0 = 0) (hv : M.2.2 10 1 = nI n) (hi : i < n) (hn : n ≤ 13) : f_X12_isHouse M (nI i) = some (1, M) := by
  unfold f_X12_isHouse f_X12_isHouse_J20
  rw [if_neg (nneg (by omega)), show (1 : Int32) = nI 1 from rfl, sx_grd (by omega) (by omega), sx_clamp (by omega), hv, if_neg (nI_ge hi (by omega)), show nI 1 = (1 : Int32) from rfl, m_right1 h0, ob_some]
  rfl
theorem mh_no (h0 : M.1 0 = 0) (hv : M.2.2 10 1 = nI n) (hp : p < 0 ∨ (¬ p < 0 ∧ nI n ≤ p)) : f_X12_isHouse M p = some (0, upd M.1 0 1, M.2) := by
  unfold f_X12_isHouse f_X12_isHouse_J19 f_X12_isHouse_J20
  rcases hp with h | ⟨h1, h2⟩
  · rw [if_pos h, m_right0 h0 (by decide), ob_some]
    rfl
  · rw [if_neg h1, show vi (1 : Int32) 172 = true from rfl]
    show (if M.2.2 10 1 ≤ p then _ else _) = _
    rw [hv, if_pos h2, m_right0 h0 (by decide), ob_some]
    rfl
theorem mt_ok (h0 : M.1 0 = 0) (hi : i ≤ n) (hn : n ≤ 100) : f_X12_isWhat M (nI i) (nI n) = some (1, M) := by
  unfold f_X12_isWhat
  rw [show (0 : Int32) = nI 0 from rfl, mw_ok (Nat.zero_le _) hi (by omega), ob_some, m_right1 h0, ob_some]
  rfl
theorem ex_no (hp : p < 0 ∨ (¬ p < 0 ∧ nI (n + 1) ≤ p)) (hn : n ≤ 10000) : ¬ ∃ i, 0 ≤ i ∧ i ≤ n ∧ p = nI i := by
  rintro ⟨i, _, h2, rfl⟩
  rcases hp with h | ⟨_, h⟩
  · exact nneg (by omega) h
  · exact nI_ge (Nat.lt_succ_of_le h2) (by omega) h
theorem mt_no (h0 : M.1 0 = 0) (hn : n ≤ 100) (hp : p < 0 ∨ (¬ p < 0 ∧ nI (n + 1) ≤ p)) : f_X12_isWhat M p (nI n) = some (0, upd M.1 0 1, M.2) := by
  unfold f_X12_isWhat
  rw [show (0 : Int32) = nI 0 from rfl, mw_no (Nat.zero_le _) (by omega) (ex_no hp (by omega)), ob_some, m_right0 h0 (by decide), ob_some]
  rfl
theorem ms_ok {a : Nat} {x : Int32} (h0 : M.1 0 = 0) (h1 : a ≤ i) (h2 : i ≤ 100) : f_X12_isSoon M (nI i) (nI a) x = some (1, M) := by
  unfold f_X12_isSoon
  rw [show (100 : Int32) = nI 100 from rfl, mw_ok h1 h2 (by omega), ob_some, m_right1 h0, ob_some]
  rfl
theorem ms_no {a : Nat} {x : Int32} (h0 : M.1 0 = 0) (hx : x ≠ 0) (ha : a ≤ 1) (hp : ¬ ∃ i, a ≤ i ∧ i ≤ 100 ∧ p = nI i) : f_X12_isSoon M p (nI a) x = some (0, upd M.1 0 x, M.2) := by
  unfold f_X12_isSoon
  rw [show (100 : Int32) = nI 100 from rfl, mw_no ha (by omega) hp, ob_some, m_right0 h0 hx, ob_some]
  rfl
end NDS
theorem uL0 {u : Nat → Int64} {x : Int64} : vp_updL u (0 : Int32).toNatClampNeg x (0 : Int32).toNatClampNeg = x := if_pos rfl
theorem th_0 {M : MS} {x : Int32} (h : M.1 0 = x) : f_X12_thrown M = some x := by unfold f_X12_thrown; rw [h]
