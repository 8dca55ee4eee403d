/-! couples by least difference -/
def rmF (f : Nat → Bool) (p : Nat) : Nat → Bool := fun q => f q && !decide (q = p)
def ad (a b : Nat) : Nat := if b ≤ a then a - b else b - a
def cl (V : VT) (f : Nat → Bool) (r : Nat) : Nat := fb_ct (fun p => f p && decide (rk V p ≤ r)) (vn V)
def Ev (V : VT) (f : Nat → Bool) : Nat := fb_sm (fun r => cl V f r % 2) 9
def cf (V : VT) (f : Nat → Bool) : Nat := fb_ct f (vn V)
theorem rm_ne {f : Nat → Bool} {p q : Nat} (h : q ≠ p) : rmF f p q = f q := by unfold rmF; rw [decide_eq_false h]; simp
theorem rm_eq {f : Nat → Bool} {p : Nat} : rmF f p p = false := by unfold rmF; simp
theorem ct_rm {V : VT} {f g : Nat → Bool} {p : Nat} (hp : p < vn V) (c : f p = true) : fb_ct (fun q => f q && g q) (vn V) = fb_ct (fun q => rmF f p q && g q) (vn V) + (if g p then 1 else 0) := by
  have e := fb_ct_upd (fun q => f q && g q) false (i := p) (n := vn V) hp
  rw [c, Bool.true_and] at e
  have z : fb_ct (fun q => rmF f p q && g q) (vn V) = fb_ct (fun k => if k = p then false else (f k && g k)) (vn V) := fb_ct_cong (fun k _ => by
    by_cases q : k = p
    · subst q; rw [rm_eq, if_pos rfl]; rfl
    · rw [rm_ne q, if_neg q])
  rw [z]
  simp only [Bool.false_eq_true, if_false] at e
  omega
theorem cl_rm {V : VT} {f : Nat → Bool} {p : Nat} (hp : p < vn V) (c : f p = true) (r : Nat) : cl V f r = cl V (rmF f p) r + (if rk V p ≤ r then 1 else 0) := by
  have e := ct_rm (V := V) (f := f) (g := fun q => decide (rk V q ≤ r)) hp c
  simp only [decide_eq_true_eq] at e
  exact e
theorem cf_rm {V : VT} {f : Nat → Bool} {p : Nat} (hp : p < vn V) (c : f p = true) : cf V f = cf V (rmF f p) + 1 := by
  have e := ct_rm (V := V) (f := f) (g := fun _ => true) hp c
  simp only [Bool.and_true, if_true] at e
  exact e
theorem Ev_le (V : VT) (f : Nat → Bool) : Ev V f ≤ 9 := by
  have := fb_sm_bound (f := fun r => cl V f r % 2) (c := 1) (n := 9) (fun k _ => by show cl V f k % 2 ≤ 1; omega)
  unfold Ev
  omega
theorem Ev_cong {V : VT} {f g : Nat → Bool} (h : ∀ p, p < vn V → f p = g p) : Ev V f = Ev V g := fb_sm_cong (fun r _ => by
  show cl V f r % 2 = cl V g r % 2
  rw [show cl V f r = cl V g r from fb_ct_cong (fun p hp => by rw [h p hp])])
theorem cf_cong {V : VT} {f g : Nat → Bool} (h : ∀ p, p < vn V → f p = g p) : cf V f = cf V g := fb_ct_cong h
theorem ad_sum : ∀ a : Fin 10, ∀ b : Fin 10, fb_sm (fun r => if decide (a.val ≤ r) = decide (b.val ≤ r) then 0 else 1) 9 = ad a.val b.val := by decide +kernel
theorem ad_sm {a b : Nat} (ha : a ≤ 9) (hb : b ≤ 9) : fb_sm (fun r => if decide (a ≤ r) = decide (b ≤ r) then 0 else 1) 9 = ad a b := ad_sum ⟨a, by omega⟩ ⟨b, by omega⟩
theorem Ev_tri {V : VT} (w : WFP V) {f : Nat → Bool} {p q : Nat} (hp : p < vn V) (hq : q < vn V) (n : q ≠ p) (c : f p = true) (d : f q = true) : Ev V f ≤ ad (rk V p) (rk V q) + Ev V (rmF (rmF f p) q) := by
  rw [← ad_sm (w.2.1 p hp).2.2.1 (w.2.1 q hq).2.2.1]
  unfold Ev
  rw [← fb_sm_add]
  refine fb_sm_le (fun r _ => ?_)
  show cl V f r % 2 ≤ (if decide (rk V p ≤ r) = decide (rk V q ≤ r) then 0 else 1) + cl V (rmF (rmF f p) q) r % 2
  rw [cl_rm hp c r, cl_rm hq (by rw [rm_ne n]; exact d) r]
  by_cases x : rk V p ≤ r
  · by_cases y : rk V q ≤ r
    · simp only [x, y, if_true]; omega
    · simp [x, y]; omega
  · by_cases y : rk V q ≤ r
    · simp [x, y]; omega
    · simp [x, y]
theorem Ev_odd {V : VT} (w : WFP V) {f : Nat → Bool} {p q : Nat} (hp : p < vn V) (hq : q < vn V) (n : q ≠ p) (c : f p = true) (d : f q = true) (o : ∀ r, r < 9 → decide (rk V p ≤ r) ≠ decide (rk V q ≤ r) → cl V f r % 2 = 1) : Ev V f = ad (rk V p) (rk V q) + Ev V (rmF (rmF f p) q) := by
  rw [← ad_sm (w.2.1 p hp).2.2.1 (w.2.1 q hq).2.2.1]
  unfold Ev
  rw [← fb_sm_add]
  refine fb_sm_cong (fun r hr => ?_)
  show cl V f r % 2 = (if decide (rk V p ≤ r) = decide (rk V q ≤ r) then 0 else 1) + cl V (rmF (rmF f p) q) r % 2
  have o := o r hr
  rw [cl_rm hp c r, cl_rm hq (by rw [rm_ne n]; exact d) r] at o ⊢
  by_cases x : rk V p ≤ r
  · by_cases y : rk V q ≤ r
    · simp only [x, y, if_true]; omega
    · simp [x, y] at o ⊢; omega
  · by_cases y : rk V q ≤ r
    · simp [x, y] at o ⊢; omega
    · simp [x, y]
theorem arg_max {P : Nat → Bool} {g : Nat → Nat} : ∀ {n : Nat}, (∃ q, q < n ∧ P q = true) → ∃ q, q < n ∧ P q = true ∧ ∀ s, s < n → P s = true → g s ≤ g q
  | 0, ⟨q, h, _⟩ => absurd h (Nat.not_lt_zero _)
  | n + 1, ⟨q, h, c⟩ => by
    by_cases e : ∃ q, q < n ∧ P q = true
    · obtain ⟨a, a1, a2, a3⟩ := arg_max (g := g) e
      by_cases d : P n = true ∧ g a < g n
      · refine ⟨n, by omega, d.1, fun s hs hp => ?_⟩
        by_cases z : s = n
        · subst z; omega
        · have := a3 s (by omega) hp; omega
      · refine ⟨a, by omega, a2, fun s hs hp => ?_⟩
        by_cases z : s = n
        · subst z
          rcases Nat.lt_or_ge (g a) (g s) with y | y
          · exact absurd ⟨hp, y⟩ d
          · exact y
        · exact a3 s (by omega) hp
    · have z : q = n := by
        rcases Nat.lt_or_ge q n with y | y
        · exact absurd ⟨q, y, c⟩ e
        · omega
      subst z
      refine ⟨q, by omega, c, fun s hs hp => ?_⟩
      by_cases z : s = q
      · subst z; omega
      · exact absurd ⟨s, by omega, hp⟩ e
theorem arg_min {P : Nat → Bool} {g : Nat → Nat} {B n : Nat} (hB : ∀ q, q < n → g q ≤ B) (h : ∃ q, q < n ∧ P q = true) : ∃ q, q < n ∧ P q = true ∧ ∀ s, s < n → P s = true → g q ≤ g s := by
  obtain ⟨q, q1, q2, q3⟩ := arg_max (g := fun q => B - g q) h
  refine ⟨q, q1, q2, fun s hs hp => ?_⟩
  have q4 : B - g s ≤ B - g q := q3 s hs hp
  have := hB q q1
  have := hB s hs
  omega
theorem Ev_hit {V : VT} (w : WFP V) {f : Nat → Bool} {p : Nat} (hp : p < vn V) (c : f p = true) (ev : cf V f % 2 = 0) : ∃ q, q < vn V ∧ f q = true ∧ q ≠ p ∧ Ev V f = ad (rk V p) (rk V q) + Ev V (rmF (rmF f p) q) := by
  have r9 : ∀ q, q < vn V → rk V q ≤ 9 := fun q hq => (w.2.1 q hq).2.2.1
  by_cases o1 : fb_ct (fun s => f s && decide (rk V s < rk V p)) (vn V) % 2 = 1
  · obtain ⟨a, a1, a2⟩ := fb_ct_pos.mp (show 0 < fb_ct (fun s => f s && decide (rk V s < rk V p)) (vn V) by omega)
    obtain ⟨q, q1, q2, q3⟩ := arg_max (P := fun s => f s && decide (rk V s < rk V p)) (g := rk V) ⟨a, a1, a2⟩
    simp only [Bool.and_eq_true, decide_eq_true_eq] at q2 q3
    have n : q ≠ p := fun z => by rw [z] at q2; omega
    refine ⟨q, q1, q2.1, n, Ev_odd w hp q1 n c q2.1 (fun r hr ne => ?_)⟩
    have between : rk V q ≤ r ∧ r < rk V p := by
      by_cases x : rk V p ≤ r
      · by_cases y : rk V q ≤ r
        · exact absurd (by simp [x, y]) ne
        · omega
      · by_cases y : rk V q ≤ r
        · omega
        · exact absurd (by simp [x, y]) ne
    rw [← o1]
    congr 1
    refine fb_ct_cong (fun s hs => ?_)
    cases z : f s
    · rfl
    · rw [Bool.true_and, Bool.true_and]
      refine decide_eq_decide.mpr ⟨fun h => by omega, fun h => ?_⟩
      have := q3 s hs ⟨z, h⟩
      omega
  · by_cases o2 : cl V f (rk V p) % 2 = 1
    · have more : ∃ a, a < vn V ∧ (f a && decide (rk V p < rk V a)) = true := by
        have s := fb_ct_or (p := fun s => f s && decide (rk V s ≤ rk V p)) (q := fun s => f s && decide (rk V p < rk V s)) (n := vn V) (fun k _ z => by
          have z1 := z.1
          have z2 := z.2
          simp only [Bool.and_eq_true, decide_eq_true_eq] at z1 z2
          omega)
        have e : fb_ct (fun k => (f k && decide (rk V k ≤ rk V p)) || (f k && decide (rk V p < rk V k))) (vn V) = cf V f := fb_ct_cong (fun k _ => by
          cases f k
          · rfl
          · by_cases x : rk V k ≤ rk V p
            · simp [x]
            · simp [x]; omega)
        refine fb_ct_pos.mp ?_
        unfold cl at o2
        omega
      obtain ⟨q, q1, q2, q3⟩ := arg_min (P := fun s => f s && decide (rk V p < rk V s)) (g := rk V) r9 more
      simp only [Bool.and_eq_true, decide_eq_true_eq] at q2 q3
      have n : q ≠ p := fun z => by rw [z] at q2; omega
      refine ⟨q, q1, q2.1, n, Ev_odd w hp q1 n c q2.1 (fun r hr ne => ?_)⟩
      have between : rk V p ≤ r ∧ r < rk V q := by
        by_cases x : rk V p ≤ r
        · by_cases y : rk V q ≤ r
          · exact absurd (by simp [x, y]) ne
          · omega
        · by_cases y : rk V q ≤ r
          · omega
          · exact absurd (by simp [x, y]) ne
      rw [← o2]
      congr 1
      refine fb_ct_cong (fun s hs => ?_)
      cases z : f s
      · rfl
      · rw [Bool.true_and, Bool.true_and]
        refine decide_eq_decide.mpr ⟨fun h => ?_, fun h => by omega⟩
        rcases Nat.lt_or_ge (rk V p) (rk V s) with y | y
        · have := q3 s hs ⟨z, y⟩; omega
        · exact y
    · have same : 2 ≤ fb_ct (fun s => f s && decide (rk V s = rk V p)) (vn V) := by
        have s := fb_ct_or (p := fun s => f s && decide (rk V s < rk V p)) (q := fun s => f s && decide (rk V s = rk V p)) (n := vn V) (fun k _ z => by
          have z1 := z.1
          have z2 := z.2
          simp only [Bool.and_eq_true, decide_eq_true_eq] at z1 z2
          omega)
        have e : fb_ct (fun k => (f k && decide (rk V k < rk V p)) || (f k && decide (rk V k = rk V p))) (vn V) = cl V f (rk V p) := fb_ct_cong (fun k _ => by
          cases f k
          · rfl
          · simp only [Bool.true_and]
            rw [← Bool.decide_or]
            exact decide_eq_decide.mpr (by omega))
        have pos : 0 < fb_ct (fun s => f s && decide (rk V s = rk V p)) (vn V) := fb_ct_pos.mpr ⟨p, hp, by simp [c]⟩
        omega
      have ex : ∃ q, q < vn V ∧ q ≠ p ∧ f q = true ∧ rk V q = rk V p := by
        refine Classical.byContradiction (fun no => ?_)
        have := ct_one (P := fun s => f s && decide (rk V s = rk V p)) (n := vn V) (fun a b ha hb ca cb => by
          simp only [Bool.and_eq_true, decide_eq_true_eq] at ca cb
          have x : a = p := Classical.byContradiction (fun z => no ⟨a, ha, z, ca⟩)
          have y : b = p := Classical.byContradiction (fun z => no ⟨b, hb, z, cb⟩)
          omega)
        omega
      obtain ⟨q, q1, q2, q3, q4⟩ := ex
      exact ⟨q, q1, q3, q2, Ev_odd w hp q1 q2 c q3 (fun r _ ne => absurd (by rw [q4]) ne)⟩
/-- the least of a set: one may be left -/
def mnF (V : VT) (f : Nat → Bool) : Nat → Nat | 0 => 1000 | i + 1 => if f i then (if Ev V (rmF f i) < mnF V f i then Ev V (rmF f i) else mnF V f i) else mnF V f i
def Lv (V : VT) (f : Nat → Bool) : Nat := if cf V f % 2 = 0 then Ev V f else mnF V f (vn V)
def ph (V : VT) (f : Nat → Bool) : Nat := 1000 * (cf V f % 2) + Lv V f
theorem mn_le {V : VT} {f : Nat → Bool} : ∀ {i q : Nat}, q < i → f q = true → mnF V f i ≤ Ev V (rmF f q)
  | 0, q, h, _ => absurd h (Nat.not_lt_zero _)
  | i + 1, q, h, c => by
    rw [mnF]
    by_cases e : q = i
    · subst e; rw [if_pos c]; split <;> omega
    · have := mn_le (V := V) (f := f) (i := i) (q := q) (by omega) c
      split
      · split <;> omega
      · exact this
theorem mn_hit {V : VT} {f : Nat → Bool} : ∀ {i : Nat}, (∃ q, q < i ∧ f q = true) → ∃ q, q < i ∧ f q = true ∧ mnF V f i = Ev V (rmF f q)
  | 0, ⟨q, h, _⟩ => absurd h (Nat.not_lt_zero _)
  | i + 1, ⟨q, h, c⟩ => by
    rw [mnF]
    by_cases e : ∃ q, q < i ∧ f q = true
    · obtain ⟨a, a1, a2, a3⟩ := mn_hit (V := V) e
      by_cases d : f i = true
      · rw [if_pos d]
        by_cases x : Ev V (rmF f i) < mnF V f i
        · rw [if_pos x]; exact ⟨i, by omega, d, rfl⟩
        · rw [if_neg x]; exact ⟨a, by omega, a2, a3⟩
      · rw [if_neg d]; exact ⟨a, by omega, a2, a3⟩
    · have z : q = i := by
        rcases Nat.lt_or_ge q i with y | y
        · exact absurd ⟨q, y, c⟩ e
        · omega
      subst z
      have m : mnF V f q = 1000 := by
        have k : ∀ j, j ≤ q → mnF V f j = 1000 := by
          intro j
          induction j with
          | zero => intro _; rfl
          | succ j ih =>
            intro hj
            rw [mnF, if_neg (fun fj => e ⟨j, by omega, fj⟩)]
            exact ih (by omega)
        exact k q (Nat.le_refl _)
      have l := Ev_le V (rmF f q)
      rw [if_pos c, m, if_pos (by omega)]
      exact ⟨q, by omega, c, rfl⟩
theorem mn_cong {V : VT} {f g : Nat → Bool} (h : ∀ p, p < vn V → f p = g p) : ∀ {i : Nat}, i ≤ vn V → mnF V f i = mnF V g i
  | 0, _ => rfl
  | i + 1, hi => by
    have e : Ev V (rmF f i) = Ev V (rmF g i) := Ev_cong (fun p hp => by unfold rmF; rw [h p hp])
    rw [mnF, mnF, mn_cong h (i := i) (by omega), h i (by omega), e]
theorem Lv_cong {V : VT} {f g : Nat → Bool} (h : ∀ p, p < vn V → f p = g p) : Lv V f = Lv V g := by
  unfold Lv
  rw [cf_cong h, Ev_cong h, mn_cong h (Nat.le_refl _)]
theorem ph_cong {V : VT} {f g : Nat → Bool} (h : ∀ p, p < vn V → f p = g p) : ph V f = ph V g := by
  unfold ph
  rw [cf_cong h, Lv_cong h]
theorem Lv_le {V : VT} (f : Nat → Bool) : Lv V f ≤ 9 := by
  unfold Lv
  split
  · exact Ev_le V f
  · rename_i h
    obtain ⟨q, q1, q2⟩ := fb_ct_pos.mp (show 0 < fb_ct f (vn V) by unfold cf at h; omega)
    have := mn_le (V := V) q1 q2
    have := Ev_le V (rmF f q)
    omega
theorem ph_rec {V : VT} (w : WFP V) {f : Nat → Bool} {p : Nat} (hp : p < vn V) (c : f p = true) : ph V f ≤ 1000 + ph V (rmF f p) ∧ (∀ o, o < vn V → f o = true → o ≠ p → ph V f ≤ ad (rk V p) (rk V o) + ph V (rmF (rmF f p) o)) ∧ (ph V f = 1000 + ph V (rmF f p) ∨ ∃ o, o < vn V ∧ f o = true ∧ o ≠ p ∧ ph V f = ad (rk V p) (rk V o) + ph V (rmF (rmF f p) o)) := by
  have c1 := cf_rm hp c
  have c2 : ∀ o, o < vn V → f o = true → o ≠ p → cf V (rmF f p) = cf V (rmF (rmF f p) o) + 1 := fun o ho co no => cf_rm ho (by rw [rm_ne no]; exact co)
  have l0 := Lv_le (V := V) f
  have l1 := Lv_le (V := V) (rmF f p)
  by_cases ev : cf V f % 2 = 0
  · have e0 : Lv V f = Ev V f := if_pos ev
    have le2 : ∀ o, o < vn V → f o = true → o ≠ p → ph V f ≤ ad (rk V p) (rk V o) + ph V (rmF (rmF f p) o) := by
      intro o ho co no
      have c3 := c2 o ho co no
      have e1 : Lv V (rmF (rmF f p) o) = Ev V (rmF (rmF f p) o) := if_pos (by omega)
      have t := Ev_tri w hp ho no c co
      unfold ph
      rw [e0, e1]
      omega
    refine ⟨by unfold ph; omega, le2, Or.inr ?_⟩
    obtain ⟨o, o1, o2, o3, o4⟩ := Ev_hit w hp c ev
    refine ⟨o, o1, o2, o3, ?_⟩
    have c3 := c2 o o1 o2 o3
    have e1 : Lv V (rmF (rmF f p) o) = Ev V (rmF (rmF f p) o) := if_pos (by omega)
    unfold ph
    rw [e0, e1]
    omega
  · have e0 : Lv V f = mnF V f (vn V) := if_neg ev
    have e1 : Lv V (rmF f p) = Ev V (rmF f p) := if_pos (by omega)
    have le2 : ∀ o, o < vn V → f o = true → o ≠ p → ph V f ≤ ad (rk V p) (rk V o) + ph V (rmF (rmF f p) o) := by
      intro o ho co no
      have c3 := c2 o ho co no
      have e2 : Lv V (rmF (rmF f p) o) = mnF V (rmF (rmF f p) o) (vn V) := if_neg (by omega)
      obtain ⟨q, q1, q2, q3⟩ := mn_hit (V := V) (f := rmF (rmF f p) o) (i := vn V) (fb_ct_pos.mp (show 0 < fb_ct (rmF (rmF f p) o) (vn V) by unfold cf at c3 c1 ev; omega))
      have qo : q ≠ o := fun z => by rw [z, rm_eq] at q2; cases q2
      have qp : q ≠ p := fun z => by rw [rm_ne qo, z, rm_eq] at q2; cases q2
      have fq : f q = true := by rw [rm_ne qo, rm_ne qp] at q2; exact q2
      have t := Ev_tri w (f := rmF f q) hp ho no (by rw [rm_ne (fun z => qp z.symm)]; exact c) (by rw [rm_ne (fun z => qo z.symm)]; exact co)
      have m := mn_le (V := V) q1 fq
      have x : Ev V (rmF (rmF (rmF f q) p) o) = Ev V (rmF (rmF (rmF f p) o) q) := Ev_cong (fun s _ => by unfold rmF; cases f s <;> cases decide (s = p) <;> cases decide (s = q) <;> cases decide (s = o) <;> rfl)
      unfold ph
      rw [e0, e2, q3]
      omega
    refine ⟨?_, le2, ?_⟩
    · have := mn_le (V := V) hp c
      unfold ph
      rw [e0, e1]
      omega
    · obtain ⟨q, q1, q2, q3⟩ := mn_hit (V := V) (f := f) (i := vn V) ⟨p, hp, c⟩
      by_cases qp : q = p
      · subst qp
        refine Or.inl ?_
        unfold ph
        rw [e0, e1, q3]
        omega
      · refine Or.inr ?_
        have cq9 := cf_rm q1 q2
        obtain ⟨o, o1, o2, o3, o4⟩ := Ev_hit w (f := rmF f q) hp (by rw [rm_ne (fun z => qp z.symm)]; exact c) (by omega)
        have oq : o ≠ q := fun z => by rw [z, rm_eq] at o2; cases o2
        have fo : f o = true := by rw [rm_ne oq] at o2; exact o2
        refine ⟨o, o1, fo, o3, ?_⟩
        have c3 := c2 o o1 fo o3
        have e2 : Lv V (rmF (rmF f p) o) = mnF V (rmF (rmF f p) o) (vn V) := if_neg (by omega)
        have m := mn_le (V := V) (f := rmF (rmF f p) o) q1 (by rw [rm_ne (fun z => oq z.symm), rm_ne qp]; exact q2)
        have x : Ev V (rmF (rmF (rmF f q) p) o) = Ev V (rmF (rmF (rmF f p) o) q) := Ev_cong (fun s _ => by unfold rmF; cases f s <;> cases decide (s = p) <;> cases decide (s = q) <;> cases decide (s = o) <;> rfl)
        have y := le2 o o1 fo o3
        unfold ph at y ⊢
        rw [e0, e2, q3] at *
        omega
/-- what is left of a house -/
def lf (V : VT) (s h : Nat) : Nat → Bool := fun p => !s.testBit p && decide (ho V p = h)
def PH (V : VT) (s : Nat) : Nat := fb_sm (fun h => ph V (lf V s h)) (vh V)
theorem or_bit (s p q : Nat) : (s ||| 2 ^ p).testBit q = (s.testBit q || decide (p = q)) := by rw [Nat.testBit_or, Nat.testBit_two_pow]
theorem lf_or_in {V : VT} {s p h : Nat} (e : ho V p = h) : lf V (s ||| 2 ^ p) h = rmF (lf V s h) p := by
  funext q
  unfold lf rmF
  rw [or_bit]
  by_cases z : q = p
  · subst z; simp
  · rw [decide_eq_false z, decide_eq_false (fun y => z y.symm)]; simp
theorem lf_or_out {V : VT} {s p h : Nat} (e : ho V p ≠ h) : lf V (s ||| 2 ^ p) h = lf V s h := by
  funext q
  unfold lf
  rw [or_bit]
  by_cases z : q = p
  · subst z; rw [decide_eq_false e]; simp
  · rw [decide_eq_false (fun y => z y.symm)]; simp
theorem PH_or {V : VT} (w : WFP V) {s p : Nat} (hp : p < vn V) : PH V (s ||| 2 ^ p) + ph V (lf V s (ho V p)) = PH V s + ph V (rmF (lf V s (ho V p)) p) := by
  have u := fb_sm_upd (fun h => ph V (lf V s h)) (ph V (rmF (lf V s (ho V p)) p)) (i := ho V p) (n := vh V) (w.2.1 p hp).1
  refine Eq.trans ?_ u
  congr 1
  refine fb_sm_cong (fun h _ => ?_)
  by_cases e : h = ho V p
  · subst e; rw [if_pos rfl, lf_or_in rfl]
  · rw [if_neg e, lf_or_out (fun z => e z.symm)]
theorem PH_or2 {V : VT} (w : WFP V) {s p o : Nat} (hp : p < vn V) (ho9 : o < vn V) (e : ho V o = ho V p) : PH V (s ||| 2 ^ p ||| 2 ^ o) + ph V (lf V s (ho V p)) = PH V s + ph V (rmF (rmF (lf V s (ho V p)) p) o) := by
  have a := PH_or w (s := s) hp
  have b := PH_or w (s := s ||| 2 ^ p) ho9
  rw [e, lf_or_in rfl] at b
  omega
theorem PH_le {V : VT} (w : WFP V) (s : Nat) : PH V s ≤ 13117 := by
  have := fb_sm_bound (f := fun h => ph V (lf V s h)) (c := 1009) (n := vh V) (fun h _ => by
    show ph V (lf V s h) ≤ 1009
    have := Lv_le (V := V) (lf V s h)
    unfold ph
    omega)
  have := w.1.2.1
  unfold PH
  omega
