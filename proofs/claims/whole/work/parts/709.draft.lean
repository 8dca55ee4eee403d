/-! a draft of a village, seen by both -/
theorem nb_f {b : Bool} (h : (!b) = true) : b = false := by
  cases b
  · rfl
  · cases h
abbrev DV : Type := (Nat × Nat) × (Nat → Nat) × (Nat → Nat) × (Nat → Nat) × (Nat → Bool)
def dvn (D : DV) : Nat := D.1.1
def dvh (D : DV) : Nat := D.1.2
def dvo (D : DV) : Nat → Nat := D.2.1
def dvp (D : DV) : Nat → Nat := D.2.2.1
def dvr (D : DV) : Nat → Nat := D.2.2.2.1
def dvx (D : DV) : Nat → Bool := D.2.2.2.2
def szo (D : DV) (k : Nat) : Nat := fb_ct (fun p => decide (dvo D p = k) && !dvx D p) (dvn D)
/-- who has a house lives below hb -/
def DW (D : DV) (hb : Nat) : Prop := dvn D ≤ 12 ∧ (∀ p, p < dvn D → dvr D p ≤ 9) ∧ (∀ p, p < dvn D → dvx D p = false → dvo D p < hb ∧ dvp D p < szo D (dvo D p)) ∧ (∀ p q, p < dvn D → q < dvn D → dvx D p = false → dvx D q = false → dvo D p = dvo D q → dvp D p = dvp D q → p = q) ∧ ∀ k, k < dvh D → 0 < szo D k
theorem DW.hn {D : DV} (w : DW D (dvh D)) : dvh D ≤ dvn D := by
  have d := dbl (dvo D) (fun p => !dvx D p) (dvh D) (dvn D) (fun p hp c => (w.2.2.1 p hp (nb_f c)).1)
  have g := sm_ge (f := szo D) (m := dvh D) (fun k hk => w.2.2.2.2 k hk)
  have l := fb_ct_le (fun p => !dvx D p) (dvn D)
  change fb_sm (szo D) (dvh D) = _ at d
  omega
def DC (v : Ob) (D : DV) (hb : Nat) : Prop := (v.1 0 = nI (dvn D) ∧ v.1 1 = nI hb ∧ v.1 2 = 0) ∧ (∀ p, p < dvn D → v.2 1 p = nI (dvr D p) ∧ v.2 2 p = (if dvx D p then mO else nI (dvo D p)) ∧ (dvx D p = false → v.2 3 p = nI (dvp D p)) ∧ v.2 4 p = 0 ∧ v.2 5 p = 0) ∧ ∀ k, k < hb → v.2 6 k = nI (szo D k) ∧ v.2 7 k = 0
def DM (M : MS) (D : DV) : Prop := M.1 20 = nI (dvn D) ∧ (M.2.2 6 0 = 0 ∧ M.2.2 6 1 = nI (dvh D)) ∧ (∀ p, p < dvn D → M.2.2 6 (50 + p) = nI (dvr D p) ∧ M.2.2 6 (2 + p) = (if dvx D p then mO else nI (dvo D p)) ∧ (dvx D p = false → M.2.2 6 (14 + p) = nI (dvp D p))) ∧ ∀ i, (26 ≤ i ∧ i < 50) ∨ (62 ≤ i ∧ i < 86) → M.2.2 6 i = 0
theorem DM.fr {M r : MS} {D : DV} (h : DM M D) (h1 : r.1 20 = M.1 20) (h2 : r.2.2 6 = M.2.2 6) : DM r D := by
  refine ⟨h1.trans h.1, ⟨by rw [h2]; exact h.2.1.1, by rw [h2]; exact h.2.1.2⟩, fun p hp => by rw [h2]; exact h.2.2.1 p hp, fun i hi => by rw [h2]; exact h.2.2.2 i hi⟩
/-- one person more -/
def dAdd (D : DV) (r : Nat) : DV := ((dvn D + 1, dvh D), dvo D, dvp D, fun p => if p = dvn D then r else dvr D p, fun p => if p = dvn D then true else dvx D p)
theorem szo_add {D : DV} {r k : Nat} : szo (dAdd D r) k = szo D k := by
  show fb_ct (fun p => decide (dvo D p = k) && !(if p = dvn D then true else dvx D p)) (dvn D + 1) = _
  rw [fb_ct_succ]
  rw [if_pos rfl, Bool.not_true, Bool.and_false, if_neg (by decide), Nat.add_zero]
  exact fb_ct_cong (fun p hp => by rw [if_neg (by omega)])
theorem DW_add {D : DV} {r hb : Nat} (w : DW D hb) (h : dvn D < 12) (hr : r ≤ 9) : DW (dAdd D r) hb := by
  obtain ⟨w1, w2, w3, w4, w5⟩ := w
  have xn : ∀ p, dvx (dAdd D r) p = false → p ≠ dvn D ∧ dvx D p = false := by
    intro p hp
    change (if p = dvn D then true else dvx D p) = false at hp
    by_cases e : p = dvn D
    · rw [if_pos e] at hp; cases hp
    · rw [if_neg e] at hp; exact ⟨e, hp⟩
  refine ⟨?_, fun p hp => ?_, fun p hp hx => ?_, fun p q hp hq hx hy e1 e2 => ?_, fun k hk => ?_⟩
  · show dvn D + 1 ≤ 12; omega
  · have hp : p < dvn D + 1 := hp
    show (if p = dvn D then r else dvr D p) ≤ 9
    by_cases e : p = dvn D
    · rw [if_pos e]; exact hr
    · rw [if_neg e]; exact w2 p (by omega)
  · have hp : p < dvn D + 1 := hp
    obtain ⟨x1, x2⟩ := xn p hx
    rw [szo_add]
    exact w3 p (by omega) x2
  · have hp : p < dvn D + 1 := hp
    have hq : q < dvn D + 1 := hq
    obtain ⟨x1, x2⟩ := xn p hx
    obtain ⟨y1, y2⟩ := xn q hy
    exact w4 p q (by omega) (by omega) x2 y2 e1 e2
  · rw [szo_add]; exact w5 k hk
/-- one comes into the house that is told -/
def dEnt (D : DV) (q : Nat) : DV := (D.1, fun p => if p = q then dvh D else dvo D p, fun p => if p = q then szo D (dvh D) else dvp D p, dvr D, fun p => if p = q then false else dvx D p)
theorem szo_ent {D : DV} {q k : Nat} (hq : q < dvn D) (hx : dvx D q = true) : szo (dEnt D q) k = szo D k + (if k = dvh D then 1 else 0) := by
  have u := fb_ct_upd (fun p => decide (dvo D p = k) && !dvx D p) (decide (dvh D = k)) hq
  have e : szo (dEnt D q) k = fb_ct (fun p => if p = q then decide (dvh D = k) else (decide (dvo D p = k) && !dvx D p)) (dvn D) := fb_ct_cong (fun p hp => by
    show (decide ((if p = q then dvh D else dvo D p) = k) && !(if p = q then false else dvx D p)) = _
    by_cases e : p = q
    · rw [if_pos e, if_pos e, if_pos e, Bool.not_false, Bool.and_true]
    · rw [if_neg e, if_neg e, if_neg e])
  rw [e]
  rw [hx, Bool.not_true, Bool.and_false, if_neg (by decide)] at u
  unfold szo
  by_cases c : k = dvh D
  · rw [if_pos c]
    rw [if_pos (decide_eq_true c.symm)] at u
    omega
  · rw [if_neg c]
    rw [if_neg (by rw [decide_eq_false (fun z => c z.symm)]; decide)] at u
    omega
theorem DW_ent {D : DV} {q : Nat} (w : DW D (dvh D + 1)) (hq : q < dvn D) (hx : dvx D q = true) : DW (dEnt D q) (dvh D + 1) := by
  obtain ⟨w1, w2, w3, w4, w5⟩ := w
  have xn : ∀ p, p ≠ q → dvx (dEnt D q) p = false → dvx D p = false := fun p e hp => by
    change (if p = q then false else dvx D p) = false at hp
    rw [if_neg e] at hp; exact hp
  have o1 : ∀ p, p ≠ q → dvo (dEnt D q) p = dvo D p ∧ dvp (dEnt D q) p = dvp D p := fun p e => ⟨if_neg e, if_neg e⟩
  have o2 : dvo (dEnt D q) q = dvh D ∧ dvp (dEnt D q) q = szo D (dvh D) := ⟨if_pos rfl, if_pos rfl⟩
  refine ⟨w1, w2, fun p hp hx9 => ?_, fun p r hp hr hx9 hy e1 e2 => ?_, fun k hk => ?_⟩
  · by_cases e : p = q
    · subst e
      rw [o2.1, o2.2, szo_ent hq hx, if_pos rfl]
      exact ⟨by omega, by omega⟩
    · obtain ⟨a, b⟩ := w3 p hp (xn p e hx9)
      rw [(o1 p e).1, (o1 p e).2, szo_ent hq hx]
      exact ⟨a, by omega⟩
  · by_cases e : p = q
    · by_cases e9 : r = q
      · rw [e, e9]
      · exfalso
        subst e
        rw [o2.1, (o1 r e9).1] at e1
        rw [o2.2, (o1 r e9).2] at e2
        have := (w3 r hr (xn r e9 hy)).2
        rw [← e1] at this
        omega
    · by_cases e9 : r = q
      · exfalso
        subst e9
        rw [o2.1, (o1 p e).1] at e1
        rw [o2.2, (o1 p e).2] at e2
        have := (w3 p hp (xn p e hx9)).2
        rw [e1] at this
        omega
      · rw [(o1 p e).1, (o1 r e9).1] at e1
        rw [(o1 p e).2, (o1 r e9).2] at e2
        exact w4 p r hp hr (xn p e hx9) (xn r e9 hy) e1 e2
  · have hk : k < dvh D := hk
    rw [szo_ent hq hx]
    have := w5 k hk
    omega
def dEnd (D : DV) : DV := ((dvn D, dvh D + 1), D.2)
theorem DW_end {D : DV} (w : DW D (dvh D + 1)) (h : 0 < szo D (dvh D)) : DW (dEnd D) (dvh D + 1) := by
  obtain ⟨w1, w2, w3, w4, w5⟩ := w
  refine ⟨w1, w2, w3, w4, fun k hk => ?_⟩
  have hk : k < dvh D + 1 := hk
  by_cases e : k = dvh D
  · rw [e]; exact h
  · exact w5 k (by omega)
/-! all have houses at the end -/
def dRest (D : DV) (i : Nat) : Nat := fb_ct (dvx D) i
def dFin (D : DV) : VT := mkV (dvn D) (dvh D + dRest D (dvn D)) 0 (fun p => if dvx D p then dvh D + dRest D p else dvo D p) (fun p => if dvx D p then 0 else dvp D p) (fun _ => 0) (dvr D) (fun _ => 0) (fun _ => 0) (fun _ => 0)
theorem sz_fin_o {D : DV} {k : Nat} (hk : k < dvh D) : sz (dFin D) k = szo D k := fb_ct_cong (fun p _ => by
  show decide ((if dvx D p then dvh D + dRest D p else dvo D p) = k) = (decide (dvo D p = k) && !dvx D p)
  cases e : dvx D p
  · rw [if_neg (by decide), Bool.not_false, Bool.and_true]
  · rw [if_pos rfl, Bool.not_true, Bool.and_false]
    exact decide_eq_false (by omega))
theorem sz_fin_n {D : DV} (w : DW D (dvh D)) {p : Nat} (hp : p < dvn D) (hx : dvx D p = true) : sz (dFin D) (dvh D + dRest D p) = 1 := by
  have le : sz (dFin D) (dvh D + dRest D p) ≤ 1 := ct_one (fun a b ha hb c1 c2 => by
    have ha : a < dvn D := ha
    have hb : b < dvn D := hb
    have c1 : (if dvx D a then dvh D + dRest D a else dvo D a) = dvh D + dRest D p := of_decide_eq_true c1
    have c2 : (if dvx D b then dvh D + dRest D b else dvo D b) = dvh D + dRest D p := of_decide_eq_true c2
    cases ea : dvx D a
    · rw [ea, if_neg (by decide)] at c1
      have := (w.2.2.1 a ha ea).1; omega
    · cases eb : dvx D b
      · rw [eb, if_neg (by decide)] at c2
        have := (w.2.2.1 b hb eb).1; omega
      · rw [ea, if_pos rfl] at c1
        rw [eb, if_pos rfl] at c2
        exact fb_ct_kth_one ea eb (show fb_ct (dvx D) a = fb_ct (dvx D) b by unfold dRest at c1 c2; omega))
  have ge : 0 < sz (dFin D) (dvh D + dRest D p) := fb_ct_pos.mpr ⟨p, hp, decide_eq_true (by
    show (if dvx D p then dvh D + dRest D p else dvo D p) = dvh D + dRest D p
    rw [hx, if_pos rfl])⟩
  omega
theorem WFV_fin {D : DV} (w : DW D (dvh D)) : WFV (dFin D) := by
  have hn := w.hn
  have w9 := w
  obtain ⟨w1, w2, w3, w4, w5⟩ := w9
  have d := dbl (dvo D) (fun p => !dvx D p) (dvh D) (dvn D) (fun p hp c => (w3 p hp (nb_f c)).1)
  have g := sm_ge (f := szo D) (m := dvh D) (fun k hk => w5 k hk)
  change fb_sm (szo D) (dvh D) = _ at d
  have tot : fb_ct (fun p => !dvx D p) (dvn D) + dRest D (dvn D) = dvn D := by
    have o := fb_ct_or (p := fun p => !dvx D p) (q := dvx D) (n := dvn D) (fun k _ c => by
      have c1 := c.1
      rw [c.2] at c1; cases c1)
    have a : fb_ct (fun k => (!dvx D k) || dvx D k) (dvn D) = dvn D := fb_ct_all.mpr (fun k _ => by cases dvx D k <;> rfl)
    unfold dRest
    omega
  have rl : ∀ p, p < dvn D → dvx D p = true → dRest D p < dRest D (dvn D) := fun p hp hx => ct_lt hp hx
  have hoF : ∀ p, ho (dFin D) p = if dvx D p then dvh D + dRest D p else dvo D p := fun _ => rfl
  have plF : ∀ p, pl (dFin D) p = if dvx D p then 0 else dvp D p := fun _ => rfl
  refine ⟨⟨⟨w1, ?_, Nat.zero_le _⟩, fun p hp => ?_, fun p q hp hq e1 e2 => ?_, fun h _ => Nat.le_refl _⟩, fun k hk => ?_⟩
  · show dvh D + dRest D (dvn D) ≤ 13
    omega
  · have hp : p < dvn D := hp
    rw [hoF, plF]
    cases e : dvx D p
    · obtain ⟨a, b⟩ := w3 p hp e
      rw [if_neg (by decide), if_neg (by decide), sz_fin_o a]
      exact ⟨by show dvo D p < dvh D + dRest D (dvn D); omega, b, w2 p hp, Nat.le_refl _⟩
    · rw [if_pos rfl, if_pos rfl, sz_fin_n w hp e]
      exact ⟨by show dvh D + dRest D p < dvh D + dRest D (dvn D); have := rl p hp e; omega, by omega, w2 p hp, Nat.le_refl _⟩
  · have hp : p < dvn D := hp
    have hq : q < dvn D := hq
    rw [hoF, hoF] at e1
    rw [plF, plF] at e2
    cases ea : dvx D p
    · rw [ea, if_neg (by decide)] at e1 e2
      have := (w3 p hp ea).1
      cases eb : dvx D q
      · rw [eb, if_neg (by decide)] at e1 e2
        exact w4 p q hp hq ea eb e1 e2
      · rw [eb, if_pos rfl] at e1; omega
    · rw [ea, if_pos rfl] at e1 e2
      cases eb : dvx D q
      · have := (w3 q hq eb).1
        rw [eb, if_neg (by decide)] at e1; omega
      · rw [eb, if_pos rfl] at e1
        exact fb_ct_kth_one ea eb (show fb_ct (dvx D) p = fb_ct (dvx D) q by unfold dRest at e1; omega)
  · have hk : k < dvh D + dRest D (dvn D) := hk
    rcases Nat.lt_or_ge k (dvh D) with q | q
    · rw [sz_fin_o q]; exact w5 k q
    · obtain ⟨a, h1, h2, h3⟩ := fb_ct_kth (p := dvx D) (n := dvn D) (k := k - dvh D) (by unfold dRest at hk; omega)
      have e : k = dvh D + dRest D a := by unfold dRest; omega
      rw [e, sz_fin_n w h1 h2]; omega
