/-! counting -/
theorem ct_one {P : Nat → Bool} : ∀ {n : Nat}, (∀ p q, p < n → q < n → P p = true → P q = true → p = q) → fb_ct P n ≤ 1
  | 0, _ => Nat.zero_le _
  | n + 1, h => by
    rw [fb_ct_succ]
    by_cases c : P n = true
    · have z : fb_ct P n = 0 := fb_ct_zero.mpr (fun k hk => by
        by_cases ck : P k = true
        · exact absurd (h k n (by omega) (by omega) ck c) (by omega)
        · exact Bool.eq_false_iff.mpr ck)
      rw [z, if_pos c]
      omega
    · rw [if_neg c]
      have := ct_one (n := n) (fun p q hp hq => h p q (by omega) (by omega))
      omega
theorem sm_one (a v : Nat) : ∀ m, fb_sm (fun h => if h = a then v else 0) m = if a < m then v else 0
  | 0 => rfl
  | m + 1 => by
    rw [fb_sm_succ, sm_one a v m]
    by_cases c : m = a
    · subst c; simp
    · by_cases c2 : a < m
      · rw [if_pos c2, if_neg c, if_pos (by omega)]; rfl
      · rw [if_neg c2, if_neg c, if_neg (by omega)]
theorem dbl (f : Nat → Nat) (P : Nat → Bool) (m : Nat) : ∀ n, (∀ p, p < n → P p = true → f p < m) → fb_sm (fun h => fb_ct (fun p => decide (f p = h) && P p) n) m = fb_ct P n
  | 0, _ => by
    have e : fb_sm (fun h => fb_ct (fun p => decide (f p = h) && P p) 0) m = fb_sm (fun _ => 0) m := fb_sm_cong (fun _ _ => rfl)
    rw [e, fb_sm_const]; rfl
  | n + 1, h => by
    have e : fb_sm (fun h => fb_ct (fun p => decide (f p = h) && P p) (n + 1)) m = fb_sm (fun h => fb_ct (fun p => decide (f p = h) && P p) n + (if h = f n then (if P n then 1 else 0) else 0)) m := fb_sm_cong (fun k _ => by
      rw [fb_ct_succ]
      congr 1
      by_cases c : f n = k
      · subst c; simp
      · have c2 : ¬ k = f n := fun e => c e.symm
        simp [c, c2])
    rw [e, fb_sm_add, dbl f P m n (fun p hp => h p (by omega)), sm_one, fb_ct_succ]
    congr 1
    by_cases c : P n = true
    · rw [if_pos (h n (by omega) c)]
    · simp [c]
theorem sm_full {f : Nat → Nat} : ∀ {m : Nat}, (∀ k, k < m → f k ≤ 1) → fb_sm f m = m → ∀ k, k < m → f k = 1
  | 0, _, _, k, hk => absurd hk (Nat.not_lt_zero _)
  | m + 1, h, e, k, hk => by
    rw [fb_sm_succ] at e
    have b := fb_sm_bound (f := f) (c := 1) (n := m) (fun k hk => h k (by omega))
    have b2 := h m (by omega)
    rcases Nat.lt_or_ge k m with q | q
    · exact sm_full (fun k hk => h k (by omega)) (by omega) k q
    · have e2 : k = m := by omega
      subst e2; omega
theorem ct_sm {f : Nat → Nat} : ∀ {m : Nat}, (∀ k, k < m → f k ≤ 1) → fb_ct (fun k => decide (0 < f k)) m = fb_sm f m
  | 0, _ => rfl
  | m + 1, h => by
    rw [fb_ct_succ, fb_sm_succ, ct_sm (fun k hk => h k (by omega))]
    have := h m (by omega)
    congr 1
    by_cases c : 0 < f m
    · simp [c]; omega
    · simp [c]; omega
theorem sm_ge {f : Nat → Nat} : ∀ {m : Nat}, (∀ k, k < m → 1 ≤ f k) → m ≤ fb_sm f m
  | 0, _ => Nat.zero_le _
  | m + 1, h => by
    rw [fb_sm_succ]
    have := sm_ge (f := f) (m := m) (fun k hk => h k (by omega))
    have := h m (by omega)
    omega
theorem ct_lt {P : Nat → Bool} {h m : Nat} (hm : h < m) (c : P h = true) : fb_ct P h < fb_ct P m := by
  have h1 := fb_ct_mono P (show h + 1 ≤ m by omega)
  rw [fb_ct_succ, if_pos c] at h1
  omega
/-- the k-th of those who .. -/
def kt (P : Nat → Bool) (m k : Nat) : Nat := fa_first (fun h => P h && decide (fb_ct P h = k)) m
theorem kt_ct {P : Nat → Bool} {m h : Nat} (hm : h < m) (c : P h = true) : kt P m (fb_ct P h) = h := by
  unfold kt
  have hp : (fun j => P j && decide (fb_ct P j = fb_ct P h)) h = true := by simp [c]
  have le : fa_first (fun j => P j && decide (fb_ct P j = fb_ct P h)) m ≤ h := by
    rcases Nat.lt_or_ge h (fa_first (fun j => P j && decide (fb_ct P j = fb_ct P h)) m) with q | q
    · have := fa_first_no _ m h q
      rw [show (P h && decide (fb_ct P h = fb_ct P h)) = true from hp] at this
      cases this
    · exact q
  have y := fa_first_yes (fun j => P j && decide (fb_ct P j = fb_ct P h)) m (by omega)
  simp only [Bool.and_eq_true, decide_eq_true_eq] at y
  exact fb_ct_kth_one y.1 c y.2
theorem ct_true : ∀ n, fb_ct (fun _ => true) n = n
  | 0 => rfl
  | n + 1 => by rw [fb_ct_succ, ct_true n]; rfl
/-! one village, seen by both -/
abbrev VT : Type := (Nat → Nat) × (Nat → Nat → Nat) × (Nat → Nat → Int32)
def vn (V : VT) : Nat := V.1 0
def vh (V : VT) : Nat := V.1 1
def ve (V : VT) : Nat := V.1 2
def ho (V : VT) : Nat → Nat := V.2.1 0
def pl (V : VT) : Nat → Nat := V.2.1 1
def si (V : VT) : Nat → Nat := V.2.1 2
def rk (V : VT) : Nat → Nat := V.2.1 3
def ol (V : VT) : Nat → Nat := V.2.1 4
def mv (V : VT) : Nat → Int32 := V.2.2 0
def idd (V : VT) : Nat → Int32 := V.2.2 1
def mkV (n h e : Nat) (a b c d f : Nat → Nat) (m i : Nat → Int32) : VT := (fun k => if k = 0 then n else if k = 1 then h else e, fun k => if k = 0 then a else if k = 1 then b else if k = 2 then c else if k = 3 then d else f, fun k => if k = 0 then m else i)
theorem mk_vn (n h e : Nat) (a b c d f : Nat → Nat) (m i : Nat → Int32) : vn (mkV n h e a b c d f m i) = n := rfl
theorem mk_vh (n h e : Nat) (a b c d f : Nat → Nat) (m i : Nat → Int32) : vh (mkV n h e a b c d f m i) = h := rfl
theorem mk_ve (n h e : Nat) (a b c d f : Nat → Nat) (m i : Nat → Int32) : ve (mkV n h e a b c d f m i) = e := rfl
theorem mk_ho (n h e : Nat) (a b c d f : Nat → Nat) (m i : Nat → Int32) : ho (mkV n h e a b c d f m i) = a := rfl
theorem mk_pl (n h e : Nat) (a b c d f : Nat → Nat) (m i : Nat → Int32) : pl (mkV n h e a b c d f m i) = b := rfl
theorem mk_si (n h e : Nat) (a b c d f : Nat → Nat) (m i : Nat → Int32) : si (mkV n h e a b c d f m i) = c := rfl
theorem mk_rk (n h e : Nat) (a b c d f : Nat → Nat) (m i : Nat → Int32) : rk (mkV n h e a b c d f m i) = d := rfl
theorem mk_ol (n h e : Nat) (a b c d f : Nat → Nat) (m i : Nat → Int32) : ol (mkV n h e a b c d f m i) = f := rfl
theorem mk_mv (n h e : Nat) (a b c d f : Nat → Nat) (m i : Nat → Int32) : mv (mkV n h e a b c d f m i) = m := rfl
theorem mk_id (n h e : Nat) (a b c d f : Nat → Nat) (m i : Nat → Int32) : idd (mkV n h e a b c d f m i) = i := rfl
def sz (V : VT) (h : Nat) : Nat := fb_ct (fun p => decide (ho V p = h)) (vn V)
/-- houses may be empty -/
def WFP (V : VT) : Prop := (vn V ≤ 12 ∧ vh V ≤ 13 ∧ ve V ≤ 20000) ∧ (∀ p, p < vn V → ho V p < vh V ∧ pl V p < sz V (ho V p) ∧ rk V p ≤ 9 ∧ si V p ≤ ve V) ∧ (∀ p q, p < vn V → q < vn V → ho V p = ho V q → pl V p = pl V q → p = q) ∧ (∀ h, h < vh V → ol V h ≤ ve V)
def WFV (V : VT) : Prop := WFP V ∧ ∀ h, h < vh V → 0 < sz V h
theorem sz_pos {V : VT} {p : Nat} (h : p < vn V) : 0 < sz V (ho V p) := fb_ct_pos.mpr ⟨p, h, by simp⟩
theorem sz_ex {V : VT} {h : Nat} (c : 0 < sz V h) : ∃ p, p < vn V ∧ ho V p = h := by
  obtain ⟨p, h1, h2⟩ := fb_ct_pos.mp c
  exact ⟨p, h1, by simpa using h2⟩
theorem sz_le (V : VT) (h : Nat) : sz V h ≤ vn V := fb_ct_le _ _
theorem sz_sum {V : VT} (w : WFP V) : fb_sm (sz V) (vh V) = vn V := by
  have d := dbl (ho V) (fun _ => true) (vh V) (vn V) (fun p hp _ => (w.2.1 p hp).1)
  rw [ct_true] at d
  rw [← d]
  exact fb_sm_cong (fun k _ => fb_ct_cong (fun p _ => by simp))
theorem WFV.hn {V : VT} (w : WFV V) : vh V ≤ vn V := by
  have := sz_sum w.1
  have := sm_ge (f := sz V) (m := vh V) (fun k hk => w.2 k hk)
  omega
/-- who lives at a place -/
theorem WFP.at_ {V : VT} (w : WFP V) {h x : Nat} (hx : x < sz V h) : ∃ p, p < vn V ∧ ho V p = h ∧ pl V p = x := by
  have d := dbl (pl V) (fun p => decide (ho V p = h)) (sz V h) (vn V) (fun p hp c => by
    have e : ho V p = h := by simpa using c
    rw [← e]; exact (w.2.1 p hp).2.1)
  have o := sm_full (f := fun k => fb_ct (fun p => decide (pl V p = k) && decide (ho V p = h)) (vn V)) (m := sz V h) (fun k _ => ct_one (fun p q hp hq c1 c2 => by
    simp only [Bool.and_eq_true, decide_eq_true_eq] at c1 c2
    exact w.2.2.1 p q hp hq (by rw [c1.2, c2.2]) (by rw [c1.1, c2.1]))) d x hx
  have o2 : 0 < fb_ct (fun p => decide (pl V p = x) && decide (ho V p = h)) (vn V) := by
    have o3 : fb_ct (fun p => decide (pl V p = x) && decide (ho V p = h)) (vn V) = 1 := o
    omega
  obtain ⟨p, h1, h2⟩ := fb_ct_pos.mp o2
  simp only [Bool.and_eq_true, decide_eq_true_eq] at h2
  exact ⟨p, h1, h2.2, h2.1⟩
/-! houses that are empty fall -/
def ne (V : VT) (h : Nat) : Bool := decide (0 < sz V h)
def nx (V : VT) (h : Nat) : Nat := fb_ct (ne V) h
def dropV (V : VT) : VT := mkV (vn V) (nx V (vh V)) (ve V) (fun p => nx V (ho V p)) (pl V) (si V) (rk V) (fun k => ol V (kt (ne V) (vh V) k)) (mv V) (fun k => idd V (kt (ne V) (vh V) k))
theorem ne_ho {V : VT} {p : Nat} (h : p < vn V) : ne V (ho V p) = true := decide_eq_true (sz_pos h)
theorem nx_lt {V : VT} {a b : Nat} (h : a < b) (c : ne V a = true) : nx V a < nx V b := ct_lt h c
theorem nx_one {V : VT} {a b : Nat} (h1 : ne V a = true) (h2 : ne V b = true) (e : nx V a = nx V b) : a = b := fb_ct_kth_one h1 h2 e
theorem sz_drop {V : VT} {h : Nat} (c : ne V h = true) : sz (dropV V) (nx V h) = sz V h := by
  refine fb_ct_cong (fun p hp => decide_eq_decide.mpr ?_)
  exact ⟨fun e => nx_one (ne_ho hp) c e, fun e => congrArg (nx V) e⟩
theorem nx_kth {V : VT} {k : Nat} (h : k < nx V (vh V)) : ∃ a, a < vh V ∧ ne V a = true ∧ nx V a = k := fb_ct_kth h
theorem WFV_drop {V : VT} (w : WFP V) : WFV (dropV V) := by
  obtain ⟨⟨w1, w2, w3⟩, w4, w5, w6⟩ := w
  refine ⟨⟨⟨w1, Nat.le_trans (fb_ct_le _ _) w2, w3⟩, ?_, ?_, ?_⟩, ?_⟩
  · intro p hp
    have hp : p < vn V := hp
    obtain ⟨a1, a2, a3, a4⟩ := w4 p hp
    refine ⟨nx_lt a1 (ne_ho hp), ?_, a3, a4⟩
    show pl V p < sz (dropV V) (nx V (ho V p))
    rw [sz_drop (ne_ho hp)]
    exact a2
  · intro p q hp hq e1 e2
    exact w5 p q hp hq (nx_one (ne_ho hp) (ne_ho hq) e1) e2
  · intro k hk
    obtain ⟨a, h1, h2, h3⟩ := nx_kth (V := V) hk
    show ol V (kt (ne V) (vh V) k) ≤ ve V
    rw [← h3, show nx V a = fb_ct (ne V) a from rfl, kt_ct h1 h2]
    exact w6 a h1
  · intro k hk
    obtain ⟨a, h1, h2, h3⟩ := nx_kth (V := V) hk
    rw [← h3, sz_drop h2]
    exact of_decide_eq_true h2
/-- alike where it counts -/
def VE (V W : VT) : Prop := (vn V = vn W ∧ vh V = vh W ∧ ve V = ve W) ∧ (∀ p, p < vn V → ho V p = ho W p ∧ pl V p = pl W p ∧ si V p = si W p ∧ rk V p = rk W p ∧ mv V p = mv W p) ∧ ∀ h, h < vh V → ol V h = ol W h ∧ idd V h = idd W h
theorem VE.zs {V W : VT} (e : VE V W) (h : Nat) : sz V h = sz W h := by
  unfold sz
  rw [← e.1.1]
  exact fb_ct_cong (fun p hp => by rw [(e.2.1 p hp).1])
theorem VE.symm {V W : VT} (e : VE V W) : VE W V := by
  refine ⟨⟨e.1.1.symm, e.1.2.1.symm, e.1.2.2.symm⟩, fun p hp => ?_, fun h hh => ?_⟩
  · have := e.2.1 p (by rw [e.1.1]; exact hp)
    exact ⟨this.1.symm, this.2.1.symm, this.2.2.1.symm, this.2.2.2.1.symm, this.2.2.2.2.symm⟩
  · have := e.2.2 h (by rw [e.1.2.1]; exact hh)
    exact ⟨this.1.symm, this.2.symm⟩
/-- none is empty: nothing falls -/
theorem drop_full {V : VT} (w : WFV V) : VE (dropV V) V := by
  have nn : ∀ a, a ≤ vh V → nx V a = a := fun a ha => fb_ct_all.mpr (fun k hk => decide_eq_true (w.2 k (by omega)))
  refine ⟨⟨rfl, nn _ (Nat.le_refl _), rfl⟩, fun p hp => ⟨nn _ (by have := (w.1.2.1 p hp).1; omega), rfl, rfl, rfl, rfl⟩, fun k hk => ?_⟩
  have hk : k < vh V := by
    have h9 : k < nx V (vh V) := hk
    rw [nn _ (Nat.le_refl _)] at h9; exact h9
  have e : kt (ne V) (vh V) k = k := by
    have h9 := kt_ct (P := ne V) hk (decide_eq_true (w.2 k hk))
    rw [show fb_ct (ne V) k = k from nn k (by omega)] at h9
    exact h9
  exact ⟨congrArg (ol V) e, congrArg (idd V) e⟩
/-! an evening: G goes -/
def gg (G : Nat → Bool) (V : VT) (h : Nat) : Nat := fb_ct (fun p => decide (ho V p = h) && G p) (vn V)
def up (G : Nat → Bool) (V : VT) (p : Nat) : Bool := decide (0 < fb_ct (fun q => decide (ho V q = ho V p) && (G q && decide (pl V q < pl V p))) (vn V))
def hg (G : Nat → Bool) (V : VT) (h : Nat) : Bool := decide (0 < gg G V h)
def anyG (G : Nat → Bool) (V : VT) : Nat := if 0 < fb_ct G (vn V) then 1 else 0
def goV (G : Nat → Bool) (V : VT) : VT := mkV (vn V) (vh V + anyG G V) (ve V + 1) (fun p => if G p then vh V else ho V p) (fun p => if G p then fb_ct (hg G V) (ho V p) else if up G V p then pl V p - 1 else pl V p) (fun p => if G p then 0 else si V p + 1) (rk V) (fun h => if h < vh V then ol V h + 1 else 0) (fun p => if G p then mv V p + 1 else mv V p) (fun h => if h < vh V then idd V h else -1)
def evV (G : Nat → Bool) (V : VT) : VT := dropV (goV G V)
def GOK (G : Nat → Bool) (V : VT) : Prop := ∀ p q, p < vn V → q < vn V → G p = true → G q = true → ho V p = ho V q → p = q
theorem up_iff {G : Nat → Bool} {V : VT} {p : Nat} : up G V p = true ↔ ∃ q, q < vn V ∧ ho V q = ho V p ∧ G q = true ∧ pl V q < pl V p := by
  unfold up
  rw [decide_eq_true_eq, fb_ct_pos]
  simp only [Bool.and_eq_true, decide_eq_true_eq]
theorem hg_iff {G : Nat → Bool} {V : VT} {h : Nat} : hg G V h = true ↔ ∃ q, q < vn V ∧ ho V q = h ∧ G q = true := by
  unfold hg gg
  rw [decide_eq_true_eq, fb_ct_pos]
  simp only [Bool.and_eq_true, decide_eq_true_eq]
theorem gg_le {G : Nat → Bool} {V : VT} (g : GOK G V) (h : Nat) : gg G V h ≤ 1 := ct_one (fun p q hp hq c1 c2 => by
  simp only [Bool.and_eq_true, decide_eq_true_eq] at c1 c2
  exact g p q hp hq c1.2 c2.2 (by rw [c1.1, c2.1]))
theorem gg_sum {G : Nat → Bool} {V : VT} (w : WFP V) : fb_sm (gg G V) (vh V) = fb_ct G (vn V) := dbl (ho V) G (vh V) (vn V) (fun p hp _ => (w.2.1 p hp).1)
theorem hg_sum {G : Nat → Bool} {V : VT} (w : WFP V) (g : GOK G V) : fb_ct (hg G V) (vh V) = fb_ct G (vn V) := by
  rw [← gg_sum w]
  exact ct_sm (fun k _ => gg_le g k)
theorem sz_go {G : Nat → Bool} {V : VT} {h : Nat} (hh : h < vh V) : sz (goV G V) h + gg G V h = sz V h := by
  have e1 : sz (goV G V) h = fb_ct (fun p => decide (ho V p = h) && !G p) (vn V) := fb_ct_cong (fun p _ => by
    show decide ((if G p then vh V else ho V p) = h) = _
    cases G p
    · simp
    · simp; omega)
  have e2 := fb_ct_or (p := fun p => decide (ho V p = h) && !G p) (q := fun p => decide (ho V p = h) && G p) (n := vn V) (fun k _ c => by
    have h1 := c.1
    have h2 := c.2
    simp only [Bool.and_eq_true] at h1 h2
    rw [h2.2] at h1
    exact absurd h1.2 (by decide))
  rw [e1, gg, ← e2]
  exact fb_ct_cong (fun p _ => by cases G p <;> simp)
theorem sz_go_new {G : Nat → Bool} {V : VT} (w : WFP V) : sz (goV G V) (vh V) = fb_ct G (vn V) := fb_ct_cong (fun p hp => by
  show decide ((if G p then vh V else ho V p) = vh V) = _
  have := (w.2.1 p hp).1
  cases G p
  · simp; omega
  · simp)
theorem WFP_go {G : Nat → Bool} {V : VT} (w : WFV V) (g : GOK G V) (he : ve V < 20000) : WFP (goV G V) := by
  have hn := w.hn
  obtain ⟨⟨⟨w1, w2, w3⟩, w4, w5, w6⟩, w7⟩ := w
  have wp : WFP V := ⟨⟨w1, w2, w3⟩, w4, w5, w6⟩
  have an : ∀ p, p < vn V → G p = true → anyG G V = 1 := fun p hp c => if_pos (fb_ct_pos.mpr ⟨p, hp, c⟩)
  have al : anyG G V ≤ 1 := by unfold anyG; split <;> omega
  refine ⟨⟨w1, ?_, by show ve V + 1 ≤ 20000; omega⟩, ?_, ?_, ?_⟩
  · show vh V + anyG G V ≤ 13
    omega
  · intro p hp
    have hp : p < vn V := hp
    obtain ⟨a1, a2, a3, a4⟩ := w4 p hp
    show (if G p then vh V else ho V p) < vh V + anyG G V ∧ (if G p then fb_ct (hg G V) (ho V p) else if up G V p then pl V p - 1 else pl V p) < sz (goV G V) (if G p then vh V else ho V p) ∧ rk V p ≤ 9 ∧ (if G p then 0 else si V p + 1) ≤ ve V + 1
    by_cases c : G p = true
    · rw [if_pos c, if_pos c, if_pos c, an p hp c, sz_go_new wp]
      refine ⟨by omega, ?_, a3, by omega⟩
      rw [← hg_sum wp g]
      exact ct_lt a1 (hg_iff.mpr ⟨p, hp, rfl, c⟩)
    · rw [if_neg c, if_neg c, if_neg c]
      refine ⟨by omega, ?_, a3, by omega⟩
      have e := sz_go (G := G) a1
      by_cases u : up G V p = true
      · rw [if_pos u]
        obtain ⟨q, h1, h2, h3, h4⟩ := up_iff.mp u
        have := gg_le g (ho V p)
        omega
      · rw [if_neg u]
        by_cases z : hg G V (ho V p) = true
        · obtain ⟨q, h1, h2, h3⟩ := hg_iff.mp z
          have := gg_le g (ho V p)
          have n1 : ¬ pl V q < pl V p := fun n9 => u (up_iff.mpr ⟨q, h1, h2, h3, n9⟩)
          have n2 : pl V p ≠ pl V q := fun n9 => c (by rw [w5 p q hp h1 h2.symm n9]; exact h3)
          have := (w4 q h1).2.1
          rw [h2] at this
          omega
        · have z2 : gg G V (ho V p) = 0 := by
            have z3 : ¬ 0 < gg G V (ho V p) := fun z4 => z (decide_eq_true z4)
            omega
          omega
  · intro p q hp hq e1 e2
    have hp : p < vn V := hp
    have hq : q < vn V := hq
    have e1 : (if G p then vh V else ho V p) = (if G q then vh V else ho V q) := e1
    have e2 : (if G p then fb_ct (hg G V) (ho V p) else if up G V p then pl V p - 1 else pl V p) = (if G q then fb_ct (hg G V) (ho V q) else if up G V q then pl V q - 1 else pl V q) := e2
    have b1 := (w4 p hp).1
    have b2 := (w4 q hq).1
    by_cases c : G p = true
    · by_cases d : G q = true
      · rw [if_pos c, if_pos d] at e2
        exact g p q hp hq c d (fb_ct_kth_one (hg_iff.mpr ⟨p, hp, rfl, c⟩) (hg_iff.mpr ⟨q, hq, rfl, d⟩) e2)
      · rw [if_pos c, if_neg d] at e1; omega
    · by_cases d : G q = true
      · rw [if_neg c, if_pos d] at e1; omega
      · rw [if_neg c, if_neg d] at e1 e2
        refine w5 p q hp hq e1 ?_
        by_cases u : up G V p = true
        · obtain ⟨r, r1, r2, r3, r4⟩ := up_iff.mp u
          rw [if_pos u] at e2
          by_cases t : up G V q = true
          · obtain ⟨s, s1, s2, s3, s4⟩ := up_iff.mp t
            rw [if_pos t] at e2
            omega
          · rw [if_neg t] at e2
            have n1 : ¬ pl V r < pl V q := fun n9 => t (up_iff.mpr ⟨r, r1, by rw [r2, e1], r3, n9⟩)
            have n2 : pl V q ≠ pl V r := fun n9 => d (by rw [w5 q r hq r1 (by rw [r2, e1]) n9]; exact r3)
            omega
        · rw [if_neg u] at e2
          by_cases t : up G V q = true
          · obtain ⟨s, s1, s2, s3, s4⟩ := up_iff.mp t
            rw [if_pos t] at e2
            have n1 : ¬ pl V s < pl V p := fun n9 => u (up_iff.mpr ⟨s, s1, by rw [s2, e1], s3, n9⟩)
            have n2 : pl V p ≠ pl V s := fun n9 => c (by rw [w5 p s hp s1 (by rw [s2, e1]) n9]; exact s3)
            omega
          · rw [if_neg t] at e2
            exact e2
  · intro h hh
    have hh : h < vh V + anyG G V := hh
    show (if h < vh V then ol V h + 1 else 0) ≤ ve V + 1
    by_cases c : h < vh V
    · rw [if_pos c]; have := w6 h c; omega
    · rw [if_neg c]; omega
theorem WFV_ev {G : Nat → Bool} {V : VT} (w : WFV V) (g : GOK G V) (he : ve V < 20000) : WFV (evV G V) := WFV_drop (WFP_go w g he)
