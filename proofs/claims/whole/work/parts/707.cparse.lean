/-! the class's reading of a rule -/
def PCx (X : TX) (lo hi : Nat) (v v0 : Ob) (L : List Nat) (j hb : Nat) (S : Nat → Nat → List Nat → Prop) (r : Int32 × Ob × Ob) : Prop := ∃ (f j' : Nat) (K : List Nat), r.1 = nI f ∧ f ≤ 5 ∧ (j ≤ j' ∧ j' ≤ X.2) ∧ TC X r.2.1 j' ∧ r.2.1.1 10 = v.1 10 ∧ r.2.2.1 0 = v0.1 0 ∧ (f = 0 → RS r.2.2 (L ++ K) ∧ K.length + j ≤ j' ∧ (∀ h, h ≤ hb → okL h K ∧ hrun h K = h + 1) ∧ ∀ c ∈ K, vok lo hi c) ∧ (f ≠ 0 → RF r.2.2) ∧ S f j' K
/-- where it begins -/
def PI (X : TX) (ut : Nat → Int32) (pk : Bool) (lo hi : Nat) (v v0 : Ob) (L : List Nat) (j : Nat) : Prop := TB X ut ∧ TC X v j ∧ v.1 10 = nI (if pk then 1 else 0) ∧ ((lo = if pk then 0 else 4) ∧ (hi = if pk then 5 else 8)) ∧ RS v0 L ∧ L.length < j ∧ j ≤ X.2
theorem PI.rf {X : TX} {ut : Nat → Int32} {pk : Bool} {lo hi : Nat} {v v0 : Ob} {L : List Nat} {j : Nat} (p : PI X ut pk lo hi v v0 L j) : RF v0 := by
  obtain ⟨p1, _, _, _, p5, p6, p7⟩ := p
  exact p5.rf (by have := p1.1; omega)
theorem pk_lo {pk : Bool} {lo hi : Nat} (h : (lo = if pk then 0 else 4) ∧ (hi = if pk then 5 else 8)) : lo < 16 ∧ hi < 16 ∧ hi ≤ 8 := by
  cases pk
  · have h1 : lo = 4 := h.1
    have h2 : hi = 8 := h.2
    omega
  · have h1 : lo = 0 := h.1
    have h2 : hi = 5 := h.2
    omega
section CP
variable {X : TX} {ut : Nat → Int32} {pk : Bool} {lo hi : Nat} {v v0 : Ob} {L : List Nat} {j : Nat}
theorem c_value (b : TB X ut) (t : TC X v j) (h10 : v.1 10 = nI (if pk then 1 else 0)) (hp : (lo = if pk then 0 else 4) ∧ (hi = if pk then 5 else 8)) : f_X6_valueAsked v ut 700 = some (if lo ≤ tw X j ∧ tw X j ≤ hi then nI (tw X j) else mO) := by
  have w : ∀ k, k < 16 → f_X6_isWord v ut 700 (sid k) = some (nI (if tw X j = k then 1 else 0)) := fun k hk => c_isWord b t hk
  have w4 : f_X6_isWord v ut 700 7 = some (nI (if tw X j = 4 then 1 else 0)) := w 4 (by omega)
  have w5 : f_X6_isWord v ut 700 8 = some (nI (if tw X j = 5 then 1 else 0)) := w 5 (by omega)
  have w6 : f_X6_isWord v ut 700 3 = some (nI (if tw X j = 6 then 1 else 0)) := w 6 (by omega)
  have w7 : f_X6_isWord v ut 700 13 = some (nI (if tw X j = 7 then 1 else 0)) := w 7 (by omega)
  have w8 : f_X6_isWord v ut 700 14 = some (nI (if tw X j = 8 then 1 else 0)) := w 8 (by omega)
  have w0 : f_X6_isWord v ut 700 9 = some (nI (if tw X j = 0 then 1 else 0)) := w 0 (by omega)
  have w1 : f_X6_isWord v ut 700 10 = some (nI (if tw X j = 1 then 1 else 0)) := w 1 (by omega)
  have w2 : f_X6_isWord v ut 700 11 = some (nI (if tw X j = 2 then 1 else 0)) := w 2 (by omega)
  have w3 : f_X6_isWord v ut 700 12 = some (nI (if tw X j = 3 then 1 else 0)) := w 3 (by omega)
  have one : ¬ nI 1 = (0 : Int32) := by decide
  have zer : nI 0 = (0 : Int32) := rfl
  unfold f_X6_valueAsked
  rw [w4, ob_some]
  by_cases e4 : tw X j = 4
  · rw [if_pos e4, if_neg one, e4]
    cases pk
    · rw [if_pos (by have h1 : lo = 4 := hp.1; have h2 : hi = 8 := hp.2; omega)]; rfl
    · rw [if_pos (by have h1 : lo = 0 := hp.1; have h2 : hi = 5 := hp.2; omega)]; rfl
  · rw [if_neg e4, if_pos zer, w5, ob_some]
    by_cases e5 : tw X j = 5
    · rw [if_pos e5, if_neg one, e5]
      cases pk
      · rw [if_pos (by have h1 : lo = 4 := hp.1; have h2 : hi = 8 := hp.2; omega)]; rfl
      · rw [if_pos (by have h1 : lo = 0 := hp.1; have h2 : hi = 5 := hp.2; omega)]; rfl
    · rw [if_neg e5, if_pos zer, h10]
      cases pk
      · have h1 : lo = 4 := hp.1
        have h2 : hi = 8 := hp.2
        rw [if_pos (show nI (if false = true then 1 else 0) = 0 from rfl), w6, ob_some]
        by_cases e6 : tw X j = 6
        · rw [if_pos e6, if_neg one, e6, if_pos (by omega)]; rfl
        · rw [if_neg e6, if_pos zer, w7, ob_some]
          by_cases e7 : tw X j = 7
          · rw [if_pos e7, if_neg one, e7, if_pos (by omega)]; rfl
          · rw [if_neg e7, if_pos zer, w8, ob_some]
            by_cases e8 : tw X j = 8
            · rw [if_pos e8, if_neg one, e8, if_pos (by omega)]; rfl
            · rw [if_neg e8, if_pos zer, if_neg (by omega)]; rfl
      · have h1 : lo = 0 := hp.1
        have h2 : hi = 5 := hp.2
        rw [if_neg (show ¬ nI (if true = true then 1 else 0) = 0 from one), w0, ob_some]
        by_cases e6 : tw X j = 0
        · rw [if_pos e6, if_neg one, e6, if_pos (by omega)]; rfl
        · rw [if_neg e6, if_pos zer, w1, ob_some]
          by_cases e7 : tw X j = 1
          · rw [if_pos e7, if_neg one, e7, if_pos (by omega)]; rfl
          · rw [if_neg e7, if_pos zer, w2, ob_some]
            by_cases e8 : tw X j = 2
            · rw [if_pos e8, if_neg one, e8, if_pos (by omega)]; rfl
            · rw [if_neg e8, if_pos zer, w3, ob_some]
              by_cases e9 : tw X j = 3
              · rw [if_pos e9, if_neg one, e9, if_pos (by omega)]; rfl
              · rw [if_neg e9, if_pos zer, if_neg (by omega)]; rfl
/-- what the inner one must do -/
def RECOK (X : TX) (ut : Nat → Int32) (pk : Bool) (lo hi : Nat) (rec : Ob → (Nat → Int32) → Ob → Nat → Int32 → Option (Int32 × Ob × Ob)) (w : Nat) : Prop := ∀ (v v0 : Ob) (L : List Nat) (j : Nat), PI X ut pk lo hi v v0 L j → RT (rec v ut v0 700 (nI w)) (PCx X lo hi v v0 L j (5 * w) (fun f j' K => ∃ cm, (f = 0 → tw X j' ≠ 13 ∧ tw X j' ≠ 14 ∧ ((tk X j' = 60 ∨ tk X j' = 61) → cm = true) ∧ (tk X j' ≠ 43 ∧ tk X j' ≠ 45 ∧ tk X j' ≠ 42 ∧ tk X j' ≠ 47)) ∧ SIMe X lo hi w j f j' K cm))
theorem kd_eq {c : Nat} (t : TC X v j) (hc : c < 100) : (v.1 8 = nI c) = (tk X j = c) := by
  rw [t.2.2.2.1]; exact sx_eq (by have := tk_lt X j; omega) (by omega)
theorem kdT {c : Nat} (t : TC X v j) (h : tk X j = c) : v.1 8 = nI c := by rw [t.2.2.2.1, h]
theorem kdF {c : Nat} (t : TC X v j) (hc : c < 100) (h : tk X j ≠ c) : ¬ v.1 8 = nI c := fun e => h (Eq.mp (kd_eq t hc) e)
theorem c_part {rec : Ob → (Nat → Int32) → Ob → Nat → Int32 → Option (Int32 × Ob × Ob)} {w : Nat} (hw : w ≤ 5) (hr : RECOK X ut pk lo hi rec (w + 1)) (p : PI X ut pk lo hi v v0 L j) : RT (f_X6_part rec v ut v0 700 (nI w)) (PCx X lo hi v v0 L j (5 * w + 5) (fun f j' K => SIMa X lo hi 7 (w + 1) j f j' K)) := by
  refine RT.cps (fun Q hQ => ?_)
  obtain ⟨b, t, h10, hp, rs, lj, jn⟩ := p
  have hn := b.1
  have te9 := te_le X j
  have tk9 := tk_lt X j
  obtain ⟨l16, h16, h8⟩ := pk_lo hp
  unfold f_X6_part
  rw [show (40 : Int32) = nI 40 from rfl, show (2 : Int32) = nI 2 from rfl, show (4 : Int32) = nI 4 from rfl]
  simp only [kd_eq t (c := 40) (by omega), kd_eq t (c := 2) (by omega)]
  have adv : ∀ (a : Nat) (K : List Nat) (v9 : Ob), tk X j ≠ 0 → RS v9 (L ++ K) → v9.1 0 = v0.1 0 → K = [a] → a < 20000 → vok lo hi a → SIMa X lo hi 7 (w + 1) j 0 (j + 1) K → RT (f_X6_part_J114 rec 700 ut v v9) Q := by
    intro a K v9 k0 r1 r2 ek a9 va s
    have tj := tk_j k0
    unfold f_X6_part_J114
    refine RT.bind (c_next b t) (fun r ⟨t1, t2, _⟩ => RT.done hQ ?_)
    subst ek
    refine ⟨0, j + 1, [a], rfl, by omega, ⟨by omega, by omega⟩, t1, t2, r2, fun _ => ⟨r1, by show 1 + j ≤ j + 1; omega, fun h hh9 => ⟨⟨?_, trivial⟩, ?_⟩, fun c hc => ?_⟩, fun e => absurd rfl e, s⟩
    · unfold okc; rw [if_pos a9]; omega
    · show hs h a = h + 1
      unfold hs; rw [if_pos a9]
    · rw [List.mem_singleton.mp hc]; exact va
  have stop : ∀ f, f ≠ 0 → f ≤ 5 → SIMa X lo hi 7 (w + 1) j f j [] → Q (nI f, v, v0) := fun f f0 f5 s => hQ _ ⟨f, j, [], rfl, f5, ⟨Nat.le_refl _, jn⟩, t, rfl, rfl, fun e => absurd e f0, fun _ => rs.rf (by omega), s⟩
  by_cases k4 : tk X j = 40
  · rw [if_pos k4]
    have tj := tk_j (X := X) (j := j) (by omega)
    refine RT.bind (c_next b t) (fun r ⟨t1, t2, _⟩ => ?_)
    rw [nI_1]
    refine RT.bind (hr r v0 L (j + 1) ⟨b, t1, t2.trans h10, hp, rs, by omega, by omega⟩) (fun q hq => ?_)
    obtain ⟨f, j', K, q1, q2, ⟨q3, q4⟩, q5, q6, q7, q8, q9, cm, qx, qs⟩ := hq
    rw [q1]
    by_cases f0 : f = 0
    · subst f0
      obtain ⟨x1, x2, x3, x4⟩ := qx rfl
      obtain ⟨y1, y2, y3, y4⟩ := q8 rfl
      refine RT.itT rfl ?_
      rw [show (41 : Int32) = nI 41 from rfl]
      simp only [kd_eq q5 (c := 41) (by omega)]
      by_cases k5 : tk X j' = 41
      · rw [if_pos k5]
        unfold f_X6_part_J37
        refine RT.itT rfl ?_
        unfold f_X6_part_J114
        have tj2 := tk_j (X := X) (j := j') (by omega)
        refine RT.bind (c_next b q5) (fun s ⟨s1, s2, _⟩ => RT.done hQ ?_)
        refine ⟨0, j' + 1, K, rfl, by omega, ⟨by omega, by omega⟩, s1, (s2.trans q6).trans t2, q7, fun _ => ⟨y1, by omega, fun h hh9 => y3 h (by omega), y4⟩, fun e => absurd rfl e, ?_⟩
        exact SIMa_par 7 (by omega) (by omega) k4 qs k5
      · rw [if_neg k5]
        unfold f_X6_part_J37
        refine RT.itF (by decide) (RT.done hQ ?_)
        refine ⟨1, j', [], rfl, by omega, ⟨by omega, q4⟩, q5, q6.trans t2, q7, fun e => absurd e (by omega), fun _ => y1.rf ?_, ?_⟩
        · rw [List.length_append]; omega
        · exact SIMa_parU 7 (by omega) (by omega) k4 qs x1 x2 x3 x4 k5 []
    · refine RT.itF (nI_ne0 (by omega) (by omega)) ?_
      unfold f_X6_part_J37
      refine RT.itF (nI_ne0 (by omega) (by omega)) (RT.done hQ ?_)
      exact ⟨f, j', [], rfl, q2, ⟨by omega, q4⟩, q5, q6.trans t2, q7, fun e => absurd e f0, q9, SIMa_parF 7 k4 qs f0 []⟩
  · rw [if_neg k4]
    by_cases k2 : tk X j = 2
    · rw [if_pos k2, t.2.2.1, t.2.1, sx_sub (ts_te X j)]
      have tl9 : te X j - ts X j ≤ 700 := by omega
      have tj := tk_j (X := X) (j := j) (by omega)
      by_cases k : te X j - ts X j ≤ 4
      · refine RT.itT (nI_le k (by omega)) ?_
        rw [t.2.2.2.2 k2]
        have tv9 := tv_lt k2
        refine RT.bind (c_add rs (by omega)) (fun r ⟨r1, r2⟩ => ?_)
        exact adv (tv X j) _ r (by omega) r1 r2 rfl (by omega) ⟨by omega, fun _ => by omega⟩ (SIMa_num 7 k2 k)
      · refine RT.itF (nI_ge (by omega) (by omega)) ?_
        exact ⟨_, rfl, stop 2 (by omega) (by omega) (SIMa_big 7 k2 (by unfold tl; omega) [])⟩
    · rw [if_neg k2]
      rw [show (1 : Int32) = nI 1 from rfl]
      simp only [kd_eq t (c := 1) (by omega)]
      by_cases k1 : tk X j = 1
      · rw [if_pos k1, c_value b t h10 hp, ob_some]
        have tj := tk_j (X := X) (j := j) (by omega)
        by_cases e : lo ≤ tw X j ∧ tw X j ≤ hi
        · rw [if_pos e]
          refine RT.itF (by rw [show (-nI 1) = mO from rfl, sx_eqm (by omega)]; exact id) ?_
          rw [show (10000 : Int32) = nI 10000 from rfl, nI_add]
          refine RT.bind (c_add rs (by omega)) (fun r ⟨r1, r2⟩ => ?_)
          exact adv (10000 + tw X j) _ r (by omega) r1 r2 rfl (by omega) ⟨by omega, fun _ _ => by omega⟩ (SIMa_val 7 k1 e.1 e.2 h16)
        · rw [if_neg e]
          exact RT.itT rfl ⟨_, rfl, stop 3 (by omega) (by omega) (SIMa_unk 7 k1 e h16 l16 [])⟩
      · rw [if_neg k1]
        exact ⟨_, rfl, stop 1 (by omega) (by omega) (SIMa_mis 7 k1 k2 k4 [])⟩
/-- two halves and an operator -/
theorem ok_bin {A B : List Nat} {op hb : Nat} (ho : isOp op = true) (a : ∀ h, h ≤ hb → okL h A ∧ hrun h A = h + 1) (b : ∀ h, h ≤ hb + 1 → okL h B ∧ hrun h B = h + 1) : ∀ h, h ≤ hb → okL h (A ++ B ++ [op]) ∧ hrun h (A ++ B ++ [op]) = h + 1 := by
  intro h hh9
  obtain ⟨a1, a2⟩ := a h hh9
  obtain ⟨b1, b2⟩ := b (h + 1) (by omega)
  have o2 : ¬ op < 20000 ∧ ¬ op = 20033 := by
    unfold isOp at ho
    simp only [Bool.or_eq_true, beq_iff_eq] at ho
    omega
  refine ⟨okL_app.mpr ⟨okL_app.mpr ⟨a1, by rw [a2]; exact b1⟩, ?_⟩, ?_⟩
  · rw [hrun_app, a2, b2]
    refine ⟨?_, trivial⟩
    unfold okc
    rw [if_neg o2.1, if_neg o2.2]
    exact ⟨by omega, ho⟩
  · rw [hrun_app, hrun_app, a2, b2]
    show hs (h + 1 + 1) op = h + 1
    unfold hs
    rw [if_neg o2.1, if_neg o2.2]; rfl
theorem vok_op {op : Nat} (ho : isOp op = true) : vok lo hi op := by
  unfold isOp at ho
  simp only [Bool.or_eq_true, beq_iff_eq] at ho
  exact ⟨by omega, fun _ h => by omega⟩
theorem vok_app {A B : List Nat} {op : Nat} (ho : isOp op = true) (a : ∀ c ∈ A, vok lo hi c) (b : ∀ c ∈ B, vok lo hi c) : ∀ c ∈ A ++ B ++ [op], vok lo hi c := by
  intro c hc
  rcases List.mem_append.mp hc with q | q
  · rcases List.mem_append.mp q with q | q
    · exact a c q
    · exact b c q
  · rw [List.mem_singleton.mp q]; exact vok_op ho
theorem c_product {rec : Ob → (Nat → Int32) → Ob → Nat → Int32 → Option (Int32 × Ob × Ob)} {w : Nat} (hw : w ≤ 5) (hr : RECOK X ut pk lo hi rec (w + 1)) (p : PI X ut pk lo hi v v0 L j) : RT (f_X6_product rec v ut v0 700 (nI w)) (PCx X lo hi v v0 L j (5 * w + 4) (fun f j' K => (f = 0 → tk X j' ≠ 42 ∧ tk X j' ≠ 47) ∧ SIMa X lo hi 6 (w + 1) j f j' K)) := by
  refine RT.cps (fun Q hQ => ?_)
  obtain ⟨b, t, h10, hp, rs, lj, jn⟩ := p
  have hn := b.1
  unfold f_X6_product
  refine RT.bind (c_part hw hr ⟨b, t, h10, hp, rs, lj, jn⟩) (fun q hq => ?_)
  refine RT.loop0 (fun n i (y : Int32 × Ob × Ob) => f_X6_product_L10 rec 700 (nI w) ut n y.1 (nI i) y.2.1 y.2.2) X.2 (fun i y => ∃ (f j' : Nat) (K : List Nat), y.1 = nI f ∧ f ≤ 5 ∧ (j ≤ j' ∧ j' ≤ X.2 ∧ i ≤ j') ∧ TC X y.2.1 j' ∧ y.2.1.1 10 = v.1 10 ∧ y.2.2.1 0 = v0.1 0 ∧ (f = 0 → RS y.2.2 (L ++ K) ∧ K.length + j ≤ j' ∧ (∀ h, h ≤ 5 * w + 4 → okL h K ∧ hrun h K = h + 1) ∧ ∀ c ∈ K, vok lo hi c) ∧ (f ≠ 0 → RF y.2.2) ∧ SIMa X lo hi 6 (w + 1) j f j' K) Q (q.1, q.2.1, q.2.2) (by omega) ?_ ?_ ?_
  · obtain ⟨f, j', K, q1, q2, ⟨q3, q4⟩, q5, q6, q7, q8, q9, qs⟩ := hq
    refine ⟨f, j', K, q1, q2, ⟨q3, q4, by omega⟩, q5, q6, q7, fun e => ?_, q9, qs.mono (by omega)⟩
    obtain ⟨y1, y2, y3, y4⟩ := q8 e
    exact ⟨y1, y2, fun h hh9 => y3 h (by omega), y4⟩
  · intro n y ⟨f, j', K, q1, q2, ⟨q3, q4, q0⟩, q5, q6, q7, q8, q9, qs⟩
    show RT (f_X6_product_L10 rec 700 (nI w) ut (n + 1) y.1 (nI X.2) y.2.1 y.2.2) Q
    unfold f_X6_product_L10
    refine RT.itT (by rw [q5.1]; exact nI_le (Nat.le_refl _) (by omega)) (RT.done hQ ?_)
    have k0 := tk_big (X := X) (j := j') q0
    exact ⟨f, j', K, q1, q2, ⟨q3, q4⟩, q5, q6, q7, q8, q9, fun _ => ⟨by omega, by omega⟩, qs⟩
  · intro n i y hi9 ⟨f, j', K, q1, q2, ⟨q3, q4, q0⟩, q5, q6, q7, q8, q9, qs⟩ hk
    show RT (f_X6_product_L10 rec 700 (nI w) ut (n + 1) y.1 (nI i) y.2.1 y.2.2) Q
    have ext : (f = 0 → tk X j' ≠ 42 ∧ tk X j' ≠ 47) → Q (y.1, y.2.1, y.2.2) := fun e => hQ _ ⟨f, j', K, q1, q2, ⟨q3, q4⟩, q5, q6, q7, q8, q9, e, qs⟩
    unfold f_X6_product_L10
    rw [q5.1]
    refine RT.itF (nI_ge hi9 (by omega)) ?_
    by_cases f0 : f = 0
    · subst f0
      obtain ⟨y1, y2, y3, y4⟩ := q8 rfl
      refine RT.itT q1 ?_
      have step : ∀ op act, (op = 42 ∧ act = 10) ∨ (op = 47 ∧ act = 11) → tk X j' = op → RT (f_X6_product_J41 rec (f_X6_product_L10 rec 700 (nI w) ut n) 700 (nI w) ut (nI i) y.2.1 y.2.2) Q := by
        intro op act hop hk9
        have io : isOp (20000 + op) = true := by rcases hop with ⟨rfl, _⟩ | ⟨rfl, _⟩ <;> rfl
        have tj := tk_j (X := X) (j := j') (by omega)
        unfold f_X6_product_J41
        rw [bnd_nr, q5.2.2.2.1, hk9]
        refine RT.bind (c_next b q5) (fun r ⟨t1, t2, _⟩ => ?_)
        refine RT.bind (c_part hw hr (L := L ++ K) ⟨b, t1, (t2.trans q6).trans h10, hp, y1, by rw [List.length_append]; omega, by omega⟩) (fun s hs9 => ?_)
        obtain ⟨f2, j2, K2, s1, s2, ⟨s3, s4⟩, s5, s6, s7, s8, s9, ss9⟩ := hs9
        have sim : SIMa X lo hi 6 (w + 1) j f2 j2 (K ++ K2 ++ [20000 + op]) := qs.bin (Or.inl ⟨rfl, hop⟩) hk9 ss9
        rw [show (20000 : Int32) + nI op = nI (20000 + op) from nI_add 20000 op]
        by_cases f2z : f2 = 0
        · subst f2z
          obtain ⟨x1, x2, x3, x4⟩ := s8 rfl
          refine RT.bind (c_add (c := 20000 + op) x1 (by simp only [List.length_append]; omega)) (fun u ⟨u1, u2⟩ => ?_)
          rw [bnd_nr, nI_1]
          refine hk (s.1, s.2.1, u) ⟨0, j2, K ++ K2 ++ [20000 + op], s1, s2, ⟨by omega, s4, by omega⟩, s5, (s6.trans t2).trans q6, (u2.trans s7).trans q7, fun _ => ⟨?_, ?_, ?_, ?_⟩, fun e => absurd rfl e, sim⟩
          · rw [← List.append_assoc, ← List.append_assoc]; exact u1
          · simp only [List.length_append, List.length_singleton]; omega
          · exact ok_bin io y3 (fun h hh9 => x3 h (by omega))
          · exact vok_app io y4 x4
        · refine RT.bind (c_addF (s9 f2z)) (fun u ⟨u1, u2⟩ => ?_)
          rw [bnd_nr, nI_1]
          exact hk (s.1, s.2.1, u) ⟨f2, j2, K ++ K2 ++ [20000 + op], s1, s2, ⟨by omega, s4, by omega⟩, s5, (s6.trans t2).trans q6, (u2.trans s7).trans q7, fun e => absurd e f2z, fun _ => u1, sim⟩
      rw [show (42 : Int32) = nI 42 from rfl, show (47 : Int32) = nI 47 from rfl]
      simp only [kd_eq q5 (c := 42) (by omega), kd_eq q5 (c := 47) (by omega)]
      by_cases k1 : tk X j' = 42
      · rw [if_pos k1]; exact step 42 10 (Or.inl ⟨rfl, rfl⟩) k1
      · rw [if_neg k1]
        by_cases k2 : tk X j' = 47
        · rw [if_pos k2]; exact step 47 11 (Or.inr ⟨rfl, rfl⟩) k2
        · rw [if_neg k2]; exact ⟨_, rfl, ext (fun _ => ⟨k1, k2⟩)⟩
    · refine RT.itF (by rw [q1]; exact nI_ne0 (by omega) (by omega)) ?_
      exact ⟨_, rfl, ext (fun e => absurd e f0)⟩
theorem c_sum {rec : Ob → (Nat → Int32) → Ob → Nat → Int32 → Option (Int32 × Ob × Ob)} {w : Nat} (hw : w ≤ 5) (hr : RECOK X ut pk lo hi rec (w + 1)) (p : PI X ut pk lo hi v v0 L j) : RT (f_X6_sum rec v ut v0 700 (nI w)) (PCx X lo hi v v0 L j (5 * w + 3) (fun f j' K => (f = 0 → tk X j' ≠ 42 ∧ tk X j' ≠ 47 ∧ tk X j' ≠ 43 ∧ tk X j' ≠ 45) ∧ SIMa X lo hi 5 (w + 1) j f j' K)) := by
  refine RT.cps (fun Q hQ => ?_)
  obtain ⟨b, t, h10, hp, rs, lj, jn⟩ := p
  have hn := b.1
  unfold f_X6_sum
  refine RT.bind (c_product hw hr ⟨b, t, h10, hp, rs, lj, jn⟩) (fun q hq => ?_)
  refine RT.loop0 (fun n i (y : Int32 × Ob × Ob) => f_X6_sum_L10 rec 700 (nI w) ut n y.1 (nI i) y.2.1 y.2.2) X.2 (fun i y => ∃ (f j' : Nat) (K : List Nat), y.1 = nI f ∧ f ≤ 5 ∧ (j ≤ j' ∧ j' ≤ X.2 ∧ i ≤ j') ∧ TC X y.2.1 j' ∧ y.2.1.1 10 = v.1 10 ∧ y.2.2.1 0 = v0.1 0 ∧ (f = 0 → RS y.2.2 (L ++ K) ∧ K.length + j ≤ j' ∧ (∀ h, h ≤ 5 * w + 3 → okL h K ∧ hrun h K = h + 1) ∧ ∀ c ∈ K, vok lo hi c) ∧ (f ≠ 0 → RF y.2.2) ∧ (f = 0 → tk X j' ≠ 42 ∧ tk X j' ≠ 47) ∧ SIMa X lo hi 5 (w + 1) j f j' K) Q (q.1, q.2.1, q.2.2) (by omega) ?_ ?_ ?_
  · obtain ⟨f, j', K, q1, q2, ⟨q3, q4⟩, q5, q6, q7, q8, q9, qe, qs⟩ := hq
    refine ⟨f, j', K, q1, q2, ⟨q3, q4, by omega⟩, q5, q6, q7, fun e => ?_, q9, qe, qs.mono (by omega)⟩
    obtain ⟨y1, y2, y3, y4⟩ := q8 e
    exact ⟨y1, y2, fun h hh9 => y3 h (by omega), y4⟩
  · intro n y ⟨f, j', K, q1, q2, ⟨q3, q4, q0⟩, q5, q6, q7, q8, q9, qe, qs⟩
    show RT (f_X6_sum_L10 rec 700 (nI w) ut (n + 1) y.1 (nI X.2) y.2.1 y.2.2) Q
    unfold f_X6_sum_L10
    refine RT.itT (by rw [q5.1]; exact nI_le (Nat.le_refl _) (by omega)) (RT.done hQ ?_)
    have k0 := tk_big (X := X) (j := j') q0
    exact ⟨f, j', K, q1, q2, ⟨q3, q4⟩, q5, q6, q7, q8, q9, fun _ => ⟨by omega, by omega, by omega, by omega⟩, qs⟩
  · intro n i y hi9 ⟨f, j', K, q1, q2, ⟨q3, q4, q0⟩, q5, q6, q7, q8, q9, qe, qs⟩ hk
    show RT (f_X6_sum_L10 rec 700 (nI w) ut (n + 1) y.1 (nI i) y.2.1 y.2.2) Q
    have ext : (f = 0 → tk X j' ≠ 43 ∧ tk X j' ≠ 45) → Q (y.1, y.2.1, y.2.2) := fun e => hQ _ ⟨f, j', K, q1, q2, ⟨q3, q4⟩, q5, q6, q7, q8, q9, fun h => ⟨(qe h).1, (qe h).2, (e h).1, (e h).2⟩, qs⟩
    unfold f_X6_sum_L10
    rw [q5.1]
    refine RT.itF (nI_ge hi9 (by omega)) ?_
    by_cases f0 : f = 0
    · subst f0
      obtain ⟨y1, y2, y3, y4⟩ := q8 rfl
      refine RT.itT q1 ?_
      have step : ∀ op act, (op = 43 ∧ act = 8) ∨ (op = 45 ∧ act = 9) → tk X j' = op → RT (f_X6_sum_J41 rec (f_X6_sum_L10 rec 700 (nI w) ut n) 700 (nI w) ut (nI i) y.2.1 y.2.2) Q := by
        intro op act hop hk9
        have io : isOp (20000 + op) = true := by rcases hop with ⟨rfl, _⟩ | ⟨rfl, _⟩ <;> rfl
        have tj := tk_j (X := X) (j := j') (by omega)
        unfold f_X6_sum_J41
        rw [bnd_nr, q5.2.2.2.1, hk9]
        refine RT.bind (c_next b q5) (fun r ⟨t1, t2, _⟩ => ?_)
        refine RT.bind (c_product hw hr (L := L ++ K) ⟨b, t1, (t2.trans q6).trans h10, hp, y1, by rw [List.length_append]; omega, by omega⟩) (fun s hs9 => ?_)
        obtain ⟨f2, j2, K2, s1, s2, ⟨s3, s4⟩, s5, s6, s7, s8, s9, se, ss9⟩ := hs9
        have sim : SIMa X lo hi 5 (w + 1) j f2 j2 (K ++ K2 ++ [20000 + op]) := qs.bin (Or.inr ⟨rfl, hop⟩) hk9 ss9
        rw [show (20000 : Int32) + nI op = nI (20000 + op) from nI_add 20000 op]
        by_cases f2z : f2 = 0
        · subst f2z
          obtain ⟨x1, x2, x3, x4⟩ := s8 rfl
          refine RT.bind (c_add (c := 20000 + op) x1 (by simp only [List.length_append]; omega)) (fun u ⟨u1, u2⟩ => ?_)
          rw [bnd_nr, nI_1]
          refine hk (s.1, s.2.1, u) ⟨0, j2, K ++ K2 ++ [20000 + op], s1, s2, ⟨by omega, s4, by omega⟩, s5, (s6.trans t2).trans q6, (u2.trans s7).trans q7, fun _ => ⟨?_, ?_, ?_, ?_⟩, fun e => absurd rfl e, se, sim⟩
          · rw [← List.append_assoc, ← List.append_assoc]; exact u1
          · simp only [List.length_append, List.length_singleton]; omega
          · exact ok_bin io y3 (fun h hh9 => x3 h (by omega))
          · exact vok_app io y4 x4
        · refine RT.bind (c_addF (s9 f2z)) (fun u ⟨u1, u2⟩ => ?_)
          rw [bnd_nr, nI_1]
          exact hk (s.1, s.2.1, u) ⟨f2, j2, K ++ K2 ++ [20000 + op], s1, s2, ⟨by omega, s4, by omega⟩, s5, (s6.trans t2).trans q6, (u2.trans s7).trans q7, fun e => absurd e f2z, fun _ => u1, se, sim⟩
      rw [show (43 : Int32) = nI 43 from rfl, show (45 : Int32) = nI 45 from rfl]
      simp only [kd_eq q5 (c := 43) (by omega), kd_eq q5 (c := 45) (by omega)]
      by_cases k1 : tk X j' = 43
      · rw [if_pos k1]; exact step 43 8 (Or.inl ⟨rfl, rfl⟩) k1
      · rw [if_neg k1]
        by_cases k2 : tk X j' = 45
        · rw [if_pos k2]; exact step 45 9 (Or.inr ⟨rfl, rfl⟩) k2
        · rw [if_neg k2]; exact ⟨_, rfl, ext (fun _ => ⟨k1, k2⟩)⟩
    · refine RT.itF (by rw [q1]; exact nI_ne0 (by omega) (by omega)) ?_
      exact ⟨_, rfl, ext (fun e => absurd e f0)⟩
end CP
