/-! what was done: kept, taken back, copied -/
theorem RW_cp {A B : Nat → Int32} {b c : Nat} {V : VT} (w : WFV V) (e : ∀ j, j < 86 → B (c + j) = A (b + j)) (h : RW A b V) : RW B c V := by
  have n12 := w.1.1.1
  have h12 := Nat.le_trans w.hn n12
  obtain ⟨⟨h0, h1⟩, h2, h3⟩ := h
  have f : ∀ j p, j + p < 86 → B (c + j + p) = A (b + j + p) := fun j p hj => by
    rw [Nat.add_assoc, Nat.add_assoc]; exact e (j + p) hj
  refine ⟨⟨(e 0 (by omega)).trans h0, (e 1 (by omega)).trans h1⟩, fun p hp => ?_, fun q hq => ?_⟩
  · obtain ⟨a1, a2, a3, a4, a5⟩ := h2 p hp
    exact ⟨(f 2 p (by omega)).trans a1, (f 14 p (by omega)).trans a2, (f 26 p (by omega)).trans a3, (f 38 p (by omega)).trans a4, (f 50 p (by omega)).trans a5⟩
  · obtain ⟨a1, a2⟩ := h3 q hq
    exact ⟨(f 62 q (by omega)).trans a1, (f 74 q (by omega)).trans a2⟩
theorem rowA {f : FS} {g : Nat → Nat} (h : ACg f g) {i : Nat} (hi : i ≤ f.1) (h40 : i < 40) : ∃ f' g', rowF 40 f (nI i) = some (g' i, f') ∧ f'.1 = max f.1 (i + 1) ∧ ACg f' g' ∧ (∀ j, j < f.1 → g' j = g j) ∧ ∀ j, j < f.1 → f'.2.2 (g j) = f.2.2 (g j) := by
  obtain ⟨h1, h2, h3, h4⟩ := h
  rcases Nat.lt_or_ge i f.1 with q | q
  · refine ⟨f, g, ?_, by omega, ⟨h1, h2, h3, h4⟩, fun _ _ => rfl, fun _ _ => rfl⟩
    unfold rowF
    rw [sx_grd h40 (by omega), sx_clamp (by omega), h2 i, if_pos q]
    show grd (decide (g i < f.1)) _ = _
    rw [grd_d (h3 i q)]
  · have e : i = f.1 := by omega
    refine ⟨(f.1 + 1, upO f.2.1 i (some f.1), sV f.2.2 f.1 zV), fun j => if j = i then f.1 else g j, ?_, by show f.1 + 1 = _; omega, ⟨by show f.1 + 1 ≤ 40; omega, fun j => ?_, fun j hj => ?_, fun j l hj hl el => ?_⟩, fun j hj => if_neg (by omega), fun j hj => sV_n (by have := h3 j hj; omega)⟩
    · unfold rowF
      rw [sx_grd h40 (by omega), sx_clamp (by omega), h2 i, if_neg (show ¬ i < f.1 by omega)]
      show grd (frs 40 f.2.1 f.1) _ = _
      have fr : frs 40 f.2.1 f.1 = true := by
        unfold frs
        rw [List.all_eq_true]
        intro j _
        rw [decide_eq_true_eq, h2 j]
        by_cases q : j < f.1
        · rw [if_pos q]; intro z; have := Option.some.inj z; have := h3 j q; omega
        · rw [if_neg q]; intro z; cases z
      rw [fr]
      show some (f.1, _) = some ((if i = i then f.1 else g i), _)
      rw [if_pos (show i = i from rfl)]
    · show upO f.2.1 i (some f.1) j = if j < f.1 + 1 then some (if j = i then f.1 else g j) else none
      unfold upO
      by_cases c : j = i
      · rw [if_pos c, if_pos (show j < f.1 + 1 by omega), if_pos c]
      · rw [if_neg c, h2 j]
        by_cases d : j < f.1
        · rw [if_pos d, if_pos (show j < f.1 + 1 by omega), if_neg c]
        · rw [if_neg d, if_neg (show ¬ j < f.1 + 1 by omega)]
    · have hj : j < f.1 + 1 := hj
      show (if j = i then f.1 else g j) < f.1 + 1
      by_cases c : j = i
      · rw [if_pos c]; omega
      · rw [if_neg c]; have := h3 j (by omega); omega
    · have hj : j < f.1 + 1 := hj
      have hl : l < f.1 + 1 := hl
      have el : (if j = i then f.1 else g j) = (if l = i then f.1 else g l) := el
      by_cases c : j = i
      · by_cases d : l = i
        · omega
        · rw [if_pos c, if_neg d] at el; have := h3 l (by omega); omega
      · by_cases d : l = i
        · rw [if_neg c, if_pos d] at el; have := h3 j (by omega); omega
        · rw [if_neg c, if_neg d] at el; exact h4 j l (by omega) (by omega) el
theorem c_keepJ {f : FS} {o v0 : Ob} {A : AC} {V : VT} {B : Nat} (h : ACc f o A) (h40 : A.1 < 40) (c : VC v0 V) (w : WFP V) (hB : B = max f.1 (A.1 + 1)) : RT (f_X0_keep_J13 B v0 o f) (fun q => ACc q.2 q.1 (A.1 + 1, fun i => if i = A.1 then V else A.2 i) ∧ q.2.1 = B) := by
  obtain ⟨h1, h2, g, h3, h4⟩ := h
  obtain ⟨f', g', e1, e2, e3, e4, e5⟩ := rowA h3 h2 h40
  obtain ⟨r, er, r1⟩ := c_copyFrom (v := f'.2.2 (g' A.1)) c w
  have gl : g' A.1 < f'.1 := e3.2.2.1 A.1 (by omega)
  refine ⟨((upd o.1 0 (nI (A.1 + 1)), o.2), (f'.1, f'.2.1, sV f'.2.2 (g' A.1) r)), ?_, ⟨?_, by show A.1 + 1 ≤ f'.1; omega, g', e3, fun i hi => ?_⟩, by show f'.1 = B; omega⟩
  · unfold f_X0_keep_J13
    rw [h1, e1, ob_some]
    dsimp only
    rw [grd_d (by omega), grd_d gl, er, ob_some, bnd_nr, bnd_nr, nI_1]
  · show upd o.1 0 (nI (A.1 + 1)) 0 = _
    exact pk_us
  · have hi : i < A.1 + 1 := hi
    show VC (sV f'.2.2 (g' A.1) r (g' i)) (if i = A.1 then V else A.2 i)
    by_cases e : i = A.1
    · rw [if_pos e, e, sV_s]; exact r1
    · rw [if_neg e, sV_n (fun x => e (e3.2.2.2 i A.1 (by omega) (by omega) x)), e4 i (by omega), e5 i (by omega)]
      exact h4 i (by omega)
theorem c_dropA {f : FS} {o : Ob} {A : AC} (h : ACc f o A) (h40 : A.1 = 40) : RT (f_X0_dropFirst o f) (fun q => ACc q.2 q.1 (39, fun i => A.2 (i + 1)) ∧ q.2.1 = f.1) := by
  obtain ⟨h1, h2, g, ⟨a1, a2, a3, a4⟩, h4⟩ := h
  have f40 : f.1 = 40 := by omega
  refine RT.cps (fun Q hQ => ?_)
  unfold f_X0_dropFirst
  refine RT.grd (by decide) ?_
  show RT ((f.2.1 0).bind _) Q
  rw [a2 0, if_pos (show 0 < f.1 by omega), ob_some]
  refine RT.loopI (fun n i (y : FS) => f_X0_dropFirst_L9 (g 0) n (nI i) o y) 1 40 (fun i y => y.1 = 40 ∧ y.2.2 = f.2.2 ∧ ∀ j, y.2.1 j = if j + 1 < i then some (g (j + 1)) else f.2.1 j) Q f (by omega) (by omega) ⟨f40, rfl, fun j => (if_neg (by omega)).symm⟩ ?_ ?_
  · intro n y ⟨y1, y2, y3⟩
    show RT (f_X0_dropFirst_L9 (g 0) (n + 1) (nI 40) o y) Q
    unfold f_X0_dropFirst_L9
    refine RT.itT (show (40 : Int32) ≤ nI 40 by decide) ?_
    have g0 := a3 0 (by omega)
    refine RT.grd (decide_eq_true (by omega)) (RT.grd (by decide) (RT.bnd (RT.bnd (RT.done hQ ⟨⟨?_, ?_, fun i => if i = 39 then g 0 else g (i + 1), ⟨?_, fun i => ?_, fun i hi => ?_, fun i j hi hj ej => ?_⟩, fun i hi => ?_⟩, ?_⟩))))
    · show upd o.1 0 (39 : Int32) 0 = _
      rw [pk_us]; rfl
    · show 39 ≤ y.1; omega
    · show y.1 ≤ 40; omega
    · show upO y.2.1 39 (some (g 0)) i = if i < y.1 then some (if i = 39 then g 0 else g (i + 1)) else none
      unfold upO
      by_cases c : i = 39
      · rw [if_pos c, if_pos (show i < y.1 by omega), if_pos c]
      · rw [if_neg c, y3 i]
        by_cases d : i + 1 < 40
        · rw [if_pos d, if_pos (show i < y.1 by omega), if_neg c]
        · rw [if_neg d, if_neg (show ¬ i < y.1 by omega), a2 i, if_neg (show ¬ i < f.1 by omega)]
    · have hi : i < y.1 := hi
      show (if i = 39 then g 0 else g (i + 1)) < y.1
      by_cases c : i = 39
      · rw [if_pos c]; omega
      · rw [if_neg c]; have := a3 (i + 1) (by omega); omega
    · have hi : i < y.1 := hi
      have hj : j < y.1 := hj
      have ej : (if i = 39 then g 0 else g (i + 1)) = (if j = 39 then g 0 else g (j + 1)) := ej
      by_cases c : i = 39
      · by_cases d : j = 39
        · omega
        · rw [if_pos c, if_neg d] at ej; have := a4 0 (j + 1) (by omega) (by omega) ej; omega
      · by_cases d : j = 39
        · rw [if_neg c, if_pos d] at ej; have := a4 (i + 1) 0 (by omega) (by omega) ej; omega
        · rw [if_neg c, if_neg d] at ej; have := a4 (i + 1) (j + 1) (by omega) (by omega) ej; omega
    · have hi : i < 39 := hi
      show VC (y.2.2 (if i = 39 then g 0 else g (i + 1))) (A.2 (i + 1))
      rw [if_neg (show ¬ i = 39 by omega), y2]
      exact h4 (i + 1) (by omega)
    · show y.1 = f.1; omega
  · intro n i y i1 hi ⟨y1, y2, y3⟩ hk
    show RT (f_X0_dropFirst_L9 (g 0) (n + 1) (nI i) o y) Q
    unfold f_X0_dropFirst_L9
    refine RT.itF (show ¬ (40 : Int32) ≤ nI i from nI_ge (b := 40) hi (by omega)) ?_
    rw [sx_grd hi (by omega), sx_clamp (by omega), y3 i, if_neg (show ¬ i + 1 < i by omega), a2 i, if_pos (show i < f.1 by omega), ob_some]
    refine RT.grd (decide_eq_true (by have := a3 i (by omega); omega)) ?_
    rw [show nI i - 1 = nI (i - 1) from pk_sub i1, sx_grd (by omega) (by omega), sx_clamp (by omega), bnd_nr, bnd_nr, nI_1]
    refine hk _ ⟨y1, y2, fun j => ?_⟩
    show upO y.2.1 (i - 1) (some (g i)) j = if j + 1 < i + 1 then some (g (j + 1)) else f.2.1 j
    unfold upO
    by_cases c : j = i - 1
    · rw [if_pos c, if_pos (show j + 1 < i + 1 by omega), show j + 1 = i by omega]
    · rw [if_neg c, y3 j]
      by_cases d : j + 1 < i
      · rw [if_pos d, if_pos (show j + 1 < i + 1 by omega)]
      · rw [if_neg d, if_neg (show ¬ j + 1 < i + 1 by omega)]
def kA (A : AC) (V : VT) : AC := if A.1 = 40 then (40, fun i => if i = 39 then V else A.2 (i + 1)) else (A.1 + 1, fun i => if i = A.1 then V else A.2 i)
theorem c_keep {f : FS} {o v0 : Ob} {A : AC} {V : VT} {B : Nat} (h : ACc f o A) (ha : A.1 ≤ 40) (c : VC v0 V) (w : WFP V) (hB : B = max f.1 (min (A.1 + 1) 40)) : RT (f_X0_keep o f v0 B) (fun q => ACc q.2 q.1 (kA A V) ∧ q.2.1 = B) := by
  unfold f_X0_keep
  have h2 := h.2.1
  rw [h.1]
  by_cases e : A.1 = 40
  · refine RT.itF (show ¬ nI A.1 < (40 : Int32) by rw [e]; decide) ?_
    refine RT.bind (c_dropA h e) (fun q ⟨q1, q2⟩ => RT.grd (decide_eq_true q2) ?_)
    refine (c_keepJ q1 (show 39 < 40 by omega) c w (B := B) (show B = max q.2.1 (39 + 1) by omega)).weak (fun r ⟨r1, r2⟩ => ⟨?_, r2⟩)
    unfold kA
    rw [if_pos e]; exact r1
  · refine RT.itT (show nI A.1 < (40 : Int32) from nI_lt (b := 40) (by omega) (by omega)) ?_
    refine (c_keepJ h (by omega) c w (B := B) (by omega)).weak (fun r ⟨r1, r2⟩ => ⟨?_, r2⟩)
    unfold kA
    rw [if_neg e]; exact r1
theorem AOK_k {A : AC} {V : VT} {n : Nat} (h : AOK A n) (w : WFV V) (e : ve V ≤ 9999) (hn : vn V = n) : AOK (kA A V) n := by
  unfold kA
  have h1 := h.1
  by_cases c : A.1 = 40
  · rw [if_pos c]
    refine ⟨show 40 ≤ 40 by omega, fun i hi => ?_⟩
    have hi : i < 40 := hi
    show WFV (if i = 39 then V else A.2 (i + 1)) ∧ ve (if i = 39 then V else A.2 (i + 1)) ≤ 9999 ∧ vn (if i = 39 then V else A.2 (i + 1)) = n
    by_cases d : i = 39
    · rw [if_pos d]; exact ⟨w, e, hn⟩
    · rw [if_neg d]; exact h.2 (i + 1) (by omega)
  · rw [if_neg c]
    refine ⟨show A.1 + 1 ≤ 40 by omega, fun i hi => ?_⟩
    have hi : i < A.1 + 1 := hi
    show WFV (if i = A.1 then V else A.2 i) ∧ ve (if i = A.1 then V else A.2 i) ≤ 9999 ∧ vn (if i = A.1 then V else A.2 i) = n
    by_cases d : i = A.1
    · rw [if_pos d]; exact ⟨w, e, hn⟩
    · rw [if_neg d]; exact h.2 i (by omega)
theorem c_take {f : FS} {o v0 : Ob} {A : AC} {n : Nat} (h : ACc f o A) (ok : AOK A n) (hp : 0 < A.1) : RT (f_X0_takeBack o f v0 f.1) (fun q => ACc q.2.1 q.1 (A.1 - 1, A.2) ∧ q.2.1.1 = f.1 ∧ VC q.2.2 (A.2 (A.1 - 1))) := by
  obtain ⟨h1, h2, g, h3, h4⟩ := h
  have o1 := ok.1
  obtain ⟨f', g', e1, e2, e3, e4, e5⟩ := rowA h3 (i := A.1 - 1) (by omega) (by omega)
  have gl : g' (A.1 - 1) < f'.1 := e3.2.2.1 (A.1 - 1) (by omega)
  have vc : VC (f'.2.2 (g' (A.1 - 1))) (A.2 (A.1 - 1)) := by
    rw [e4 _ (by omega), e5 _ (by omega)]; exact h4 _ (by omega)
  obtain ⟨r, er, r1⟩ := c_copyFrom (v := v0) vc (ok.2 _ (by omega)).1.1
  refine ⟨((upd o.1 0 (nI (A.1 - 1)), o.2), f', r), ?_, ⟨?_, by show A.1 - 1 ≤ f'.1; omega, g', e3, fun i hi => ?_⟩, by show f'.1 = f.1; omega, r1⟩
  · unfold f_X0_takeBack
    rw [h1, if_neg (show ¬ nI A.1 ≤ 0 from nI_ge (b := A.1) (a := 0) (by omega) (by omega)), show nI A.1 - 1 = nI (A.1 - 1) from pk_sub (b := 1) hp, bnd_nr]
    rw [show ((upd o.1 0 (nI (A.1 - 1)), o.2) : Ob).1 0 = nI (A.1 - 1) from u8, e1, ob_some]
    dsimp only
    rw [grd_d (by omega), grd_d gl, er, ob_some]
  · show upd o.1 0 (nI (A.1 - 1)) 0 = _
    exact pk_us
  · have hi : i < A.1 - 1 := hi
    show VC (f'.2.2 (g' i)) (A.2 i)
    rw [e4 i (by omega), e5 i (by omega)]; exact h4 i (by omega)
theorem c_acopy {f f0 : FS} {o o0 : Ob} {A : AC} {n B : Nat} (hd : ∃ g, ACg f g) (h : ACc f0 o0 A) (ok : AOK A n) (hB : B = max f.1 A.1) : RT (f_X0_copyFrom o f o0 f0 B f0.1) (fun q => ACc q.2.1 q.1 A ∧ ACc q.2.2 o0 A ∧ q.2.1.1 = B ∧ q.2.2.1 = f0.1) := by
  obtain ⟨g, hg⟩ := hd
  obtain ⟨h1, h2, g0, h3, h4⟩ := h
  have o1 := ok.1
  refine RT.cps (fun Q hQ => ?_)
  unfold f_X0_copyFrom
  rw [bnd_nr, h1]
  have z0 : ((upd o.1 0 (nI A.1), o.2) : Ob).1 0 = nI A.1 := u8
  generalize ((upd o.1 0 (nI A.1), o.2) : Ob) = z at z0 ⊢
  refine RT.loop0_2 (fun m i (y1 y3 : FS) => f_X0_copyFrom_L10 B f0.1 o0 m (nI i) z y1 y3) A.1 (fun i y1 y3 => ∃ g1 g3, ACg y1 g1 ∧ ACg y3 g3 ∧ y1.1 = max f.1 i ∧ y3.1 = f0.1 ∧ (∀ j, j < i → VC (y1.2.2 (g1 j)) (A.2 j)) ∧ ∀ j, j < A.1 → VC (y3.2.2 (g3 j)) (A.2 j)) Q f f0 (by omega) ⟨g, g0, hg, h3, by omega, rfl, fun j hj => absurd hj (Nat.not_lt_zero _), h4⟩ ?_ ?_
  · intro m y1 y3 ⟨g1, g3, a1, a2, a3, a4, a5, a6⟩
    show RT (f_X0_copyFrom_L10 B f0.1 o0 (m + 1) (nI A.1) z y1 y3) Q
    unfold f_X0_copyFrom_L10
    rw [z0]
    exact RT.itT (show nI A.1 ≤ nI A.1 from nI_le (Nat.le_refl _) (by omega)) (RT.done hQ ⟨⟨z0, by show A.1 ≤ y1.1; omega, g1, a1, a5⟩, ⟨h1, by show A.1 ≤ y3.1; omega, g3, a2, a6⟩, by show y1.1 = B; omega, a4⟩)
  · intro m i y1 y3 hi ⟨g1, g3, a1, a2, a3, a4, a5, a6⟩ hk
    show RT (f_X0_copyFrom_L10 B f0.1 o0 (m + 1) (nI i) z y1 y3) Q
    unfold f_X0_copyFrom_L10
    rw [z0]
    refine RT.itF (show ¬ nI A.1 ≤ nI i from nI_ge hi (by omega)) ?_
    obtain ⟨f', g', e1, e2, e3, e4, e5⟩ := rowA a1 (i := i) (by omega) (by omega)
    obtain ⟨f3, g4, t1, t2, t3, t4, t5⟩ := rowA a2 (i := i) (by omega) (by omega)
    have gl : g' i < f'.1 := e3.2.2.1 i (by omega)
    have gl3 : g4 i < f3.1 := t3.2.2.1 i (by omega)
    have v3 : ∀ j, j < A.1 → VC (f3.2.2 (g4 j)) (A.2 j) := fun j hj => by
      rw [t4 j (by omega), t5 j (by omega)]; exact a6 j hj
    obtain ⟨r, er, r1⟩ := c_copyFrom (v := f'.2.2 (g' i)) (v3 i hi) (ok.2 i hi).1.1
    rw [e1, ob_some]
    dsimp only
    rw [grd_d (by omega), t1, ob_some]
    dsimp only
    rw [grd_d (by omega), grd_d gl, grd_d gl3, er, ob_some, bnd_nr, bnd_nr, nI_1]
    refine hk _ _ ⟨g', g4, e3, t3, by show f'.1 = _; omega, by show f3.1 = _; omega, fun j hj => ?_, v3⟩
    show VC (sV f'.2.2 (g' i) r (g' j)) (A.2 j)
    by_cases e : j = i
    · rw [e, sV_s]; exact r1
    · rw [sV_n (fun x => e (e3.2.2.2 j i (by omega) (by omega) x)), e4 j (by omega), e5 j (by omega)]
      exact a5 j (by omega)
theorem c_scopy {o o0 : Ob} {S : SN} {n : Nat} (h : SCo o0 S) (ok : SOK S n) : RT (f_X8_copyFrom o o0) (fun r => SCo r S) := by
  have o1 := ok.1
  refine RT.cps (fun Q hQ => ?_)
  unfold f_X8_copyFrom
  refine RT.bnd (RT.grd (by decide) (RT.bnd (RT.grd (by decide) (RT.bnd (RT.grd (by decide) (RT.bnd (RT.done hQ ⟨?_, fun k hk => ?_⟩)))))))
  · show upd o.1 0 (o0.1 0) 0 = _
    rw [pk_us]; exact h.1
  · obtain ⟨a, b, c⟩ := h.2 k hk
    have e : ∀ f g : Nat → Int32, va_cpy f g 0 0 8 k = f k := fun f g => cpy0 (by omega)
    exact ⟨(e _ _).trans a, (e _ _).trans b, (e _ _).trans c⟩
theorem c_fcopy {o o0 : Ob} {F : FD} {n : Nat} (h : FC o0 F) (ok : FOK F n) : RT (f_X3_copyFrom o o0) (fun r => FC r F) := by
  have o1 := ok.1
  refine RT.cps (fun Q hQ => ?_)
  unfold f_X3_copyFrom
  refine RT.bnd (RT.grd (by decide) (RT.bnd (RT.grd (by decide) (RT.bnd (RT.done hQ ⟨?_, fun k hk => ?_⟩)))))
  · show upd o.1 0 (o0.1 0) 0 = _
    rw [pk_us]; exact h.1
  · obtain ⟨a, b⟩ := h.2 k hk
    have e : ∀ f g : Nat → Int32, va_cpy f g 0 0 12 k = f k := fun f g => cpy0 (by omega)
    exact ⟨(e _ _).trans a, (e _ _).trans b⟩
