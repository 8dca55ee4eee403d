/-! the class's reading of a rule: not, and, or -/
section CQ
variable {X : TX} {ut : Nat → Int32} {pk : Bool} {lo hi : Nat} {v v0 : Ob} {L : List Nat} {j : Nat}
def EXn (X : TX) (j' : Nat) (cm : Bool) : Prop := ((tk X j' = 60 ∨ tk X j' = 61) → cm = true) ∧ (tk X j' ≠ 43 ∧ tk X j' ≠ 45 ∧ tk X j' ≠ 42 ∧ tk X j' ≠ 47)
theorem ok_nots {K : List Nat} {hb k : Nat} (a : ∀ h, h ≤ hb → okL h K ∧ hrun h K = h + 1) : ∀ h, h ≤ hb → okL h (K ++ List.replicate k 20033) ∧ hrun h (K ++ List.replicate k 20033) = h + 1 := by
  intro h hh9
  obtain ⟨a1, a2⟩ := a h hh9
  have r : ∀ k, okL (h + 1) (List.replicate k 20033) ∧ hrun (h + 1) (List.replicate k 20033) = h + 1 := by
    intro k
    induction k with
    | zero => exact ⟨trivial, rfl⟩
    | succ k ih =>
      have e : hs (h + 1) 20033 = h + 1 := by unfold hs; rw [if_neg (by omega), if_pos rfl]
      refine ⟨⟨?_, ?_⟩, ?_⟩
      · unfold okc; rw [if_neg (by omega), if_pos rfl]; omega
      · show okL (hs (h + 1) 20033) (List.replicate k 20033)
        rw [e]; exact ih.1
      · show hrun (hs (h + 1) 20033) (List.replicate k 20033) = h + 1
        rw [e]; exact ih.2
  exact ⟨okL_app.mpr ⟨a1, by rw [a2]; exact (r k).1⟩, by rw [hrun_app, a2]; exact (r k).2⟩
theorem vok_nots {K : List Nat} {k : Nat} (a : ∀ c ∈ K, vok lo hi c) : ∀ c ∈ K ++ List.replicate k 20033, vok lo hi c := by
  intro c hc
  rcases List.mem_append.mp hc with q | q
  · exact a c q
  · rw [List.eq_of_mem_replicate q]; exact ⟨by omega, fun _ h => by omega⟩
/-- nots are added behind -/
theorem c_nots {rec : Ob → (Nat → Int32) → Ob → Nat → Int32 → Option (Int32 × Ob × Ob)} {k : Nat} {f9 : Int32} {z R : Ob} {K : List Nat} (hk : k ≤ 6) (rs : RS R K) (hl : K.length + k ≤ 700) : RT (f_X6_notPart_L106 rec 700 (nI k) f9 ut FUEL 0 z R) (fun r => r.1 = f9 ∧ r.2.1 = z ∧ RS r.2.2 (K ++ List.replicate k 20033) ∧ r.2.2.1 0 = R.1 0) := by
  refine RT.cps (fun Q hQ => ?_)
  refine RT.loop0 (fun n i (y : Ob) => f_X6_notPart_L106 rec 700 (nI k) f9 ut n (nI i) z y) k (fun i y => RS y (K ++ List.replicate i 20033) ∧ y.1 0 = R.1 0) Q R (by omega) ⟨by rw [show List.replicate 0 20033 = ([] : List Nat) from rfl, List.append_nil]; exact rs, rfl⟩ ?_ ?_
  · intro n y ⟨y1, y2⟩
    show RT (f_X6_notPart_L106 rec 700 (nI k) f9 ut (n + 1) (nI k) z y) Q
    unfold f_X6_notPart_L106
    exact RT.itT (nI_le (Nat.le_refl _) (by omega)) (RT.done hQ ⟨rfl, rfl, y1, y2⟩)
  · intro n i y hi ⟨y1, y2⟩ hc
    show RT (f_X6_notPart_L106 rec 700 (nI k) f9 ut (n + 1) (nI i) z y) Q
    unfold f_X6_notPart_L106
    refine RT.itF (nI_ge hi (by omega)) ?_
    rw [show (20033 : Int32) = nI 20033 from rfl]
    refine RT.bind (c_add (c := 20033) y1 (by rw [List.length_append, List.length_replicate]; omega)) (fun u ⟨u1, u2⟩ => ?_)
    rw [bnd_nr, nI_1]
    refine hc u ⟨?_, u2.trans y2⟩
    rw [List.replicate_succ', ← List.append_assoc]; exact u1
theorem c_notsF {rec : Ob → (Nat → Int32) → Ob → Nat → Int32 → Option (Int32 × Ob × Ob)} {k : Nat} {f9 : Int32} {z R : Ob} (hk : k ≤ 6) (rs : RF R) : RT (f_X6_notPart_L106 rec 700 (nI k) f9 ut FUEL 0 z R) (fun r => r.1 = f9 ∧ r.2.1 = z ∧ RF r.2.2 ∧ r.2.2.1 0 = R.1 0) := by
  refine RT.cps (fun Q hQ => ?_)
  refine RT.loop0 (fun n i (y : Ob) => f_X6_notPart_L106 rec 700 (nI k) f9 ut n (nI i) z y) k (fun i y => RF y ∧ y.1 0 = R.1 0) Q R (by omega) ⟨rs, rfl⟩ ?_ ?_
  · intro n y ⟨y1, y2⟩
    show RT (f_X6_notPart_L106 rec 700 (nI k) f9 ut (n + 1) (nI k) z y) Q
    unfold f_X6_notPart_L106
    exact RT.itT (nI_le (Nat.le_refl _) (by omega)) (RT.done hQ ⟨rfl, rfl, y1, y2⟩)
  · intro n i y hi ⟨y1, y2⟩ hc
    show RT (f_X6_notPart_L106 rec 700 (nI k) f9 ut (n + 1) (nI i) z y) Q
    unfold f_X6_notPart_L106
    refine RT.itF (nI_ge hi (by omega)) ?_
    refine RT.bind (c_addF y1) (fun u ⟨u1, u2⟩ => ?_)
    rw [bnd_nr, nI_1]
    exact hc u ⟨u1, u2.trans y2⟩
theorem c_notPart {rec : Ob → (Nat → Int32) → Ob → Nat → Int32 → Option (Int32 × Ob × Ob)} {w : Nat} (hw : w ≤ 5) (hr : RECOK X ut pk lo hi rec (w + 1)) (p : PI X ut pk lo hi v v0 L j) : RT (f_X6_notPart rec v ut v0 700 (nI w)) (PCx X lo hi v v0 L j (5 * w + 2) (fun f j' K => ∃ cm, (f = 0 → EXn X j' cm) ∧ SIMn X lo hi 3 (w + 1) j f j' K cm)) := by
  refine RT.cps (fun Q hQ => ?_)
  obtain ⟨b, t, h10, hp, rs, lj, jn⟩ := p
  have hn := b.1
  unfold f_X6_notPart
  have go : ∀ (k : Nat) (y : Ob), k ≤ 6 → j + k ≤ X.2 → (∀ i, i < k → tw X (j + i) = 15) → tw X (j + k) ≠ 15 → TC X y (j + k) → y.1 10 = v.1 10 → RT (f_X6_notPart_J44 rec 700 ut (nI w) (nI k) y v0) Q := by
    intro k y hk kn hw9 hx ty y10
    unfold f_X6_notPart_J44
    refine RT.bind (c_sum hw hr ⟨b, ty, y10.trans h10, hp, rs, by omega, kn⟩) (fun q hq => ?_)
    obtain ⟨f, j', K, q1, q2, ⟨q3, q4⟩, q5, q6, q7, q8, q9, qe, qs⟩ := hq
    have nocmp : f = 0 → ¬ (tk X j' = 60 ∨ tk X j' = 61) → RT (f_X6_notPart_L106 rec 700 (nI k) q.1 ut FUEL 0 q.2.1 q.2.2) Q := by
      intro f0 nc
      subst f0
      obtain ⟨y1, y2, y3, y4⟩ := q8 rfl
      obtain ⟨e1, e2, e3, e4⟩ := qe rfl
      refine RT.weak (c_nots hk y1 (by rw [List.length_append]; omega)) (fun r ⟨r1, r2, r3, r4⟩ => hQ r ?_)
      refine ⟨0, j', K ++ List.replicate k 20033, r1.trans q1, by omega, ⟨by omega, q4⟩, by rw [r2]; exact q5, by rw [r2]; exact q6.trans y10, r4.trans q7, fun _ => ⟨?_, ?_, ?_, vok_nots y4⟩, fun e => absurd rfl e, false, fun _ => ⟨fun e => absurd e nc, e3, e4, e1, e2⟩, SIMn_plain hk hw9 hx qs⟩
      · rw [← List.append_assoc]; exact r3
      · rw [List.length_append, List.length_replicate]; omega
      · exact ok_nots (fun h hh9 => y3 h (by omega))
    by_cases f0 : f = 0
    · subst f0
      obtain ⟨y1, y2, y3, y4⟩ := q8 rfl
      refine RT.itT q1 ?_
      have cmp : ∀ op act, (op = 60 ∧ act = 6) ∨ (op = 61 ∧ act = 7) → tk X j' = op → RT (f_X6_notPart_J75 rec 700 ut (nI w) (nI k) q.2.1 q.2.2) Q := by
        intro op act hop hk9
        have io : isOp (20000 + op) = true := by rcases hop with ⟨rfl, _⟩ | ⟨rfl, _⟩ <;> rfl
        have tj := tk_j (X := X) (j := j') (by omega)
        unfold f_X6_notPart_J75
        rw [bnd_nr, q5.2.2.2.1, hk9]
        refine RT.bind (c_next b q5) (fun r ⟨t1, t2, _⟩ => ?_)
        refine RT.bind (c_sum hw hr (L := L ++ K) ⟨b, t1, ((t2.trans q6).trans y10).trans h10, hp, y1, by rw [List.length_append]; omega, by omega⟩) (fun s hs9 => ?_)
        obtain ⟨f2, j2, K2, s1, s2, ⟨s3, s4⟩, s5, s6, s7, s8, s9, se, ss9⟩ := hs9
        have sim : SIMn X lo hi 3 (w + 1) j f2 j2 (K ++ K2 ++ [20000 + op] ++ List.replicate k 20033) true := SIMn_cmp hop (by omega) hk hw9 hx qs hk9 ss9
        rw [show (20000 : Int32) + nI op = nI (20000 + op) from nI_add 20000 op]
        by_cases f2z : f2 = 0
        · subst f2z
          obtain ⟨x1, x2, x3, x4⟩ := s8 rfl
          obtain ⟨e1, e2, e3, e4⟩ := se rfl
          refine RT.bind (c_add (c := 20000 + op) x1 (by simp only [List.length_append]; omega)) (fun u ⟨u1, u2⟩ => ?_)
          refine RT.weak (c_nots hk u1 (by simp only [List.length_append, List.length_singleton]; omega)) (fun r2 ⟨r1, r3, r4, r5⟩ => hQ r2 ?_)
          refine ⟨0, j2, K ++ K2 ++ [20000 + op] ++ List.replicate k 20033, r1.trans s1, by omega, ⟨by omega, s4⟩, by rw [r3]; exact s5, by rw [r3]; exact ((s6.trans t2).trans q6).trans y10, ((r5.trans u2).trans s7).trans q7, fun _ => ⟨?_, ?_, ?_, vok_nots (vok_app io y4 x4)⟩, fun e => absurd rfl e, true, fun _ => ⟨fun _ => rfl, e3, e4, e1, e2⟩, sim⟩
          · rw [← List.append_assoc, ← List.append_assoc, ← List.append_assoc]; exact r4
          · simp only [List.length_append, List.length_singleton, List.length_replicate]; omega
          · exact ok_nots (ok_bin io (fun h hh9 => y3 h (by omega)) (fun h hh9 => x3 h (by omega)))
        · refine RT.bind (c_addF (s9 f2z)) (fun u ⟨u1, u2⟩ => ?_)
          refine RT.weak (c_notsF hk u1) (fun r2 ⟨r1, r3, r4, r5⟩ => hQ r2 ?_)
          exact ⟨f2, j2, _, r1.trans s1, s2, ⟨by omega, s4⟩, by rw [r3]; exact s5, by rw [r3]; exact ((s6.trans t2).trans q6).trans y10, ((r5.trans u2).trans s7).trans q7, fun e => absurd e f2z, fun _ => r4, true, fun e => absurd e f2z, sim⟩
      rw [show (60 : Int32) = nI 60 from rfl, show (61 : Int32) = nI 61 from rfl]
      simp only [kd_eq q5 (c := 60) (by omega), kd_eq q5 (c := 61) (by omega)]
      by_cases k1 : tk X j' = 60
      · rw [if_pos k1]; exact cmp 60 6 (Or.inl ⟨rfl, rfl⟩) k1
      · rw [if_neg k1]
        by_cases k2 : tk X j' = 61
        · rw [if_pos k2]; exact cmp 61 7 (Or.inr ⟨rfl, rfl⟩) k2
        · rw [if_neg k2]; exact nocmp rfl (by omega)
    · refine RT.itF (by rw [q1]; exact nI_ne0 (by omega) (by omega)) ?_
      refine RT.weak (c_notsF hk (q9 f0)) (fun r ⟨r1, r2, r3, r4⟩ => hQ r ?_)
      exact ⟨f, j', K ++ List.replicate k 20033, r1.trans q1, q2, ⟨by omega, q4⟩, by rw [r2]; exact q5, by rw [r2]; exact q6.trans y10, r4.trans q7, fun e => absurd e f0, fun _ => r3, false, fun e => absurd e f0, SIMn_plain hk hw9 hx qs⟩
  refine RT.loop0 (fun n i (y : Ob) => f_X6_notPart_L5 rec 700 (nI w) ut n (nI i) (nI i) y v0) 6 (fun i y => j + i ≤ X.2 ∧ (∀ q, q < i → tw X (j + q) = 15) ∧ TC X y (j + i) ∧ y.1 10 = v.1 10) Q v (by omega) ⟨jn, fun q hq => absurd hq (Nat.not_lt_zero _), t, rfl⟩ ?_ ?_
  · intro n y ⟨y1, y2, y3, y4⟩
    show RT (f_X6_notPart_L5 rec 700 (nI w) ut (n + 1) (nI 6) (nI 6) y v0) Q
    unfold f_X6_notPart_L5
    rw [y3.1]
    by_cases e : X.2 ≤ 6
    · refine RT.itT (nI_le e (by omega)) (go 6 y (by omega) y1 y2 ?_ y3 y4)
      rw [tk_tw (by rw [tk_big (by omega)]; omega)]; omega
    · refine RT.itF (nI_ge (by omega) (by omega)) ?_
      rw [show (6 : Nat) = sid 15 from rfl, c_isWord b y3 (by omega), ob_some]
      by_cases e15 : tw X (j + 6) = 15
      · rw [if_pos e15]
        refine RT.itF (by decide) (RT.itF (by decide) (RT.done hQ ?_))
        refine ⟨2, j + 6, [], rfl, by omega, ⟨by omega, y1⟩, y3, y4, rfl, fun z => absurd z (by omega), fun _ => rs.rf (by omega), false, fun z => absurd z (by omega), SIMn_many (fun i hi => ?_) []⟩
        by_cases e : i = 6
        · rw [e]; exact e15
        · exact y2 i (by omega)
      · rw [if_neg e15]
        exact RT.itT rfl (go 6 y (by omega) y1 y2 e15 y3 y4)
  · intro n i y hi ⟨y1, y2, y3, y4⟩ hc
    show RT (f_X6_notPart_L5 rec 700 (nI w) ut (n + 1) (nI i) (nI i) y v0) Q
    unfold f_X6_notPart_L5
    rw [y3.1]
    by_cases e : X.2 ≤ i
    · refine RT.itT (nI_le e (by omega)) (go i y (by omega) y1 y2 ?_ y3 y4)
      rw [tk_tw (by rw [tk_big (by omega)]; omega)]; omega
    · refine RT.itF (nI_ge (by omega) (by omega)) ?_
      rw [show (6 : Nat) = sid 15 from rfl, c_isWord b y3 (by omega), ob_some]
      by_cases e15 : tw X (j + i) = 15
      · rw [if_pos e15]
        refine RT.itF (by decide) (RT.itT (show nI i < nI 6 from nI_lt hi (by omega)) ?_)
        have tj := tk_j (X := X) (j := j + i) (by rw [tw_1 (by omega)]; omega)
        rw [bnd_nr]
        refine RT.bind (c_next b y3) (fun r ⟨r1, r2, _⟩ => ?_)
        rw [bnd_nr, nI_1]
        refine hc r ⟨by omega, fun q hq => ?_, r1, r2.trans y4⟩
        by_cases e : q = i
        · rw [e]; exact e15
        · exact y2 q (by omega)
      · rw [if_neg e15]
        exact RT.itT rfl (go i y (by omega) y1 y2 e15 y3 y4)
theorem c_andPart {rec : Ob → (Nat → Int32) → Ob → Nat → Int32 → Option (Int32 × Ob × Ob)} {w : Nat} (hw : w ≤ 5) (hr : RECOK X ut pk lo hi rec (w + 1)) (p : PI X ut pk lo hi v v0 L j) : RT (f_X6_andPart rec v ut v0 700 (nI w)) (PCx X lo hi v v0 L j (5 * w + 1) (fun f j' K => ∃ cm, (f = 0 → EXn X j' cm ∧ tw X j' ≠ 13) ∧ SIMn X lo hi 2 (w + 1) j f j' K cm)) := by
  refine RT.cps (fun Q hQ => ?_)
  obtain ⟨b, t, h10, hp, rs, lj, jn⟩ := p
  have hn := b.1
  unfold f_X6_andPart
  refine RT.bind (c_notPart hw hr ⟨b, t, h10, hp, rs, lj, jn⟩) (fun q hq => ?_)
  refine RT.loop0 (fun n i (y : Int32 × Ob × Ob) => f_X6_andPart_L10 rec 700 (nI w) ut n y.1 (nI i) y.2.1 y.2.2) X.2 (fun i y => ∃ (f j' : Nat) (K : List Nat) (cm : Bool), y.1 = nI f ∧ f ≤ 5 ∧ (j ≤ j' ∧ j' ≤ X.2 ∧ i ≤ j') ∧ TC X y.2.1 j' ∧ y.2.1.1 10 = v.1 10 ∧ y.2.2.1 0 = v0.1 0 ∧ (f = 0 → RS y.2.2 (L ++ K) ∧ K.length + j ≤ j' ∧ (∀ h, h ≤ 5 * w + 1 → okL h K ∧ hrun h K = h + 1) ∧ ∀ c ∈ K, vok lo hi c) ∧ (f ≠ 0 → RF y.2.2) ∧ (f = 0 → EXn X j' cm) ∧ SIMn X lo hi 2 (w + 1) j f j' K cm) Q (q.1, q.2.1, q.2.2) (by omega) ?_ ?_ ?_
  · obtain ⟨f, j', K, q1, q2, ⟨q3, q4⟩, q5, q6, q7, q8, q9, cm, qe, qs⟩ := hq
    refine ⟨f, j', K, cm, q1, q2, ⟨q3, q4, by omega⟩, q5, q6, q7, fun e => ?_, q9, qe, qs.mono (by omega)⟩
    obtain ⟨y1, y2, y3, y4⟩ := q8 e
    exact ⟨y1, y2, fun h hh9 => y3 h (by omega), y4⟩
  · intro n y ⟨f, j', K, cm, q1, q2, ⟨q3, q4, q0⟩, q5, q6, q7, q8, q9, qe, qs⟩
    show RT (f_X6_andPart_L10 rec 700 (nI w) ut (n + 1) y.1 (nI X.2) y.2.1 y.2.2) Q
    unfold f_X6_andPart_L10
    refine RT.itT (by rw [q5.1]; exact nI_le (Nat.le_refl _) (by omega)) (RT.done hQ ?_)
    have k0 := tk_big (X := X) (j := j') q0
    exact ⟨f, j', K, q1, q2, ⟨q3, q4⟩, q5, q6, q7, q8, q9, cm, fun e => ⟨qe e, by rw [tk_tw (by omega)]; omega⟩, qs⟩
  · intro n i y hi9 ⟨f, j', K, cm, q1, q2, ⟨q3, q4, q0⟩, q5, q6, q7, q8, q9, qe, qs⟩ hk
    show RT (f_X6_andPart_L10 rec 700 (nI w) ut (n + 1) y.1 (nI i) y.2.1 y.2.2) Q
    have ext : (f = 0 → tw X j' ≠ 13) → Q (y.1, y.2.1, y.2.2) := fun e => hQ _ ⟨f, j', K, q1, q2, ⟨q3, q4⟩, q5, q6, q7, q8, q9, cm, fun h => ⟨qe h, e h⟩, qs⟩
    unfold f_X6_andPart_L10
    rw [q5.1]
    refine RT.itF (nI_ge hi9 (by omega)) ?_
    by_cases f0 : f = 0
    · subst f0
      obtain ⟨y1, y2, y3, y4⟩ := q8 rfl
      refine RT.itT q1 ?_
      rw [show (15 : Nat) = sid 13 from rfl, c_isWord b q5 (by omega), ob_some]
      by_cases e13 : tw X j' = 13
      · rw [if_pos e13]
        refine RT.itF (by decide) ?_
        have tj := tk_j (X := X) (j := j') (by rw [tw_1 (by omega)]; omega)
        refine RT.bind (c_next b q5) (fun r ⟨t1, t2, _⟩ => ?_)
        refine RT.bind (c_notPart hw hr (L := L ++ K) ⟨b, t1, (t2.trans q6).trans h10, hp, y1, by rw [List.length_append]; omega, by omega⟩) (fun s hs9 => ?_)
        obtain ⟨f2, j2, K2, s1, s2, ⟨s3, s4⟩, s5, s6, s7, s8, s9, cm2, se, ss9⟩ := hs9
        have sim : SIMn X lo hi 2 (w + 1) j f2 j2 (K ++ K2 ++ [20038]) cm2 := qs.bin (Or.inl ⟨rfl, rfl, rfl, rfl⟩) (by omega) e13 ss9
        rw [show (20038 : Int32) = nI 20038 from rfl]
        by_cases f2z : f2 = 0
        · subst f2z
          obtain ⟨x1, x2, x3, x4⟩ := s8 rfl
          refine RT.bind (c_add (c := 20038) x1 (by simp only [List.length_append]; omega)) (fun u ⟨u1, u2⟩ => ?_)
          rw [bnd_nr, nI_1]
          refine hk (s.1, s.2.1, u) ⟨0, j2, K ++ K2 ++ [20038], cm2, s1, s2, ⟨by omega, s4, by omega⟩, s5, (s6.trans t2).trans q6, (u2.trans s7).trans q7, fun _ => ⟨?_, ?_, ?_, ?_⟩, fun e => absurd rfl e, se, sim⟩
          · rw [← List.append_assoc, ← List.append_assoc]; exact u1
          · simp only [List.length_append, List.length_singleton]; omega
          · exact ok_bin rfl y3 (fun h hh9 => x3 h (by omega))
          · exact vok_app rfl y4 x4
        · refine RT.bind (c_addF (s9 f2z)) (fun u ⟨u1, u2⟩ => ?_)
          rw [bnd_nr, nI_1]
          exact hk (s.1, s.2.1, u) ⟨f2, j2, K ++ K2 ++ [20038], cm2, s1, s2, ⟨by omega, s4, by omega⟩, s5, (s6.trans t2).trans q6, (u2.trans s7).trans q7, fun e => absurd e f2z, fun _ => u1, se, sim⟩
      · rw [if_neg e13]
        exact RT.itT rfl ⟨_, rfl, ext (fun _ => e13)⟩
    · refine RT.itF (by rw [q1]; exact nI_ne0 (by omega) (by omega)) ?_
      exact ⟨_, rfl, ext (fun e => absurd e f0)⟩
def EXe (X : TX) (f j' : Nat) (cm : Bool) : Prop := f = 0 → tw X j' ≠ 13 ∧ tw X j' ≠ 14 ∧ ((tk X j' = 60 ∨ tk X j' = 61) → cm = true) ∧ (tk X j' ≠ 43 ∧ tk X j' ≠ 45 ∧ tk X j' ≠ 42 ∧ tk X j' ≠ 47)
theorem c_expr33 {rec : Ob → (Nat → Int32) → Ob → Nat → Int32 → Option (Int32 × Ob × Ob)} {w : Nat} (hw : w ≤ 5) (hr : RECOK X ut pk lo hi rec (w + 1)) (p : PI X ut pk lo hi v v0 L j) : RT (f_X6_expr_J33 rec 700 ut (nI w) v v0) (PCx X lo hi v v0 L j (5 * w) (fun f j' K => ∃ cm, EXe X f j' cm ∧ SIMe X lo hi w j f j' K cm)) := by
  refine RT.cps (fun Q hQ => ?_)
  obtain ⟨b, t, h10, hp, rs, lj, jn⟩ := p
  have hn := b.1
  unfold f_X6_expr_J33
  refine RT.bind (c_andPart hw hr ⟨b, t, h10, hp, rs, lj, jn⟩) (fun q hq => ?_)
  refine RT.loop0 (fun n i (y : Int32 × Ob × Ob) => f_X6_expr_L43 rec 700 (nI w) ut n y.1 (nI i) y.2.1 y.2.2) X.2 (fun i y => ∃ (f j' : Nat) (K : List Nat) (cm : Bool), y.1 = nI f ∧ f ≤ 5 ∧ (j ≤ j' ∧ j' ≤ X.2 ∧ i ≤ j') ∧ TC X y.2.1 j' ∧ y.2.1.1 10 = v.1 10 ∧ y.2.2.1 0 = v0.1 0 ∧ (f = 0 → RS y.2.2 (L ++ K) ∧ K.length + j ≤ j' ∧ (∀ h, h ≤ 5 * w → okL h K ∧ hrun h K = h + 1) ∧ ∀ c ∈ K, vok lo hi c) ∧ (f ≠ 0 → RF y.2.2) ∧ (f = 0 → EXn X j' cm ∧ tw X j' ≠ 13) ∧ SIMn X lo hi 1 (w + 1) j f j' K cm) Q (q.1, q.2.1, q.2.2) (by omega) ?_ ?_ ?_
  · obtain ⟨f, j', K, q1, q2, ⟨q3, q4⟩, q5, q6, q7, q8, q9, cm, qe, qs⟩ := hq
    refine ⟨f, j', K, cm, q1, q2, ⟨q3, q4, by omega⟩, q5, q6, q7, fun e => ?_, q9, qe, qs.mono (by omega)⟩
    obtain ⟨y1, y2, y3, y4⟩ := q8 e
    exact ⟨y1, y2, fun h hh9 => y3 h (by omega), y4⟩
  · intro n y ⟨f, j', K, cm, q1, q2, ⟨q3, q4, q0⟩, q5, q6, q7, q8, q9, qe, qs⟩
    show RT (f_X6_expr_L43 rec 700 (nI w) ut (n + 1) y.1 (nI X.2) y.2.1 y.2.2) Q
    unfold f_X6_expr_L43
    refine RT.itT (by rw [q5.1]; exact nI_le (Nat.le_refl _) (by omega)) (RT.done hQ ?_)
    have k0 := tk_big (X := X) (j := j') q0
    exact ⟨f, j', K, q1, q2, ⟨q3, q4⟩, q5, q6, q7, q8, q9, cm, fun e => ⟨(qe e).2, by rw [tk_tw (by omega)]; omega, (qe e).1.1, (qe e).1.2⟩, SIMe_of (by omega) qs⟩
  · intro n i y hi9 ⟨f, j', K, cm, q1, q2, ⟨q3, q4, q0⟩, q5, q6, q7, q8, q9, qe, qs⟩ hk
    show RT (f_X6_expr_L43 rec 700 (nI w) ut (n + 1) y.1 (nI i) y.2.1 y.2.2) Q
    have ext : (f = 0 → tw X j' ≠ 14) → Q (y.1, y.2.1, y.2.2) := fun e => hQ _ ⟨f, j', K, q1, q2, ⟨q3, q4⟩, q5, q6, q7, q8, q9, cm, fun h => ⟨(qe h).2, e h, (qe h).1.1, (qe h).1.2⟩, SIMe_of (by omega) qs⟩
    unfold f_X6_expr_L43
    rw [q5.1]
    refine RT.itF (nI_ge hi9 (by omega)) ?_
    by_cases f0 : f = 0
    · subst f0
      obtain ⟨y1, y2, y3, y4⟩ := q8 rfl
      refine RT.itT q1 ?_
      rw [show (16 : Nat) = sid 14 from rfl, c_isWord b q5 (by omega), ob_some]
      by_cases e14 : tw X j' = 14
      · rw [if_pos e14]
        refine RT.itF (by decide) ?_
        have tj := tk_j (X := X) (j := j') (by rw [tw_1 (by omega)]; omega)
        refine RT.bind (c_next b q5) (fun r ⟨t1, t2, _⟩ => ?_)
        refine RT.bind (c_andPart hw hr (L := L ++ K) ⟨b, t1, (t2.trans q6).trans h10, hp, y1, by rw [List.length_append]; omega, by omega⟩) (fun s hs9 => ?_)
        obtain ⟨f2, j2, K2, s1, s2, ⟨s3, s4⟩, s5, s6, s7, s8, s9, cm2, se, ss9⟩ := hs9
        have sim : SIMn X lo hi 1 (w + 1) j f2 j2 (K ++ K2 ++ [20124]) cm2 := qs.bin (Or.inr ⟨rfl, rfl, rfl, rfl⟩) (by omega) e14 ss9
        rw [show (20124 : Int32) = nI 20124 from rfl]
        by_cases f2z : f2 = 0
        · subst f2z
          obtain ⟨x1, x2, x3, x4⟩ := s8 rfl
          refine RT.bind (c_add (c := 20124) x1 (by simp only [List.length_append]; omega)) (fun u ⟨u1, u2⟩ => ?_)
          rw [bnd_nr, nI_1]
          refine hk (s.1, s.2.1, u) ⟨0, j2, K ++ K2 ++ [20124], cm2, s1, s2, ⟨by omega, s4, by omega⟩, s5, (s6.trans t2).trans q6, (u2.trans s7).trans q7, fun _ => ⟨?_, ?_, ?_, ?_⟩, fun e => absurd rfl e, se, sim⟩
          · rw [← List.append_assoc, ← List.append_assoc]; exact u1
          · simp only [List.length_append, List.length_singleton]; omega
          · exact ok_bin rfl y3 (fun h hh9 => x3 h (by omega))
          · exact vok_app rfl y4 x4
        · refine RT.bind (c_addF (s9 f2z)) (fun u ⟨u1, u2⟩ => ?_)
          rw [bnd_nr, nI_1]
          exact hk (s.1, s.2.1, u) ⟨f2, j2, K ++ K2 ++ [20124], cm2, s1, s2, ⟨by omega, s4, by omega⟩, s5, (s6.trans t2).trans q6, (u2.trans s7).trans q7, fun e => absurd e f2z, fun _ => u1, se, sim⟩
      · rw [if_neg e14]
        exact RT.itT rfl ⟨_, rfl, ext (fun _ => e14)⟩
    · refine RT.itF (by rw [q1]; exact nI_ne0 (by omega) (by omega)) ?_
      exact ⟨_, rfl, ext (fun e => absurd e f0)⟩
/-- too deep, and nothing that begins one: misplaced -/
theorem c_deep {rec : Ob → (Nat → Int32) → Ob → Nat → Int32 → Option (Int32 × Ob × Ob)} {w : Int32} (b : TB X ut) (t : TC X v j) (h1 : tk X j ≠ 1) (h2 : tk X j ≠ 2) (h4 : tk X j ≠ 40) : f_X6_expr_J33 rec 700 ut w v v0 = some (1, v, v0) := by
  have one : ¬ (1 : Int32) = 0 := by decide
  have hn := b.1
  obtain ⟨u, eu, _⟩ := fuel_s
  have e1 : f_X6_part rec v ut v0 700 w = some (1, v, v0) := by
    unfold f_X6_part
    rw [show (40 : Int32) = nI 40 from rfl, show (2 : Int32) = nI 2 from rfl]
    simp only [kd_eq t (c := 40) (by omega), kd_eq t (c := 2) (by omega)]
    rw [if_neg h4, if_neg h2, if_neg (show ¬ v.1 8 = 1 from kdF t (c := 1) (by omega) h1)]
  have e2 : f_X6_product rec v ut v0 700 w = some (1, v, v0) := by
    unfold f_X6_product
    rw [e1, ob_some, eu]
    unfold f_X6_product_L10
    rw [if_neg one]
    split <;> rfl
  have e3 : f_X6_sum rec v ut v0 700 w = some (1, v, v0) := by
    unfold f_X6_sum
    rw [e2, ob_some, eu]
    unfold f_X6_sum_L10
    rw [if_neg one]
    split <;> rfl
  have e4 : f_X6_notPart_J44 rec 700 ut w 0 v v0 = some (1, v, v0) := by
    unfold f_X6_notPart_J44
    rw [e3, ob_some, if_neg one, eu]
    unfold f_X6_notPart_L106
    rw [if_pos (by decide)]
  have e5 : f_X6_notPart rec v ut v0 700 w = some (1, v, v0) := by
    unfold f_X6_notPart
    rw [eu]
    unfold f_X6_notPart_L5
    rw [show (6 : Nat) = sid 15 from rfl, c_isWord b t (by omega), ob_some, tk_tw h1, if_neg (show ¬ (16 : Nat) = 15 by omega), if_pos (show nI 0 = 0 from rfl), e4]
    split <;> rfl
  have e6 : f_X6_andPart rec v ut v0 700 w = some (1, v, v0) := by
    unfold f_X6_andPart
    rw [e5, ob_some, eu]
    unfold f_X6_andPart_L10
    rw [if_neg one]
    split <;> rfl
  unfold f_X6_expr_J33
  rw [e6, ob_some, eu]
  unfold f_X6_expr_L43
  rw [if_neg one]
  split <;> rfl
theorem rec_ok : ∀ (n w : Nat), w ≤ 6 → 8 ≤ n + w → RECOK X ut pk lo hi (fx_expr n) w
  | 0, w, h, h2 => by omega
  | n + 1, w, h, h2 => by
    intro v v0 L j p
    have p9 := p
    obtain ⟨b, t, h10, hp, rs, lj, jn⟩ := p9
    have hn := b.1
    show RT (f_X6_expr (fx_expr n) v ut v0 700 (nI w)) _
    unfold f_X6_expr
    by_cases e : w < 6
    · refine RT.itT (show nI w < nI 6 from nI_lt e (by omega)) ?_
      exact c_expr33 (by omega) (rec_ok n (w + 1) (by omega) (by omega)) p
    · have w6 : w = 6 := by omega
      subst w6
      refine RT.itF (by decide) ?_
      have fin : ∀ f, (f = if tk X j = 2 ∨ tk X j = 1 ∨ tk X j = 40 then 2 else 1) → PCx X lo hi v v0 L j (5 * 6) (fun f j' K => ∃ cm, (f = 0 → tw X j' ≠ 13 ∧ tw X j' ≠ 14 ∧ ((tk X j' = 60 ∨ tk X j' = 61) → cm = true) ∧ (tk X j' ≠ 43 ∧ tk X j' ≠ 45 ∧ tk X j' ≠ 42 ∧ tk X j' ≠ 47)) ∧ SIMe X lo hi 6 j f j' K cm) (nI f, v, v0) := by
        intro f hf
        have f0 : f ≠ 0 ∧ f ≤ 5 := by rw [hf]; split <;> omega
        exact ⟨f, j, [], rfl, f0.2, ⟨Nat.le_refl _, jn⟩, t, rfl, rfl, fun z => absurd z f0.1, fun _ => rs.rf (by omega), false, fun z => absurd z f0.1, SIMe_deep hf []⟩
      rw [show (2 : Int32) = nI 2 from rfl, show (1 : Int32) = nI 1 from rfl, show (40 : Int32) = nI 40 from rfl]
      simp only [kd_eq t (c := 2) (by omega), kd_eq t (c := 1) (by omega), kd_eq t (c := 40) (by omega)]
      by_cases k2 : tk X j = 2
      · rw [if_pos k2]; exact ⟨_, rfl, fin 2 (by rw [if_pos (Or.inl k2)])⟩
      · rw [if_neg k2]
        by_cases k1 : tk X j = 1
        · rw [if_pos k1]; exact ⟨_, rfl, fin 2 (by rw [if_pos (Or.inr (Or.inl k1))])⟩
        · rw [if_neg k1]
          by_cases k4 : tk X j = 40
          · rw [if_pos k4]; exact ⟨_, rfl, fin 2 (by rw [if_pos (Or.inr (Or.inr k4))])⟩
          · rw [if_neg k4, c_deep b t k1 k2 k4]
            exact ⟨_, rfl, fin 1 (by rw [if_neg (by omega)])⟩
end CQ
