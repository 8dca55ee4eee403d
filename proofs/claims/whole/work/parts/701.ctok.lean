/-! the class's tokens -/
def sB (c : Nat) : Int32 := if c < 128 then nI c else nI c - nI 256
theorem sB_lt {c : Nat} (h : c < 128) : sB c = nI c := if_pos h
theorem sB_and : ∀ c, c < 256 → sB c &&& 255 = nI c := by decide +kernel
theorem sB_sp : ∀ c, c < 256 → ((sB c = 32 ∨ sB c = 10) ↔ isSp c = true) := by decide +kernel
theorem sB_le : ∀ c, c < 256 → ((sB c < 97 ∨ 122 < sB c) ↔ isLt c = false) := by decide +kernel
theorem sB_dg : ∀ c, c < 256 → ((sB c < 48 ∨ 57 < sB c) ↔ isDg c = false) := by decide +kernel
theorem isLt_le {c : Nat} (h : isLt c = true) : 97 ≤ c ∧ c ≤ 122 := by
  unfold isLt at h
  simpa only [Bool.and_eq_true, decide_eq_true_eq] using h
theorem isDg_le {c : Nat} (h : isDg c = true) : 48 ≤ c ∧ c ≤ 57 := by
  unfold isDg at h
  simpa only [Bool.and_eq_true, decide_eq_true_eq] using h
def TB (X : TX) (ut : Nat → Int32) : Prop := X.2 ≤ 700 ∧ ∀ i, i < X.2 → X.1 i < 256 ∧ ut i = sB (X.1 i)
def TC (X : TX) (z : Ob) (j : Nat) : Prop := z.1 5 = nI X.2 ∧ z.1 6 = nI (ts X j) ∧ z.1 7 = nI (te X j) ∧ z.1 8 = nI (tk X j) ∧ (tk X j = 2 → z.1 9 = nI (tv X j))
theorem c_endR {X : TX} {ut : Nat → Int32} {z : Ob} {f : Nat → Bool} {lo hi : Int32} {s : Nat} (b : TB X ut) (hf : ∀ c, c < 256 → ((sB c < lo ∨ hi < sB c) ↔ f c = false)) (h5 : z.1 5 = nI X.2) (h6 : z.1 6 = nI s) (hs : s ≤ X.2) : f_X6_endOfRow z ut 700 lo hi = some (nI (rnF f X s)) := by
  refine RT.eq ?_
  refine RT.cps (fun Q hQ => ?_)
  have hn := b.1
  have hr := rn_le (f := f) hs
  unfold f_X6_endOfRow
  rw [bnd_nr, h6]
  refine RT.loop (fun k i (_ : Unit) => f_X6_endOfRow_L5 700 lo hi z ut k (nI i)) (rnF f X s) (fun i _ => s ≤ i) Q ?_ ?_ FUEL s () rn_ge (by unfold FUEL; omega) (Nat.le_refl _)
  · intro k i _ hi9 hp hk
    show RT (f_X6_endOfRow_L5 700 lo hi z ut (k + 1) (nI i)) Q
    have c := rn_in hp hi9
    obtain ⟨b1, b2⟩ := b.2 i (by omega)
    have g : ¬ (sB (X.1 i) < lo ∨ hi < sB (X.1 i)) := fun e => by
      have := (hf _ b1).mp e
      rw [c] at this; cases this
    unfold f_X6_endOfRow_L5
    rw [h5]
    refine RT.itF (nI_ge (by omega) (by omega)) ?_
    rw [sx_grd (by omega) (by omega), sx_grd (by omega) (by omega), sx_clamp (by omega), b2]
    refine RT.itF (fun e => g (Or.inl e)) (RT.itF (fun e => g (Or.inr e)) ?_)
    rw [bnd_nr, nI_1]
    exact hk () (by omega)
  · intro k _ hp
    show RT (f_X6_endOfRow_L5 700 lo hi z ut (k + 1) (nI (rnF f X s))) Q
    unfold f_X6_endOfRow_L5
    rw [h5]
    rcases Nat.lt_or_ge (rnF f X s) X.2 with q | q
    · obtain ⟨b1, b2⟩ := b.2 _ q
      refine RT.itF (nI_ge q (by omega)) ?_
      rw [sx_grd (by omega) (by omega), sx_grd (by omega) (by omega), sx_clamp (by omega), b2]
      refine RT.ite (fun e => RT.done hQ rfl) (fun e => RT.itT ?_ (RT.done hQ rfl))
      exact ((hf _ b1).mpr (rn_out q)).resolve_left e
    · exact RT.itT (nI_le q (by omega)) (RT.done hQ rfl)
theorem c_numberTold {X : TX} {ut : Nat → Int32} {z : Ob} {s e : Nat} (b : TB X ut) (h6 : z.1 6 = nI s) (h7 : z.1 7 = nI e) (hs : s ≤ e) (he : e ≤ X.2) (hd : ∀ i, s ≤ i → i < e → isDg (X.1 i) = true) : f_X6_numberTold z ut 700 = some (nI (nv X.1 s (min (e - s) 4))) := by
  refine RT.eq ?_
  refine RT.cps (fun Q hQ => ?_)
  have hn := b.1
  unfold f_X6_numberTold
  rw [bnd_nr, h6]
  refine RT.loop (fun k i (l1 : Int32) => f_X6_numberTold_L7 700 z ut k l1 (nI i)) (s + min (e - s) 4) (fun i l1 => s ≤ i ∧ l1 = nI (nv X.1 s (i - s))) Q ?_ ?_ FUEL s _ (by omega) (by unfold FUEL; omega) ⟨Nat.le_refl _, by rw [Nat.sub_self]; rfl⟩
  · intro k i l1 hi ⟨h1, h2⟩ hk
    show RT (f_X6_numberTold_L7 700 z ut (k + 1) l1 (nI i)) Q
    have d := isDg_le (hd i h1 (by omega))
    unfold f_X6_numberTold_L7
    rw [h7, h6, show nI s + (4 : Int32) = nI (s + 4) from nI_add s 4]
    refine RT.itF (nI_ge (by omega) (by omega)) (RT.itF (nI_ge (by omega) (by omega)) ?_)
    rw [sx_grd (by omega) (by omega), sx_clamp (by omega), (b.2 i (by omega)).2, sB_lt (by omega), h2, show (10 : Int32) = nI 10 from rfl, pk_mul, nI_add, show (48 : Int32) = nI 48 from rfl, sx_sub (by omega), bnd_nr, bnd_nr, nI_1]
    refine hk _ ⟨by omega, ?_⟩
    rw [show i + 1 - s = (i - s) + 1 by omega, nv, show s + (i - s) = i by omega]
    congr 1
    omega
  · intro k l1 ⟨h1, h2⟩
    show RT (f_X6_numberTold_L7 700 z ut (k + 1) l1 (nI (s + min (e - s) 4))) Q
    unfold f_X6_numberTold_L7
    rw [h7, h6, show nI s + (4 : Int32) = nI (s + 4) from nI_add s 4]
    have fin : l1 = nI (nv X.1 s (min (e - s) 4)) := by rw [h2]; congr 2; omega
    rcases Nat.lt_or_ge (s + min (e - s) 4) e with q | q
    · exact RT.itF (nI_ge q (by omega)) (RT.itT (nI_le (by omega) (by omega)) (RT.done hQ fin))
    · exact RT.itT (nI_le q (by omega)) (RT.done hQ fin)
def sgQ (c : Nat) : Bool := match f_J0_indexOf_0f7a4 1 (((nI c).toUInt32 % 65536).toInt32) with
  | some q => decide (q < 0) == !isSg c
  | none => false
theorem sgQ_all : ∀ c, c < 256 → sgQ c = true := by decide +kernel
theorem c_sign {c : Nat} (h : c < 256) : RT (f_J0_indexOf_0f7a4 1 (((nI c).toUInt32 % 65536).toInt32)) (fun q => q < 0 ↔ isSg c = false) := by
  have h1 := sgQ_all c h
  unfold sgQ at h1
  cases e : f_J0_indexOf_0f7a4 1 (((nI c).toUInt32 % 65536).toInt32) with
  | none => rw [e] at h1; cases h1
  | some q =>
    rw [e] at h1
    refine ⟨q, rfl, ?_⟩
    have h2 : decide (q < 0) = !isSg c := by simpa using h1
    by_cases z : q < 0
    · rw [decide_eq_true z] at h2
      cases y : isSg c
      · exact ⟨fun _ => rfl, fun _ => z⟩
      · rw [y] at h2; cases h2
    · rw [decide_eq_false z] at h2
      cases y : isSg c
      · rw [y] at h2; cases h2
      · exact ⟨fun w => absurd w z, fun w => by cases w⟩
theorem c_next60 {X : TX} {ut : Nat → Int32} {a : Ob} {j : Nat} (b : TB X ut) (h5 : a.1 5 = nI X.2) (h6 : a.1 6 = nI (ts X j)) : RT (f_X6_next_J60 700 ut a) (fun r => TC X r j ∧ r.1 10 = a.1 10 ∧ r.2 = a.2) := by
  refine RT.cps (fun Q hQ => ?_)
  have hn := b.1
  have sl := ts_le X j
  have tl9 := te_le X j
  unfold f_X6_next_J60
  rw [h5, h6]
  by_cases k0 : tk X j = 0
  · have e := tk_0.mp k0
    refine RT.itF (nI_nlt (by omega) (by omega)) ?_
    rw [bnd_nr, bnd_nr]
    refine RT.done hQ ⟨⟨?_, ?_, ?_, ?_, fun z => by omega⟩, ?_, rfl⟩
    · simp (disch := omega) only [pk_us, pk_un]; exact h5
    · simp (disch := omega) only [pk_us, pk_un]; exact h6
    · simp (disch := omega) only [pk_us, pk_un]; rw [te_end e, e]
    · simp (disch := omega) only [pk_us, pk_un]; rw [k0]; rfl
    · simp (disch := omega) only [pk_us, pk_un]
  · have sn : ts X j < X.2 := by
      rcases Nat.lt_or_ge (ts X j) X.2 with q | q
      · exact q
      · exact absurd (tk_0.mpr (by omega)) k0
    obtain ⟨b1, b2⟩ := b.2 _ sn
    refine RT.itT (nI_lt sn (by omega)) ?_
    rw [sx_grd (by omega) (by omega), sx_clamp (by omega), b2, sB_and _ b1, bnd_nr]
    by_cases k1 : tk X j = 1
    · obtain ⟨_, w2, w3⟩ := tk_1 k1
      have wl9 := isLt_le w2
      refine RT.itF (show ¬ nI (X.1 (ts X j)) < nI 97 from nI_nlt (by omega) (by omega)) (RT.itF (show ¬ nI 122 < nI (X.1 (ts X j)) from nI_nlt (by omega) (by omega)) ?_)
      rw [bnd_nr, c_endR (f := isLt) (s := ts X j) b sB_le (by simp (disch := omega) only [pk_us, pk_un]; exact h5) (by simp (disch := omega) only [pk_us, pk_un]; exact h6) sl, ob_some, bnd_nr]
      refine RT.done hQ ⟨⟨?_, ?_, ?_, ?_, fun z => by omega⟩, ?_, rfl⟩
      · simp (disch := omega) only [pk_us, pk_un]; exact h5
      · simp (disch := omega) only [pk_us, pk_un]; exact h6
      · simp (disch := omega) only [pk_us, pk_un]; rw [w3]
      · simp (disch := omega) only [pk_us, pk_un]; rw [k1]; rfl
      · simp (disch := omega) only [pk_us, pk_un]
    · have nl : isLt (X.1 (ts X j)) = false := by
        by_cases k2 : tk X j = 2
        · exact (tk_2 k2).2.1
        · exact (tk_3 k0 k1 k2).2.1
      have go : RT (f_X6_next_J131 700 ut (nI (X.1 (ts X j))) a) Q := by
        unfold f_X6_next_J131
        by_cases k2 : tk X j = 2
        · obtain ⟨_, _, w2, w3⟩ := tk_2 k2
          have wl9 := isDg_le w2
          refine RT.itF (show ¬ nI (X.1 (ts X j)) < nI 48 from nI_nlt (by omega) (by omega)) (RT.itF (show ¬ nI 57 < nI (X.1 (ts X j)) from nI_nlt (by omega) (by omega)) ?_)
          rw [bnd_nr, c_endR (f := isDg) (s := ts X j) b sB_dg (by simp (disch := omega) only [pk_us, pk_un]; exact h5) (by simp (disch := omega) only [pk_us, pk_un]; exact h6) sl, ob_some, bnd_nr, ← w3, c_numberTold (s := ts X j) (e := te X j) b (by simp (disch := omega) only [pk_us, pk_un]; exact h6) (by simp (disch := omega) only [pk_us, pk_un]) (ts_te X j) tl9 (fun i h1 h2 => rn_in h1 (by rw [← w3]; exact h2)), ob_some, bnd_nr]
          refine RT.done hQ ⟨⟨?_, ?_, ?_, ?_, fun z => ?_⟩, ?_, rfl⟩
          · simp (disch := omega) only [pk_us, pk_un]; exact h5
          · simp (disch := omega) only [pk_us, pk_un]; exact h6
          · simp (disch := omega) only [pk_us, pk_un]
          · simp (disch := omega) only [pk_us, pk_un]; rw [k2]; rfl
          · simp (disch := omega) only [pk_us, pk_un]; rfl
          · simp (disch := omega) only [pk_us, pk_un]
        · obtain ⟨_, _, w2, w3, w4⟩ := tk_3 k0 k1 k2
          have fin : RT (f_X6_next_J171 700 ut (nI (X.1 (ts X j))) a) Q := by
            unfold f_X6_next_J171
            refine RT.bind (c_sign b1) (fun q hq => ?_)
            refine RT.ite (fun z => ?_) (fun z => ?_)
            · have sg := hq.mp z
              rw [if_neg (by rw [sg]; decide)] at w4
              rw [bnd_nr, bnd_nr]
              refine RT.done hQ ⟨⟨?_, ?_, ?_, ?_, fun z => by omega⟩, ?_, rfl⟩
              · simp (disch := omega) only [pk_us, pk_un]; exact h5
              · simp (disch := omega) only [pk_us, pk_un]; exact h6
              · simp (disch := omega) only [pk_us, pk_un]; rw [h6, w3]; exact nI_1 _
              · simp (disch := omega) only [pk_us, pk_un]; rw [w4]; rfl
              · simp (disch := omega) only [pk_us, pk_un]
            · have sg : isSg (X.1 (ts X j)) = true := by
                cases y : isSg (X.1 (ts X j))
                · exact absurd (hq.mpr y) z
                · rfl
              rw [if_pos sg] at w4
              rw [bnd_nr, bnd_nr]
              refine RT.done hQ ⟨⟨?_, ?_, ?_, ?_, fun z => by omega⟩, ?_, rfl⟩
              · simp (disch := omega) only [pk_us, pk_un]; exact h5
              · simp (disch := omega) only [pk_us, pk_un]; exact h6
              · simp (disch := omega) only [pk_us, pk_un]; rw [h6, w3]; exact nI_1 _
              · simp (disch := omega) only [pk_us, pk_un]; rw [w4]
              · simp (disch := omega) only [pk_us, pk_un]
          by_cases y : X.1 (ts X j) < 48
          · exact RT.itT (show nI (X.1 (ts X j)) < nI 48 from nI_lt y (by omega)) fin
          · refine RT.itF (show ¬ nI (X.1 (ts X j)) < nI 48 from nI_nlt (by omega) (by omega)) (RT.itT (show nI 57 < nI (X.1 (ts X j)) from nI_lt ?_ (by omega)) fin)
            rcases Nat.lt_or_ge 57 (X.1 (ts X j)) with q | q
            · exact q
            · have : isDg (X.1 (ts X j)) = true := by unfold isDg; rw [decide_eq_true (by omega), decide_eq_true q]; rfl
              rw [w2] at this; cases this
      by_cases y : X.1 (ts X j) < 97
      · exact RT.itT (show nI (X.1 (ts X j)) < nI 97 from nI_lt y (by omega)) go
      · refine RT.itF (show ¬ nI (X.1 (ts X j)) < nI 97 from nI_nlt (by omega) (by omega)) (RT.itT (show nI 122 < nI (X.1 (ts X j)) from nI_lt ?_ (by omega)) go)
        rcases Nat.lt_or_ge 122 (X.1 (ts X j)) with q | q
        · exact q
        · have : isLt (X.1 (ts X j)) = true := by unfold isLt; rw [decide_eq_true (by omega), decide_eq_true q]; rfl
          rw [nl] at this; cases this
theorem c_next0 {X : TX} {ut : Nat → Int32} {z : Ob} {j : Nat} (b : TB X ut) (h5 : z.1 5 = nI X.2) (h7 : z.1 7 = nI (pe X j)) : RT (f_X6_next z ut 700) (fun r => TC X r j ∧ r.1 10 = z.1 10 ∧ r.2 = z.2) := by
  refine RT.cps (fun Q hQ => ?_)
  have hn := b.1
  have sl := ts_le X j
  unfold f_X6_next
  rw [bnd_nr]
  refine RT.loop (fun k _ (a : Ob) => f_X6_next_L8 700 ut k a) (ts X j) (fun i a => pe X j ≤ i ∧ a.1 6 = nI i ∧ (∀ k, k ≠ 6 → a.1 k = z.1 k) ∧ a.2 = z.2) Q ?_ ?_ FUEL (pe X j) _ (pe_ts X j) (by unfold FUEL; omega) ⟨Nat.le_refl _, ?_, ?_, rfl⟩
  · intro k i a hi ⟨ai, a6, ar, a2⟩ hk
    show RT (f_X6_next_L8 700 ut (k + 1) a) Q
    have sp := rn_in (f := isSp) (X := X) (p := pe X j) ai hi
    obtain ⟨b1, b2⟩ := b.2 i (by omega)
    have nx9 : ∀ y : Ob, y = (upd a.1 6 (a.1 6 + 1), a.2) → RT (f_X6_next_L8 700 ut k y) Q := by
      intro y hy
      subst hy
      refine hk _ ⟨by omega, ?_, fun q hq => ?_, a2⟩
      · show upd a.1 6 (a.1 6 + 1) 6 = _
        rw [pk_us, a6, nI_1]
      · show upd a.1 6 (a.1 6 + 1) q = _
        rw [pk_un hq]; exact ar q hq
    unfold f_X6_next_L8
    rw [ar 5 (by omega), h5]
    refine RT.itF (by rw [a6]; exact nI_ge (by omega) (by omega)) ?_
    rw [a6, sx_grd (by omega) (by omega), sx_grd (by omega) (by omega), sx_clamp (by omega), b2]
    rw [a6] at nx9
    refine RT.ite (fun e => ?_) (fun e => RT.ite (fun e2 => ?_) (fun e2 => ?_))
    · rw [bnd_nr]; exact nx9 _ rfl
    · rw [bnd_nr]; exact nx9 _ rfl
    · exact absurd ((sB_sp _ b1).mpr sp) (fun h => h.elim e e2)
  · intro k a ⟨ai, a6, ar, a2⟩
    show RT (f_X6_next_L8 700 ut (k + 1) a) Q
    have fin : RT (f_X6_next_J60 700 ut a) Q := by
      refine RT.weak (c_next60 (j := j) b (by rw [ar 5 (by omega)]; exact h5) a6) (fun r ⟨r1, r2, r3⟩ => hQ r ⟨r1, ?_, r3.trans a2⟩)
      rw [r2]; exact ar 10 (by omega)
    unfold f_X6_next_L8
    rw [ar 5 (by omega), h5]
    rcases Nat.lt_or_ge (ts X j) X.2 with q | q
    · obtain ⟨b1, b2⟩ := b.2 _ q
      have ns := rn_out (f := isSp) (X := X) (p := pe X j) q
      have g : ¬ (sB (X.1 (ts X j)) = 32 ∨ sB (X.1 (ts X j)) = 10) := fun e => by
        have h9 := (sB_sp _ b1).mp e
        change isSp (X.1 (ts X j)) = false at ns
        rw [ns] at h9; cases h9
      refine RT.itF (by rw [a6]; exact nI_ge q (by omega)) ?_
      rw [a6, sx_grd (by omega) (by omega), sx_grd (by omega) (by omega), sx_clamp (by omega), b2]
      exact RT.itF (fun e => g (Or.inl e)) (RT.itF (fun e => g (Or.inr e)) fin)
    · exact RT.itT (by rw [a6]; exact nI_le q (by omega)) fin
  · show upd z.1 6 (z.1 7) 6 = _
    rw [pk_us, h7]
  · intro k hk
    show upd z.1 6 (z.1 7) k = _
    rw [pk_un hk]
theorem c_next {X : TX} {ut : Nat → Int32} {z : Ob} {j : Nat} (b : TB X ut) (t : TC X z j) : RT (f_X6_next z ut 700) (fun r => TC X r (j + 1) ∧ r.1 10 = z.1 10 ∧ r.2 = z.2) := c_next0 (j := j + 1) b t.1 t.2.2.1
theorem c_isWord {X : TX} {ut : Nat → Int32} {z : Ob} {j k : Nat} (b : TB X ut) (t : TC X z j) (hk : k < 16) : f_X6_isWord z ut 700 (sid k) = some (nI (if tw X j = k then 1 else 0)) := by
  refine RT.eq ?_
  refine RT.cps (fun Q hQ => ?_)
  have hs := sid_lt k hk
  have hw := wl_le k hk
  have tn := te_le X j
  have tt := ts_te X j
  have hn := b.1
  have tk9 := tk_lt X j
  unfold f_X6_isWord
  rw [t.2.2.2.1]
  by_cases h1 : tk X j = 1
  · refine RT.itT (by rw [h1]; rfl) ?_
    rw [grd_d hs, w_len k hk, ob_some, t.2.2.1, t.2.1, sx_sub tt]
    change RT (if nI (tl X j) = nI (wl k) then _ else _) Q
    have tl9 : tl X j ≤ 700 := by unfold tl; omega
    by_cases h2 : tl X j = wl k
    · refine RT.itT (by rw [h2]) ?_
      obtain ⟨w1, w2, w3⟩ := tk_1 h1
      refine RT.loop0 (fun n i (_ : Unit) => f_X6_isWord_L28 700 (sid k) z ut n (nI i)) (wl k) (fun i _ => ∀ m, m < i → X.1 (ts X j + m) = wch k m) Q () (by omega) (fun m hm => absurd hm (Nat.not_lt_zero _)) ?_ ?_
      · intro n _ h
        show RT (f_X6_isWord_L28 700 (sid k) z ut (n + 1) (nI (wl k))) Q
        unfold f_X6_isWord_L28
        rw [grd_d hs, w_len k hk, ob_some]
        refine RT.itT (nI_le (Nat.le_refl _) (by omega)) (RT.done hQ ?_)
        exact (congrArg nI (if_pos ((tw_eq hk).mpr ⟨h1, wb_iff.mpr ⟨h2, h⟩⟩))).symm
      · intro n i _ hi h hc
        show RT (f_X6_isWord_L28 700 (sid k) z ut (n + 1) (nI i)) Q
        unfold f_X6_isWord_L28
        have li : ts X j + i < te X j := by unfold tl at h2; omega
        have lt2 := isLt_le (rn_in (f := isLt) (X := X) (p := ts X j) (i := ts X j + i) (by omega) (by rw [← w3]; exact li))
        have wc := wch_lt k hk i hi
        rw [grd_d hs, w_len k hk, ob_some]
        refine RT.itF (nI_ge hi (by omega)) ?_
        rw [t.2.1, nI_add, sx_grd (by omega) (by omega), grd_d hs, w_char k hk i hi, ob_some, sx_clamp (by omega), (b.2 _ (by omega)).2, sB_lt (by omega)]
        refine RT.ite (fun e => ?_) (fun e => RT.done hQ ?_)
        · rw [bnd_nr, nI_1]
          refine hc () (fun m hm => ?_)
          by_cases e9 : m = i
          · rw [e9]; exact (nI_eq (by omega) (by omega)).mp e
          · exact h m (by omega)
        · refine (congrArg nI (if_neg (fun e9 => e ?_))).symm
          rw [(wb_iff.mp ((tw_eq hk).mp e9).2).2 i hi]
    · refine RT.itF (fun e => h2 ((nI_eq (by omega) (by omega)).mp e)) (RT.done hQ ?_)
      exact (congrArg nI (if_neg (fun e9 => h2 (wb_iff.mp ((tw_eq hk).mp e9).2).1))).symm
  · refine RT.itF (fun e => h1 ((nI_eq (b := 1) (by omega) (by omega)).mp e)) (RT.done hQ ?_)
    exact (congrArg nI (if_neg (fun e9 => h1 ((tw_eq hk).mp e9).1))).symm
