/-! how the pieces go together -/
section SMS
variable {X : TX} {lo hi d j f j1 j' : Nat} {L1 L2 : List Nat} {cm cm2 : Bool}
theorem en1_op {op : Nat} (h : 20000 ≤ op) : en1 op = [mop op] := by
  unfold en1; rw [if_neg (by omega), if_neg (by omega)]
theorem enc3 {A B : List Nat} {op : Nat} (h : 20000 ≤ op) : enc (A ++ B ++ [op]) = enc A ++ enc B ++ [mop op] := by
  rw [enc_app, enc_app, enc_1, en1_op h]
theorem SIMa.bin {op act l : Nat} (hop : (l = 6 ∧ ((op = 42 ∧ act = 10) ∨ (op = 47 ∧ act = 11))) ∨ (l = 5 ∧ ((op = 43 ∧ act = 8) ∨ (op = 45 ∧ act = 9)))) (s1 : SIMa X lo hi l d j 0 j1 L1) (hk : tk X j1 = op) (s2 : SIMa X lo hi (l + 1) d (j1 + 1) f j' L2) : SIMa X lo hi l d j f j' (L1 ++ L2 ++ [20000 + op]) := by
  intro M0 Q m n l2 z C W tst g b t h1 h2 hc hf
  have sa : str act = l := by rcases hop with ⟨rfl, ⟨rfl, rfl⟩ | ⟨rfl, rfl⟩⟩ | ⟨rfl, ⟨rfl, rfl⟩ | ⟨rfl, rfl⟩⟩ <;> rfl
  have ma : mop (20000 + op) = act := by rcases hop with ⟨rfl, ⟨rfl, rfl⟩ | ⟨rfl, rfl⟩⟩ | ⟨rfl, ⟨rfl, rfl⟩ | ⟨rfl, rfl⟩⟩ <;> rfl
  have a14 : act < 14 := by omega
  refine s1 M0 Q m n l2 z C W tst g b t h1 h2 (fun _ n' z' o P c1 c2 c3 c4 c5 => ?_) (fun e => absurd rfl e)
  have j7 := c5.2.2
  have n7 := c4.n
  obtain ⟨n1, rfl⟩ : ∃ n1, n' = n1 + 1 := ⟨n' - 1, by omega⟩
  have key : ∀ r, GM X lo hi M0 (o ++ P) (act :: W) d tst r (j1 + 1) → BD X (o ++ P) (act :: W) (j1 + 1) → RT (f_X12_operand r 0) (fun q => RT (f_X12_expression_L39 n1 1 q) Q) := by
    intro r r1 r2
    refine op_0 r1 (fun m hm => ?_)
    refine s2 M0 Q m n1 0 r (o ++ P) (act :: W) tst r1 r2 (Or.inr (by omega)) (by omega) (by omega) (fun e n2 z2 o2 P2 e1 e2 e3 e4 e5 => ?_) hf
    have a1 : P2 ++ act :: W = (P2 ++ [act]) ++ W := by simp
    rw [a1] at e4 e5
    refine hc e n2 z2 o2 (P2 ++ [act]) e1 (fun a ha => ?_) ?_ e4 e5
    · rcases List.mem_append.mp ha with q | q
      · exact ⟨by have := (e2 a q).1; omega, (e2 a q).2⟩
      · rw [List.mem_singleton.mp q]; exact ⟨by omega, a14⟩
    · rw [enc3 (by omega), ma, ← List.append_assoc, ← List.append_assoc, c3, e3, List.append_assoc]
  rcases hop with ⟨rfl, hop⟩ | ⟨rfl, hop⟩
  · exact ev_prd hop c4 c5 c2 t hk key
  · exact ev_sum hop c4 c5 c2 t hk key
theorem SIMn.bin {kw act op l : Nat} (hop : (kw = 13 ∧ act = 4 ∧ op = 20038 ∧ l = 2) ∨ (kw = 14 ∧ act = 5 ∧ op = 20124 ∧ l = 1)) (hd : d ≤ 7) (s1 : SIMn X lo hi l d j 0 j1 L1 cm) (hk : tw X j1 = kw) (s2 : SIMn X lo hi (l + 1) d (j1 + 1) f j' L2 cm2) : SIMn X lo hi l d j f j' (L1 ++ L2 ++ [op]) cm2 := by
  intro M0 Q m n z C W tst g b ht t h1 h2 hc hf
  have sa : str act = l := by rcases hop with ⟨rfl, rfl, rfl, rfl⟩ | ⟨rfl, rfl, rfl, rfl⟩ <;> rfl
  have ma : mop op = act := by rcases hop with ⟨rfl, rfl, rfl, rfl⟩ | ⟨rfl, rfl, rfl, rfl⟩ <;> rfl
  have a14 : act < 14 := by omega
  have o20 : 20000 ≤ op := by omega
  refine s1 M0 Q m n z C W tst g b ht t h1 h2 (fun _ n' z' o P tst' c1 c2 c3 cA cB c4 c5 => ?_) (fun e => absurd rfl e)
  have j7 := c5.2.2
  have n7 := c4.n
  obtain ⟨n1, rfl⟩ : ∃ n1, n' = n1 + 1 := ⟨n' - 1, by omega⟩
  refine ev_log (kw := kw) (act := act) (l := l) (by omega) hd c4 c5 c2 t hk (fun r r1 r2 => ?_)
  refine op_1 r1 (fun m hm => ?_)
  refine s2 M0 Q m n1 r (o ++ P) (act :: W) _ r1 r2 (if_pos rfl) (Or.inr (by omega)) (by omega) (by omega) (fun e n2 z2 o2 P2 tst2 e1 e2 e3 eA eB e4 e5 => ?_) hf
  have a1 : P2 ++ act :: W = (P2 ++ [act]) ++ W := by simp
  rw [a1] at e4 e5
  refine hc e n2 z2 o2 (P2 ++ [act]) tst2 e1 (fun a ha => ?_) ?_ (fun i hi => ?_) eB e4 e5
  · rcases List.mem_append.mp ha with q | q
    · exact ⟨by have := (e2 a q).1; omega, (e2 a q).2⟩
    · rw [List.mem_singleton.mp q]; exact ⟨by omega, a14⟩
  · rw [enc3 o20, ma, ← List.append_assoc, ← List.append_assoc, c3, e3, List.append_assoc]
  · rw [eA i hi, show stT tst' d false i = tst' i from if_neg (by omega)]; exact cA i hi
/-- nots -/
theorem rep_s {k a : Nat} : List.replicate (k + 1) a = a :: List.replicate k a := rfl
theorem m_nots {M0 : MS} {C W : List Nat} {tst : Nat → Bool} {z : MS} {m : Nat} {Q : MS → Prop} (g : GM X lo hi M0 C W d tst z j) (b : BD X C W j) : ∀ k, k ≤ 6 → (∀ i, i < k → tw X (j + i) = 15) → (∀ u z', 100 ≤ u + k → GM X lo hi M0 C (List.replicate k 3 ++ W) d tst z' (j + k) → BD X C (List.replicate k 3 ++ W) (j + k) → RT (f_X12_operand_L18 (f_X12_operand_L4 m) 1 u (nI k) z') Q) → RT (f_X12_operand_L18 (f_X12_operand_L4 m) 1 FUEL 0 z) Q := by
  intro k
  induction k with
  | zero => intro _ _ hk; exact hk FUEL z (by unfold FUEL; omega) g b
  | succ k ih =>
    intro h6 hw hk
    refine ih (by omega) (fun i hi => hw i (by omega)) (fun u z' hu g' b' => ?_)
    have w9 := hw k (by omega)
    have t9 : tk X (j + k) = 1 := tw_1 (by omega)
    obtain ⟨v, rfl⟩ : ∃ v, u = v + 1 := ⟨u - 1, by omega⟩
    unfold f_X12_operand_L18
    rw [g'.good, ob_some]
    refine RT.itF (show ¬ nI 1 = 0 by decide) (RT.itF (by decide) ?_)
    rw [g'.kw, ob_some, kw_eq (k := 15) (by omega) w9]
    refine RT.itT rfl (RT.itF (fun e => ?_) ?_)
    · have := (nI_eq (a := k) (b := 6) (by omega) (by omega)).mp e; omega
    · unfold f_X12_operand_J50
      rw [bnd_nr, g'.good, ob_some]
      refine RT.itF (show ¬ nI 1 = 0 by decide) ?_
      refine RT.bind (m_waits (a := 3) g' (b'.w9 g') (by omega)) (fun r hr => ?_)
      refine RT.bind (m_take hr) (fun s hs9 => ?_)
      rw [nI_1]
      exact hk v s (by omega) hs9 (b'.push (by omega))
theorem TL_rep {k : Nat} {W : List Nat} (t : TL W 3) : TL (List.replicate k 3 ++ W) 4 := by
  cases k with
  | zero => exact t.mono (by omega)
  | succ k => exact Or.inr (by decide)
theorem enc_rep (k : Nat) : enc (List.replicate k 20033) = List.replicate k 3 := by
  induction k with
  | zero => rfl
  | succ k ih =>
    rw [rep_s, rep_s]
    show en1 20033 ++ enc (List.replicate k 20033) = _
    rw [ih]; rfl
theorem rep_mem {k a : Nat} (h : a ∈ List.replicate k 3) : 3 ≤ str a ∧ a < 14 := by
  rw [List.eq_of_mem_replicate h]; exact ⟨by decide, by omega⟩
theorem nots_end {M0 : MS} {C W : List Nat} {tst : Nat → Bool} {z : MS} {m u k : Nat} {Q : MS → Prop} (g : GM X lo hi M0 C W d tst z j) (hx : tw X j ≠ 15) (hu : 0 < u) (h : RT (f_X12_operand_J75 (f_X12_operand_L4 m) 1 z) Q) : RT (f_X12_operand_L18 (f_X12_operand_L4 m) 1 u (nI k) z) Q := by
  obtain ⟨v, rfl⟩ : ∃ v, u = v + 1 := ⟨u - 1, by omega⟩
  unfold f_X12_operand_L18
  rw [g.good, ob_some]
  refine RT.itF (show ¬ nI 1 = 0 by decide) (RT.itF (by decide) ?_)
  rw [g.kw, ob_some]
  exact RT.itF (kw_ne (k := 15) (by omega) hx) h
theorem SIMn_plain {k : Nat} (hk : k ≤ 6) (hw : ∀ i, i < k → tw X (j + i) = 15) (hx : tw X (j + k) ≠ 15) (s : SIMa X lo hi 5 d (j + k) f j' L1) : SIMn X lo hi 3 d j f j' (L1 ++ List.replicate k 20033) false := by
  intro M0 Q m n z C W tst g b ht t h1 h2 hc hf
  refine m_nots g b k hk hw (fun u z' hu g' b' => ?_)
  refine nots_end g' hx (by omega) ?_
  refine s M0 Q m n 1 z' C (List.replicate k 3 ++ W) tst g' b' ((TL_rep t).mono (by omega)) (by omega) (by omega) (fun e n2 z2 o2 P2 e1 e2 e3 e4 e5 => ?_) hf
  rw [← List.append_assoc] at e4 e5
  refine hc e n2 z2 o2 (P2 ++ List.replicate k 3) tst e1 (fun a ha => ?_) ?_ (fun _ _ => rfl) ht e4 e5
  · rcases List.mem_append.mp ha with q | q
    · exact ⟨by have := (e2 a q).1; omega, (e2 a q).2⟩
    · exact rep_mem q
  · rw [enc_app, enc_rep, ← List.append_assoc, e3, List.append_assoc]
theorem SIMn_cmp {k act op : Nat} (hop : (op = 60 ∧ act = 6) ∨ (op = 61 ∧ act = 7)) (hd : 1 ≤ d ∧ d ≤ 7) (hk : k ≤ 6) (hw : ∀ i, i < k → tw X (j + i) = 15) (hx : tw X (j + k) ≠ 15) (s1 : SIMa X lo hi 5 d (j + k) 0 j1 L1) (ho : tk X j1 = op) (s2 : SIMa X lo hi 5 d (j1 + 1) f j' L2) : SIMn X lo hi 3 d j f j' (L1 ++ L2 ++ [20000 + op] ++ List.replicate k 20033) true := by
  intro M0 Q m n z C W tst g b ht t h1 h2 hc hf
  have sa : str act = 4 := by rcases hop with ⟨rfl, rfl⟩ | ⟨rfl, rfl⟩ <;> rfl
  have ma : mop (20000 + op) = act := by rcases hop with ⟨rfl, rfl⟩ | ⟨rfl, rfl⟩ <;> rfl
  have a14 : act < 14 := by omega
  refine m_nots g b k hk hw (fun u z' hu g' b' => ?_)
  refine nots_end g' hx (by omega) ?_
  refine s1 M0 Q m n 1 z' C (List.replicate k 3 ++ W) tst g' b' ((TL_rep t).mono (by omega)) (by omega) (by omega) (fun _ n1 z1 o P c1 c2 c3 c4 c5 => ?_) (fun e => absurd rfl e)
  have j7 := c5.2.2
  have n7 := c4.n
  obtain ⟨n9, rfl⟩ : ∃ n9, n1 = n9 + 1 := ⟨n1 - 1, by omega⟩
  refine ev_cmp hop hd c4 c5 ht (fun a ha => ⟨by have := (c2 a ha).1; omega, (c2 a ha).2⟩) (TL_rep t) ho (fun r r1 r2 => ?_)
  refine op_0 r1 (fun m hm => ?_)
  refine s2 M0 Q m n9 0 r (o ++ P) (act :: (List.replicate k 3 ++ W)) _ r1 r2 (Or.inr (by omega)) (by omega) (by omega) (fun e n2 z2 o2 P2 e1 e2 e3 e4 e5 => ?_) hf
  have a1 : P2 ++ act :: (List.replicate k 3 ++ W) = (P2 ++ [act] ++ List.replicate k 3) ++ W := by simp
  rw [a1] at e4 e5
  refine hc e n2 z2 o2 (P2 ++ [act] ++ List.replicate k 3) (stT tst d true) e1 (fun a ha => ?_) ?_ (fun i hi => if_neg (by omega)) (if_pos rfl) e4 e5
  · rcases List.mem_append.mp ha with q | q
    · rcases List.mem_append.mp q with q | q
      · exact ⟨by have := (e2 a q).1; omega, (e2 a q).2⟩
      · rw [List.mem_singleton.mp q]; exact ⟨by omega, a14⟩
    · exact rep_mem q
  · rw [enc_app, enc_rep, enc3 (by omega), ma, ← List.append_assoc, ← List.append_assoc, ← List.append_assoc, c3, e3]
    simp only [List.append_assoc]
theorem SIMn_many (hw : ∀ i, i < 7 → tw X (j + i) = 15) (L : List Nat) : SIMn X lo hi 3 d j 2 (j + 6) L cm := by
  intro M0 Q m n z C W tst g b ht t h1 h2 hc hf
  refine m_nots g b 6 (by omega) (fun i hi => hw i (by omega)) (fun u z' hu g' b' => ?_)
  have j7 := b'.2.2
  have n7 := g'.n
  obtain ⟨v, rfl⟩ : ∃ v, u = v + 1 := ⟨u - 1, by omega⟩
  unfold f_X12_operand_L18
  rw [g'.good, ob_some]
  refine RT.itF (show ¬ nI 1 = 0 by decide) (RT.itF (by decide) ?_)
  rw [g'.kw, ob_some, kw_eq (k := 15) (by omega) (hw 6 (by omega))]
  refine RT.itT rfl (RT.itT rfl ?_)
  refine RT.bind (m_wrong (f := 2) g') (fun r ⟨r1, r2, r3, _⟩ => ?_)
  have bm := GM.bm (c := 0) b' g' ⟨by omega, by omega⟩ r1 r2 r3 (by omega)
  unfold f_X12_operand_J50
  rw [bnd_nr, bm.bad, ob_some]
  refine RT.itT rfl ?_
  obtain ⟨w, rfl⟩ : ∃ w, v = w + 1 := ⟨v - 1, by omega⟩
  unfold f_X12_operand_L18
  rw [bm.bad, ob_some]
  refine RT.itT rfl ?_
  exact m_j75Bad bm (by omega) (m_bad bm (hf (by omega)) (by omega))
/-- deeper -/
theorem m_deeper {M0 : MS} {C W : List Nat} {tst : Nat → Bool} {z : MS} (g : GM X lo hi M0 C W d tst z j) (hd : d < 6) : RT (f_X12_deeper z) (fun r => GM X lo hi M0 C W (d + 1) (stT tst (d + 1) false) r j) := by
  obtain ⟨g1, g2, g3, g4, g5, g6, g7, g8⟩ := g
  unfold f_X12_deeper
  rw [g7.1]
  refine RT.itF (show ¬ nI 6 ≤ nI d from nI_ge hd (by omega)) ?_
  rw [bnd_nr, nI_1]
  show RT (grd (vi (upd z.1 28 (nI (d + 1)) 28) 9) (bnd ((upd z.1 28 (nI (d + 1)), z.2.1, uA z.2.2 9 (upd z.1 28 (nI (d + 1)) 28).toNatClampNeg (vp_nar .boolean (0 : Int32))) : MS) (fun y9 => some y9))) _
  rw [pk_us, sx_grd (by omega) (by omega), sx_clamp (by omega), bnd_nr]
  refine RT.ret ⟨⟨?_, g1.2.1, fun i hi => ⟨(g1.2.2 i hi).1, ?_⟩⟩, ⟨?_, ?_, ?_, ?_, fun h => ?_, fun h => ?_, g2.2.2.2.2.2.2⟩, ?_, ⟨?_, ?_⟩, ⟨?_, ?_⟩, ⟨?_, ?_⟩, ⟨?_, fun i i1 hi => ?_⟩, ⟨fun k h1 h2 h3 h4 => ?_, fun q hq => ?_⟩⟩
  · simp (disch := omega) only [pk_us, pk_un]; exact g1.1
  · show uA z.2.2 9 (d + 1) (vp_nar .boolean (0 : Int32)) 3 i = _
    rw [uA_n (by omega)]; exact (g1.2.2 i hi).2
  · simp (disch := omega) only [pk_us, pk_un]; exact g2.1
  · simp (disch := omega) only [pk_us, pk_un]; exact g2.2.1
  · simp (disch := omega) only [pk_us, pk_un]; exact g2.2.2.1
  · simp (disch := omega) only [pk_us, pk_un]; exact g2.2.2.2.1
  · simp (disch := omega) only [pk_us, pk_un]; exact g2.2.2.2.2.1 h
  · simp (disch := omega) only [pk_us, pk_un]; exact g2.2.2.2.2.2.1 h
  · simp (disch := omega) only [pk_us, pk_un]; exact g3
  · simp (disch := omega) only [pk_us, pk_un]; exact g4.1
  · simp (disch := omega) only [pk_us, pk_un]; exact g4.2
  · simp (disch := omega) only [pk_us, pk_un]; exact g5.1
  · show cdl (uA z.2.2 9 (d + 1) (vp_nar .boolean (0 : Int32)) 7) C
    rw [uA_n (by omega)]; exact g5.2
  · simp (disch := omega) only [pk_us, pk_un]; exact g6.1
  · show stk (uA z.2.2 9 (d + 1) (vp_nar .boolean (0 : Int32)) 8) W
    rw [uA_n (by omega)]; exact g6.2
  · simp (disch := omega) only [pk_us, pk_un]
  · show uA z.2.2 9 (d + 1) (vp_nar .boolean (0 : Int32)) 9 i = nI (if (if i = d + 1 then false else tst i) then 1 else 0)
    by_cases e : i = d + 1
    · rw [e, uA_ss, if_pos rfl]; decide
    · rw [uA_sn e, if_neg e]; exact g7.2 i i1 (by omega)
  · simp (disch := omega) only [pk_us, pk_un]; exact g8.1 k h1 h2 h3 h4
  · show uA z.2.2 9 (d + 1) (vp_nar .boolean (0 : Int32)) q = _
    rw [uA_n (by omega)]; exact g8.2 q hq
theorem SIMe_of (hd : d < 6) (s : SIMn X lo hi 1 (d + 1) j f j' L1 cm) : SIMe X lo hi d j f j' L1 cm := by
  intro M0 Q m n z C W tst g b t h1 h2 hc hf
  refine RT.bind (m_deeper g hd) (fun r hr => ?_)
  have j7 := b.2.2
  have n7 := g.n
  obtain ⟨m1, rfl⟩ : ∃ m1, m = m1 + 1 := ⟨m - 1, by omega⟩
  refine op_in hr ?_
  refine s M0 Q m1 n r C W _ hr b (if_pos rfl) t (by omega) h2 (fun e n2 z2 o2 P2 tst2 e1 e2 e3 eA eB e4 e5 => ?_) hf
  refine hc e n2 z2 o2 P2 tst2 e1 (fun a ha => (e2 a ha).2) e3 (fun i hi => ?_) eB e4 e5
  rw [eA i (by omega)]
  exact if_neg (by omega)
theorem SIMe_deep (hf9 : f = if tk X j = 2 ∨ tk X j = 1 ∨ tk X j = 40 then 2 else 1) (L : List Nat) : SIMe X lo hi 6 j f j L cm := by
  intro M0 Q m n z C W tst g b t h1 h2 hc hf
  have j7 := b.2.2
  have n7 := g.n
  have f0 : f ≠ 0 ∧ f ≤ 5 := by
    rw [hf9]; split <;> omega
  have st9 := srt_le (tk X j)
  have fin : RT (f_X12_deeper_J61 (nI f) z) (fun r => BM X M0 r f j) := by
    unfold f_X12_deeper_J61
    refine RT.bind (m_wrong (f := f) g) (fun r ⟨r1, r2, r3, _⟩ => RT.ret ?_)
    exact GM.bm (c := 0) b g f0 r1 r2 r3 (by omega)
  have go : RT (f_X12_deeper z) (fun r => BM X M0 r f j) := by
    unfold f_X12_deeper
    rw [g.2.2.2.2.2.2.1.1]
    refine RT.itT (show nI 6 ≤ nI 6 by decide) ?_
    rw [g.2.1.2.1]
    by_cases k2 : tk X j = 2
    · refine RT.itT (by rw [srt_2.mpr k2]; rfl) ?_
      rw [if_pos (Or.inl k2)] at hf9
      subst hf9
      exact fin
    · refine RT.itF (fun e => k2 (srt_2.mp ((nI_eq (b := 2) (by omega) (by omega)).mp e))) ?_
      by_cases k1 : tk X j = 1
      · refine RT.itT (by rw [srt_1.mpr k1]; rfl) ?_
        rw [if_pos (Or.inr (Or.inl k1))] at hf9
        subst hf9
        exact fin
      · refine RT.itF (fun e => k1 (srt_1.mp ((nI_eq (b := 1) (by omega) (by omega)).mp e))) ?_
        rw [show (40 : Int32) = nI 40 from rfl]
        by_cases k4 : tk X j = 40
        · rw [g.sgT (c := 40) rfl k4, ob_some]
          rw [if_pos (Or.inr (Or.inr k4))] at hf9
          subst hf9
          exact RT.itF (show ¬ nI 1 = 0 by decide) fin
        · rw [g.sgF (c := 40) rfl k4, ob_some]
          rw [if_neg (by omega)] at hf9
          subst hf9
          exact RT.itT rfl fin
  refine RT.bind go (fun r hr => ?_)
  exact m_opBad1 hr (by omega) (m_bad hr (hf f0.1) (by omega))
/-! parts -/
theorem j75_part {M0 : MS} {C W : List Nat} {tst : Nat → Bool} {z : MS} {m : Nat} {l2 : Int32} {Q : MS → Prop} (g : GM X lo hi M0 C W d tst z j) (h : tk X j ≠ 40) (hm : 0 < m) (k : RT (f_X12_part z) Q) : RT (f_X12_operand_J75 (f_X12_operand_L4 m) l2 z) Q := by
  obtain ⟨m1, rfl⟩ : ∃ m1, m = m1 + 1 := ⟨m - 1, by omega⟩
  unfold f_X12_operand_J75
  rw [g.good, ob_some]
  refine RT.itF (show ¬ nI 1 = 0 by decide) ?_
  rw [show (40 : Int32) = nI 40 from rfl, g.sgF (c := 40) rfl h, ob_some]
  refine RT.itT rfl ?_
  unfold f_X12_operand_J95 f_X12_operand_J96
  refine RT.itT rfl ?_
  unfold f_X12_operand_L4
  refine RT.itT rfl ?_
  unfold f_X12_operand_J120
  exact RT.bind k (fun r hr => RT.ret hr)
theorem fin_part {M0 : MS} {z : MS} (b : BM X M0 z f j) {Q : MS → Prop} (hQ : Q z) : RT (f_X12_part_J97 z) Q := by
  unfold f_X12_part_J97
  rw [b.bad, ob_some]
  exact RT.itT rfl (RT.ret hQ)
theorem SIMa_mis (l : Nat) (h1 : tk X j ≠ 1) (h2 : tk X j ≠ 2) (h4 : tk X j ≠ 40) (L : List Nat) : SIMa X lo hi l d j 1 j L := by
  intro M0 Q m n l2 z C W tst g b t u1 u2 hc hf
  have j7 := b.2.2
  have n7 := g.n
  have st9 := srt_le (tk X j)
  refine j75_part g h4 (by omega) ?_
  unfold f_X12_part
  rw [g.good, ob_some]
  refine RT.itF (show ¬ nI 1 = 0 by decide) ?_
  rw [g.2.1.2.1]
  refine RT.itF (fun e => h2 (srt_2.mp ((nI_eq (b := 2) (by omega) (by omega)).mp e))) ?_
  refine RT.itF (fun e => h1 (srt_1.mp ((nI_eq (b := 1) (by omega) (by omega)).mp e))) ?_
  refine RT.bind (m_wrong (f := 1) g) (fun r ⟨r1, r2, r3, _⟩ => ?_)
  have bm := GM.bm (c := 0) b g ⟨by omega, by omega⟩ r1 r2 r3 (by omega)
  exact fin_part bm (m_bad bm (hf (by omega)) (by omega))
theorem SIMa_num (l : Nat) (h2 : tk X j = 2) (h4 : tl X j ≤ 4) : SIMa X lo hi l d j 0 (j + 1) [tv X j] := by
  intro M0 Q m n l2 z C W tst g b t u1 u2 hc hf
  have j7 := b.2.2
  have n7 := g.n
  have tj := tk_j (X := X) (j := j) (by omega)
  have tv9 := tv_lt h2
  obtain ⟨b1, b2, b3⟩ := b
  refine j75_part g (by omega) (by omega) ?_
  unfold f_X12_part
  rw [g.good, ob_some]
  refine RT.itF (show ¬ nI 1 = 0 by decide) ?_
  rw [g.2.1.2.1]
  refine RT.itT (by rw [srt_2.mpr h2]; rfl) ?_
  rw [g.2.1.2.2.2.1]
  refine RT.itT (show nI (tl X j) ≤ nI 4 from nI_le h4 (by omega)) ?_
  unfold f_X12_part_J29
  refine RT.bind (m_puts (a := 1) g (by omega)) (fun r ⟨r1, r2⟩ => ?_)
  rw [r2, g.2.1.2.2.2.2.1 h2]
  refine RT.bind (m_puts (a := tv X j) r1 (by rw [List.length_append]; show C.length + 1 < 1400; omega)) (fun s ⟨s1, _⟩ => ?_)
  unfold f_X12_part_J97
  rw [s1.good, ob_some]
  refine RT.itF (show ¬ nI 1 = 0 by decide) ?_
  refine RT.bind (m_take s1) (fun u hu => RT.ret ?_)
  refine hc rfl n u (C ++ [1] ++ [tv X j]) [] (by omega) (fun a ha => absurd ha List.not_mem_nil) ?_ hu ⟨?_, ?_, by omega⟩
  · rw [enc_1, List.append_nil, List.append_assoc]
    unfold en1
    rw [if_pos (by omega)]; rfl
  · rw [List.length_append, List.length_append]
    show C.length + 1 + 1 + W.length + 2 ≤ _
    omega
  · show W.length < _
    omega
theorem SIMa_big (l : Nat) (h2 : tk X j = 2) (h4 : 4 < tl X j) (L : List Nat) : SIMa X lo hi l d j 2 j L := by
  intro M0 Q m n l2 z C W tst g b t u1 u2 hc hf
  have j7 := b.2.2
  have n7 := g.n
  have tj := tk_j (X := X) (j := j) (by omega)
  have te9 := te_le X j
  have tl9 : tl X j ≤ 700 := by unfold tl; omega
  have b9 := b
  obtain ⟨b1, b2, b3⟩ := b9
  refine j75_part g (by omega) (by omega) ?_
  unfold f_X12_part
  rw [g.good, ob_some]
  refine RT.itF (show ¬ nI 1 = 0 by decide) ?_
  rw [g.2.1.2.1]
  refine RT.itT (by rw [srt_2.mpr h2]; rfl) ?_
  rw [g.2.1.2.2.2.1]
  refine RT.itF (show ¬ nI (tl X j) ≤ nI 4 from nI_ge h4 (by omega)) ?_
  refine RT.bind (m_wrong (f := 2) g) (fun r ⟨r1, r2, r3, _⟩ => ?_)
  unfold f_X12_part_J29
  refine RT.bind (m_putsB r1 r2 r3 (by omega)) (fun s ⟨s1, s2, s3⟩ => ?_)
  refine RT.bind (m_putsB s1 s2 s3 (by omega)) (fun u ⟨y1, y2, y3⟩ => ?_)
  have bm := GM.bm (c := 2) b g ⟨by omega, by omega⟩ y1 y2 y3 (by omega)
  exact fin_part bm (m_bad bm (hf (by omega)) (by omega))
theorem SIMa_val (l : Nat) (h1 : tk X j = 1) (hl : lo ≤ tw X j) (hh9 : tw X j ≤ hi) (h16 : hi < 16) : SIMa X lo hi l d j 0 (j + 1) [10000 + tw X j] := by
  intro M0 Q m n l2 z C W tst g b t u1 u2 hc hf
  have j7 := b.2.2
  have n7 := g.n
  have tj := tk_j (X := X) (j := j) (by omega)
  obtain ⟨b1, b2, b3⟩ := b
  refine j75_part g (by omega) (by omega) ?_
  unfold f_X12_part
  rw [g.good, ob_some]
  refine RT.itF (show ¬ nI 1 = 0 by decide) ?_
  rw [g.2.1.2.1]
  refine RT.itF (by rw [srt_1.mpr h1]; decide) ?_
  refine RT.itT (by rw [srt_1.mpr h1]; rfl) ?_
  rw [g.kw, ob_some, kw_eq (k := tw X j) (by omega) rfl, g.2.2.2.1.1, g.2.2.2.1.2]
  refine RT.itF (nI_nlt hl (by omega)) (RT.itT (nI_le hh9 (by omega)) ?_)
  unfold f_X12_part_J79
  refine RT.bind (m_puts (a := 2) g (by omega)) (fun r ⟨r1, r2⟩ => ?_)
  refine RT.bind (m_puts (a := tw X j) r1 (by rw [List.length_append]; show C.length + 1 < 1400; omega)) (fun s ⟨s1, _⟩ => ?_)
  unfold f_X12_part_J97
  rw [s1.good, ob_some]
  refine RT.itF (show ¬ nI 1 = 0 by decide) ?_
  refine RT.bind (m_take s1) (fun u hu => RT.ret ?_)
  refine hc rfl n u (C ++ [2] ++ [tw X j]) [] (by omega) (fun a ha => absurd ha List.not_mem_nil) ?_ hu ⟨?_, ?_, by omega⟩
  · rw [enc_1, List.append_nil, List.append_assoc]
    unfold en1
    rw [if_neg (by omega), if_pos (by omega), Nat.add_sub_cancel_left]; rfl
  · rw [List.length_append, List.length_append]
    show C.length + 1 + 1 + W.length + 2 ≤ _
    omega
  · show W.length < _
    omega
theorem SIMa_unk (l : Nat) (h1 : tk X j = 1) (hx : ¬ (lo ≤ tw X j ∧ tw X j ≤ hi)) (h16 : hi < 16) (hlo : lo < 16) (L : List Nat) : SIMa X lo hi l d j 3 j L := by
  intro M0 Q m n l2 z C W tst g b t u1 u2 hc hf
  have j7 := b.2.2
  have n7 := g.n
  have tj := tk_j (X := X) (j := j) (by omega)
  have b9 := b
  obtain ⟨b1, b2, b3⟩ := b9
  have tw9 := tw_le X j
  refine j75_part g (by omega) (by omega) ?_
  unfold f_X12_part
  rw [g.good, ob_some]
  refine RT.itF (show ¬ nI 1 = 0 by decide) ?_
  rw [g.2.1.2.1]
  refine RT.itF (by rw [srt_1.mpr h1]; decide) ?_
  refine RT.itT (by rw [srt_1.mpr h1]; rfl) ?_
  rw [g.kw, ob_some, g.2.2.2.1.1, g.2.2.2.1.2]
  have fin : ∀ x, RT (f_X12_part_J74 x z) (fun q => RT (f_X12_expression_L39 n 1 q) Q) := by
    intro x
    unfold f_X12_part_J74
    refine RT.bind (m_wrong (f := 3) g) (fun r ⟨r1, r2, r3, _⟩ => ?_)
    unfold f_X12_part_J79
    refine RT.bind (m_putsB r1 r2 r3 (by omega)) (fun s ⟨s1, s2, s3⟩ => ?_)
    refine RT.bind (m_putsB s1 s2 s3 (by omega)) (fun u ⟨y1, y2, y3⟩ => ?_)
    have bm := GM.bm (c := 2) b g ⟨by omega, by omega⟩ y1 y2 y3 (by omega)
    exact fin_part bm (m_bad bm (hf (by omega)) (by omega))
  by_cases e : tw X j < 16
  · rw [if_pos e]
    by_cases e1 : tw X j < lo
    · exact RT.itT (nI_lt e1 (by omega)) (fin _)
    · exact RT.itF (nI_nlt (by omega) (by omega)) (RT.itF (nI_ge (by omega) (by omega)) (fin _))
  · rw [if_neg e]
    exact RT.itT (by rw [sx_mlt (by omega)]; trivial) (fin _)
/-- ( .. ) -/
theorem par_in {M0 : MS} {C W : List Nat} {tst : Nat → Bool} {z : MS} {m n : Nat} {l2 : Int32} {Q : MS → Prop} (g : GM X lo hi M0 C W d tst z j) (b : BD X C W j) (h : tk X j = 40) (k : ∀ r, GM X lo hi M0 C (14 :: W) d tst r (j + 1) → BD X C (14 :: W) (j + 1) → RT ((f_X12_deeper r).bind (fun q => f_X12_operand_L4 m 1 1 q)) Q) : RT (f_X12_operand_J75 (f_X12_operand_L4 m) l2 z) Q := by
  unfold f_X12_operand_J75
  rw [g.good, ob_some]
  refine RT.itF (show ¬ nI 1 = 0 by decide) ?_
  rw [show (40 : Int32) = nI 40 from rfl, g.sgT (c := 40) rfl h, ob_some]
  refine RT.itF (show ¬ nI 1 = 0 by decide) ?_
  unfold f_X12_operand_J96
  refine RT.itF (by decide) ?_
  refine RT.bind (m_waits (a := 14) g (b.w9 g) (by omega)) (fun r hr => ?_)
  exact RT.bind (m_take hr) (fun s hs9 => k s hs9 (b.push (by omega)))
theorem SIMa_par (l : Nat) (hd : d ≤ 6) (h1d : 1 ≤ d) (h : tk X j = 40) (s : SIMe X lo hi d (j + 1) 0 j1 L1 cm) (h5 : tk X j1 = 41) : SIMa X lo hi l d j 0 (j1 + 1) L1 := by
  intro M0 Q m n l2 z C W tst g b t u1 u2 hc hf
  refine par_in (n := n) g b h (fun r r1 r2 => ?_)
  refine s M0 Q m n r C (14 :: W) tst r1 r2 (Or.inl (by omega)) (by omega) (by omega) (fun _ n2 z2 o2 P2 tst2 e1 e2 e3 eA eB e4 e5 => ?_) (fun e => absurd rfl e)
  have j7 := e5.2.2
  have n7 := e4.n
  obtain ⟨n9, rfl⟩ : ∃ n9, n2 = n9 + 1 := ⟨n2 - 1, by omega⟩
  refine ev_close hd h1d e4 e5 e2 h5 (fun v v1 v2 => ?_)
  refine hc rfl n9 v (o2 ++ P2) [] (by omega) (fun a ha => absurd ha List.not_mem_nil) (by rw [List.append_nil]; exact e3) ?_ v2
  obtain ⟨g1, g2, g3, g4, g5, g6, g7, g8⟩ := v1
  exact ⟨g1, g2, g3, g4, g5, g6, ⟨g7.1, fun i i1 hi => by rw [← eA i hi]; exact g7.2 i i1 hi⟩, g8⟩
theorem SIMa_parU (l : Nat) (hd : d ≤ 6) (h1d : 1 ≤ d) (h : tk X j = 40) (s : SIMe X lo hi d (j + 1) 0 j1 L1 cm) (h1 : tw X j1 ≠ 13) (h2 : tw X j1 ≠ 14) (h3 : (tk X j1 = 60 ∨ tk X j1 = 61) → cm = true) (h4 : tk X j1 ≠ 43 ∧ tk X j1 ≠ 45 ∧ tk X j1 ≠ 42 ∧ tk X j1 ≠ 47) (h5 : tk X j1 ≠ 41) (L : List Nat) : SIMa X lo hi l d j 1 j1 L := by
  intro M0 Q m n l2 z C W tst g b t u1 u2 hc hf
  refine par_in (n := n) g b h (fun r r1 r2 => ?_)
  refine s M0 Q m n r C (14 :: W) tst r1 r2 (Or.inl (by omega)) (by omega) (by omega) (fun _ n2 z2 o2 P2 tst2 e1 e2 e3 eA eB e4 e5 => ?_) (fun e => absurd rfl e)
  have j7 := e5.2.2
  have n7 := e4.n
  exact ev_unclosed (by omega) (by omega) e4 e5 h1 h2 (fun e => by rw [eB]; exact h3 e) h4 h5 (by omega) (hf (by omega))
theorem SIMa_parF (l : Nat) (h : tk X j = 40) (s : SIMe X lo hi d (j + 1) f j1 L1 cm) (h0 : f ≠ 0) (L : List Nat) : SIMa X lo hi l d j f j1 L := by
  intro M0 Q m n l2 z C W tst g b t u1 u2 hc hf
  refine par_in (n := n) g b h (fun r r1 r2 => ?_)
  exact s M0 Q m n r C (14 :: W) tst r1 r2 (Or.inl (by omega)) (by omega) (by omega) (fun e => absurd e h0) hf
end SMS
