/-! the reference's reading of a rule follows the class's -/
def SIMa (X : TX) (lo hi l d j f j' : Nat) (L : List Nat) : Prop := ∀ (M0 : MS) (Q : MS → Prop) (m n : Nat) (l2 : Int32) (z : MS) (C W : List Nat) (tst : Nat → Bool), GM X lo hi M0 C W d tst z j → BD X C W j → TL W l → 710 ≤ m + j → 710 ≤ n + j → (f = 0 → ∀ n' z' o P, 710 ≤ n' + j' → (∀ a ∈ P, l ≤ str a ∧ a < 14) → C ++ enc L = o ++ P → GM X lo hi M0 o (P ++ W) d tst z' j' → BD X o (P ++ W) j' → RT (f_X12_expression_L39 n' 1 z') Q) → (f ≠ 0 → ∀ r, BE X M0 r f j' → Q r) → RT (f_X12_operand_J75 (f_X12_operand_L4 m) l2 z) (fun q => RT (f_X12_expression_L39 n 1 q) Q)
def SIMn (X : TX) (lo hi l d j f j' : Nat) (L : List Nat) (cm : Bool) : Prop := ∀ (M0 : MS) (Q : MS → Prop) (m n : Nat) (z : MS) (C W : List Nat) (tst : Nat → Bool), GM X lo hi M0 C W d tst z j → BD X C W j → tst d = false → TL W l → 710 ≤ m + j → 710 ≤ n + j → (f = 0 → ∀ n' z' o P tst', 710 ≤ n' + j' → (∀ a ∈ P, l ≤ str a ∧ a < 14) → C ++ enc L = o ++ P → (∀ i, i < d → tst' i = tst i) → tst' d = cm → GM X lo hi M0 o (P ++ W) d tst' z' j' → BD X o (P ++ W) j' → RT (f_X12_expression_L39 n' 1 z') Q) → (f ≠ 0 → ∀ r, BE X M0 r f j' → Q r) → RT (f_X12_operand_L18 (f_X12_operand_L4 m) 1 FUEL 0 z) (fun q => RT (f_X12_expression_L39 n 1 q) Q)
def SIMe (X : TX) (lo hi d j f j' : Nat) (L : List Nat) (cm : Bool) : Prop := ∀ (M0 : MS) (Q : MS → Prop) (m n : Nat) (z : MS) (C W : List Nat) (tst : Nat → Bool), GM X lo hi M0 C W d tst z j → BD X C W j → TL W 1 → 711 ≤ m + j → 710 ≤ n + j → (f = 0 → ∀ n' z' o P tst', 710 ≤ n' + j' → (∀ a ∈ P, a < 14) → C ++ enc L = o ++ P → (∀ i, i ≤ d → tst' i = tst i) → tst' (d + 1) = cm → GM X lo hi M0 o (P ++ W) (d + 1) tst' z' j' → BD X o (P ++ W) j' → RT (f_X12_expression_L39 n' 1 z') Q) → (f ≠ 0 → ∀ r, BE X M0 r f j' → Q r) → RT ((f_X12_deeper z).bind (fun q => f_X12_operand_L4 m 1 1 q)) (fun q => RT (f_X12_expression_L39 n 1 q) Q)
theorem SIMa.mono {X : TX} {lo hi l k d j f j' : Nat} {L : List Nat} (s : SIMa X lo hi l d j f j' L) (h : k ≤ l) : SIMa X lo hi k d j f j' L := fun M0 Q m n l2 z C W tst g b t h1 h2 hk hf => s M0 Q m n l2 z C W tst g b (t.mono h) h1 h2 (fun e n' z' o P c1 c2 c3 c4 c5 => hk e n' z' o P c1 (fun a ha => ⟨by have := (c2 a ha).1; omega, (c2 a ha).2⟩) c3 c4 c5) hf
theorem SIMn.mono {X : TX} {lo hi l k d j f j' : Nat} {L : List Nat} {cm : Bool} (s : SIMn X lo hi l d j f j' L cm) (h : k ≤ l) : SIMn X lo hi k d j f j' L cm := fun M0 Q m n z C W tst g b e t h1 h2 hk hf => s M0 Q m n z C W tst g b e (t.mono h) h1 h2 (fun e n' z' o P tst' c1 c2 c3 c4 c5 c6 c7 => hk e n' z' o P tst' c1 (fun a ha => ⟨by have := (c2 a ha).1; omega, (c2 a ha).2⟩) c3 c4 c5 c6 c7) hf
theorem fuel_s : ∃ k, FUEL = k + 1 ∧ 710 ≤ k := ⟨99999, rfl, by omega⟩
theorem tk_tw {X : TX} {j : Nat} (h : tk X j ≠ 1) : tw X j = 16 := by unfold tw; rw [if_neg h]
section EVS
variable {X : TX} {lo hi : Nat} {M0 : MS} {C W P : List Nat} {d : Nat} {tst : Nat → Bool} {z : MS} {j n : Nat} {Q : MS → Prop}
theorem GM.kw (g : GM X lo hi M0 C W d tst z j) : f_X12_knownWord z = some (if tw X j < 16 then nI (tw X j) else mO) := m_knownWord g.1 g.2.1
theorem GM.sg {c : Nat} (g : GM X lo hi M0 C W d tst z j) (hc : isSg c = true) : f_X12_isSign z (nI c) = some (nI (if tk X j = c then 1 else 0)) := m_isSign g.2.1 hc
theorem GM.sgT {c : Nat} (g : GM X lo hi M0 C W d tst z j) (hc : isSg c = true) (h : tk X j = c) : f_X12_isSign z (nI c) = some (nI 1) := by rw [g.sg hc, if_pos h]
theorem GM.sgF {c : Nat} (g : GM X lo hi M0 C W d tst z j) (hc : isSg c = true) (h : tk X j ≠ c) : f_X12_isSign z (nI c) = some (nI 0) := by rw [g.sg hc, if_neg h]
theorem kw_ne {k : Nat} (hk : k < 16) (h : tw X j ≠ k) : ¬ (if tw X j < 16 then nI (tw X j) else mO) = nI k := by
  have := tw_le X j
  by_cases e : tw X j < 16
  · rw [if_pos e]; exact fun e2 => h ((nI_eq (by omega) (by omega)).mp e2)
  · rw [if_neg e]
    intro e2
    have := (sx_meq (a := k) (by omega)).mp e2
    exact this
theorem kw_eq {k : Nat} (hk : k < 16) (h : tw X j = k) : (if tw X j < 16 then nI (tw X j) else mO) = nI k := by rw [h, if_pos hk]
/-- into operand -/
theorem op_in {m : Nat} {l2 : Int32} (g : GM X lo hi M0 C W d tst z j) (k : RT (f_X12_operand_L18 (f_X12_operand_L4 m) l2 FUEL 0 z) Q) : RT (f_X12_operand_L4 (m + 1) l2 1 z) Q := by
  unfold f_X12_operand_L4
  refine RT.itF (by decide) ?_
  rw [g.good, ob_some]
  exact RT.itF (show ¬ nI 1 = 0 by decide) k
theorem op_1 {l2 : Int32} (g : GM X lo hi M0 C W d tst z j) (k : ∀ m, 710 ≤ m → RT (f_X12_operand_L18 (f_X12_operand_L4 m) l2 FUEL 0 z) Q) : RT (f_X12_operand z l2) Q := by
  obtain ⟨m, e, hm⟩ := fuel_s
  unfold f_X12_operand
  rw [e]
  exact op_in g (k m hm)
theorem op_0 (g : GM X lo hi M0 C W d tst z j) (k : ∀ m, 710 ≤ m → RT (f_X12_operand_J75 (f_X12_operand_L4 m) 0 z) Q) : RT (f_X12_operand z 0) Q := by
  refine op_1 g (fun m hm => ?_)
  obtain ⟨u, e, _⟩ := fuel_s
  rw [e]
  unfold f_X12_operand_L18
  rw [g.good, ob_some]
  exact RT.itF (show ¬ nI 1 = 0 by decide) (RT.itT rfl (k m hm))
theorem ev_nw (g : GM X lo hi M0 C W d tst z j) (h1 : tw X j ≠ 13) (h2 : tw X j ≠ 14) (k : RT ((f_X12_isSign z 60).bind (fun q29 => (if q29 = 0 then (f_X12_isSign z 61).bind (fun q66 => (if q66 = 0 then f_X12_expression_J201 (f_X12_expression_L39 n) 1 z else f_X12_expression_J142 (f_X12_expression_L39 n) 1 z)) else f_X12_expression_J142 (f_X12_expression_L39 n) 1 z))) Q) : RT (f_X12_expression_L39 (n + 1) 1 z) Q := by
  unfold f_X12_expression_L39
  refine RT.itF (by decide) ?_
  rw [g.good, ob_some]
  refine RT.itF (show ¬ nI 1 = 0 by decide) ?_
  rw [g.kw, ob_some]
  exact RT.itF (kw_ne (k := 13) (by omega) h1) (RT.itF (kw_ne (k := 14) (by omega) h2) k)
theorem ev_sg (g : GM X lo hi M0 C W d tst z j) (h1 : tw X j ≠ 13) (h2 : tw X j ≠ 14) (h3 : tk X j ≠ 60) (h4 : tk X j ≠ 61) (k : RT (f_X12_expression_J201 (f_X12_expression_L39 n) 1 z) Q) : RT (f_X12_expression_L39 (n + 1) 1 z) Q := by
  refine ev_nw g h1 h2 ?_
  rw [show (60 : Int32) = nI 60 from rfl, show (61 : Int32) = nI 61 from rfl, g.sgF (c := 60) rfl h3, ob_some]
  refine RT.itT rfl ?_
  rw [g.sgF (c := 61) rfl h4, ob_some]
  exact RT.itT rfl k
theorem BD.push {a : Nat} (b : BD X C W j) (h : tk X j ≠ 0) : BD X C (a :: W) (j + 1) := by
  obtain ⟨b1, b2, b3⟩ := b
  have := tk_j h
  exact ⟨by show C.length + (W.length + 1) + 2 ≤ _; omega, by show W.length + 1 < _; omega, by omega⟩
theorem BD.w9 (b : BD X C W j) (g : GM X lo hi M0 C W d tst z j) : W.length < 950 := by
  have := g.n
  obtain ⟨b1, b2, b3⟩ := b
  omega
/-- + and - -/
theorem ev_sum {act op : Nat} (hop : (op = 43 ∧ act = 8) ∨ (op = 45 ∧ act = 9)) (g : GM X lo hi M0 C (P ++ W) d tst z j) (b : BD X C (P ++ W) j) (hp : ∀ a ∈ P, 5 ≤ str a ∧ a < 14) (t : TL W 5) (hk : tk X j = op) (k : ∀ r, GM X lo hi M0 (C ++ P) (act :: W) d tst r (j + 1) → BD X (C ++ P) (act :: W) (j + 1) → RT (f_X12_operand r 0) (fun q => RT (f_X12_expression_L39 n 1 q) Q)) : RT (f_X12_expression_L39 (n + 1) 1 z) Q := by
  have hw : tw X j = 16 := tk_tw (by omega)
  refine ev_sg g (by omega) (by omega) (by omega) (by omega) ?_
  have go : RT (f_X12_expression_J219 (f_X12_expression_L39 n) 1 z) Q := by
    unfold f_X12_expression_J219
    refine RT.bind (m_drops (k := 5) (by omega) g b hp t) (fun r ⟨r1, r2⟩ => ?_)
    rw [show (43 : Int32) = nI 43 from rfl]
    have fin : RT (f_X12_expression_J241 (f_X12_expression_L39 n) 1 (nI act) r) Q := by
      unfold f_X12_expression_J241
      refine RT.bind (m_waits (a := act) r1 (r2.w9 r1) (by omega)) (fun s hs9 => ?_)
      refine RT.bind (m_take hs9) (fun u hu => ?_)
      exact RT.bind (k u hu (r2.push (by omega))) (fun v hv => hv)
    rcases hop with ⟨h1, h2⟩ | ⟨h1, h2⟩
    · rw [r1.sgT (c := 43) rfl (by omega), ob_some]
      subst h2
      exact RT.itF (show ¬ nI 1 = 0 by decide) fin
    · rw [r1.sgF (c := 43) rfl (by omega), ob_some]
      subst h2
      exact RT.itT rfl fin
  unfold f_X12_expression_J201
  rw [show (43 : Int32) = nI 43 from rfl, show (45 : Int32) = nI 45 from rfl]
  rcases hop with ⟨h1, h2⟩ | ⟨h1, h2⟩
  · rw [g.sgT (c := 43) rfl (by omega), ob_some]
    exact RT.itF (show ¬ nI 1 = 0 by decide) go
  · rw [g.sgF (c := 43) rfl (by omega), ob_some]
    refine RT.itT rfl ?_
    rw [g.sgT (c := 45) rfl (by omega), ob_some]
    exact RT.itF (show ¬ nI 1 = 0 by decide) go
/-- * and / -/
theorem ev_prd {act op : Nat} (hop : (op = 42 ∧ act = 10) ∨ (op = 47 ∧ act = 11)) (g : GM X lo hi M0 C (P ++ W) d tst z j) (b : BD X C (P ++ W) j) (hp : ∀ a ∈ P, 6 ≤ str a ∧ a < 14) (t : TL W 6) (hk : tk X j = op) (k : ∀ r, GM X lo hi M0 (C ++ P) (act :: W) d tst r (j + 1) → BD X (C ++ P) (act :: W) (j + 1) → RT (f_X12_operand r 0) (fun q => RT (f_X12_expression_L39 n 1 q) Q)) : RT (f_X12_expression_L39 (n + 1) 1 z) Q := by
  have hw : tw X j = 16 := tk_tw (by omega)
  refine ev_sg g (by omega) (by omega) (by omega) (by omega) ?_
  have go : RT (f_X12_expression_J274 (f_X12_expression_L39 n) 1 z) Q := by
    unfold f_X12_expression_J274
    refine RT.bind (m_drops (k := 6) (by omega) g b hp t) (fun r ⟨r1, r2⟩ => ?_)
    rw [show (42 : Int32) = nI 42 from rfl]
    have fin : RT (f_X12_expression_J297 (f_X12_expression_L39 n) 1 (nI act) r) Q := by
      unfold f_X12_expression_J297
      refine RT.bind (m_waits (a := act) r1 (r2.w9 r1) (by omega)) (fun s hs9 => ?_)
      refine RT.bind (m_take hs9) (fun u hu => ?_)
      exact RT.bind (k u hu (r2.push (by omega))) (fun v hv => hv)
    rcases hop with ⟨h1, h2⟩ | ⟨h1, h2⟩
    · rw [r1.sgT (c := 42) rfl (by omega), ob_some]
      subst h2
      exact RT.itF (show ¬ nI 1 = 0 by decide) fin
    · rw [r1.sgF (c := 42) rfl (by omega), ob_some]
      subst h2
      exact RT.itT rfl fin
  unfold f_X12_expression_J201
  rw [show (43 : Int32) = nI 43 from rfl, show (45 : Int32) = nI 45 from rfl, show (42 : Int32) = nI 42 from rfl, show (47 : Int32) = nI 47 from rfl, g.sgF (c := 43) rfl (by omega), ob_some]
  refine RT.itT rfl ?_
  rw [g.sgF (c := 45) rfl (by omega), ob_some]
  refine RT.itT rfl ?_
  rcases hop with ⟨h1, h2⟩ | ⟨h1, h2⟩
  · rw [g.sgT (c := 42) rfl (by omega), ob_some]
    exact RT.itF (show ¬ nI 1 = 0 by decide) go
  · rw [g.sgF (c := 42) rfl (by omega), ob_some]
    refine RT.itT rfl ?_
    rw [g.sgT (c := 47) rfl (by omega), ob_some]
    exact RT.itF (show ¬ nI 1 = 0 by decide) go
def stT (tst : Nat → Bool) (d : Nat) (v : Bool) : Nat → Bool := fun i => if i = d then v else tst i
/-- tested[depth] is laid -/
theorem GM.layT {v : Bool} {x : Int32} (g : GM X lo hi M0 C W d tst z j) (hx : x = nI (if v then 1 else 0)) : GM X lo hi M0 C W d (stT tst d v) ((z.1, z.2.1, uA z.2.2 9 d x) : MS) j := by
  obtain ⟨g1, g2, g3, g4, g5, g6, g7, g8⟩ := g
  refine ⟨⟨g1.1, g1.2.1, fun i hi => ⟨(g1.2.2 i hi).1, ?_⟩⟩, g2, g3, g4, ⟨g5.1, ?_⟩, ⟨g6.1, ?_⟩, ⟨g7.1, fun i i1 hi => ?_⟩, ⟨g8.1, fun q hq => ?_⟩⟩
  · show uA z.2.2 9 d x 3 i = _
    rw [uA_n (by omega)]; exact (g1.2.2 i hi).2
  · show cdl (uA z.2.2 9 d x 7) C
    rw [uA_n (by omega)]; exact g5.2
  · show stk (uA z.2.2 9 d x 8) W
    rw [uA_n (by omega)]; exact g6.2
  · show uA z.2.2 9 d x 9 i = nI (if (if i = d then v else tst i) then 1 else 0)
    by_cases e : i = d
    · rw [e, uA_ss, if_pos rfl]; exact hx
    · rw [uA_sn e, if_neg e]; exact g7.2 i i1 hi
  · show uA z.2.2 9 d x q = _
    rw [uA_n (by omega)]; exact g8.2 q hq
/-- and, or -/
theorem ev_log {kw act l : Nat} (hop : (kw = 13 ∧ act = 4 ∧ l = 2) ∨ (kw = 14 ∧ act = 5 ∧ l = 1)) (hd : d ≤ 7) (g : GM X lo hi M0 C (P ++ W) d tst z j) (b : BD X C (P ++ W) j) (hp : ∀ a ∈ P, l ≤ str a ∧ a < 14) (t : TL W l) (hk : tw X j = kw) (k : ∀ r, GM X lo hi M0 (C ++ P) (act :: W) d (stT tst d false) r (j + 1) → BD X (C ++ P) (act :: W) (j + 1) → RT (f_X12_operand r 1) (fun q => RT (f_X12_expression_L39 n 1 q) Q)) : RT (f_X12_expression_L39 (n + 1) 1 z) Q := by
  have h1 : tk X j = 1 := tw_1 (by omega)
  unfold f_X12_expression_L39
  refine RT.itF (by decide) ?_
  rw [g.good, ob_some]
  refine RT.itF (show ¬ nI 1 = 0 by decide) ?_
  rw [g.kw, ob_some, kw_eq (k := kw) (by omega) hk]
  have fin : ∀ r, GM X lo hi M0 (C ++ P) W d tst r j → BD X (C ++ P) W j → RT (f_X12_expression_J99 (f_X12_expression_L39 n) 1 (nI act) r) Q := by
    intro r r1 r2
    unfold f_X12_expression_J99
    refine RT.bind (m_waits (a := act) r1 (r2.w9 r1) (by omega)) (fun s s1 => ?_)
    rw [s1.2.2.2.2.2.2.1.1, sx_grd (by omega) (by omega), sx_clamp (by omega), bnd_nr]
    refine RT.bind (m_take (s1.layT (v := false) (x := vp_nar .boolean (0 : Int32)) (by decide))) (fun u hu => ?_)
    exact RT.bind (k u hu (r2.push (by omega))) (fun v hv => hv)
  rcases hop with ⟨e1, e2, e3⟩ | ⟨e1, e2, e3⟩
  · subst e1; subst e2; subst e3
    refine RT.itT rfl ?_
    unfold f_X12_expression_J70
    refine RT.itT rfl ?_
    unfold f_X12_expression_J83
    refine RT.bind (m_drops (k := 2) (by omega) g b hp t) (fun r ⟨r1, r2⟩ => ?_)
    exact RT.itT rfl (fin r r1 r2)
  · subst e1; subst e2; subst e3
    refine RT.itF (by decide) (RT.itT rfl ?_)
    unfold f_X12_expression_J70
    refine RT.itF (by decide) ?_
    unfold f_X12_expression_J83
    refine RT.bind (m_drops (k := 1) (by omega) g b hp t) (fun r ⟨r1, r2⟩ => ?_)
    exact RT.itF (by decide) (fin r r1 r2)
/-- < and = -/
theorem ev_cmp {act op : Nat} (hop : (op = 60 ∧ act = 6) ∨ (op = 61 ∧ act = 7)) (hd : 1 ≤ d ∧ d ≤ 7) (g : GM X lo hi M0 C (P ++ W) d tst z j) (b : BD X C (P ++ W) j) (ht : tst d = false) (hp : ∀ a ∈ P, 4 ≤ str a ∧ a < 14) (t : TL W 4) (hk : tk X j = op) (k : ∀ r, GM X lo hi M0 (C ++ P) (act :: W) d (stT tst d true) r (j + 1) → BD X (C ++ P) (act :: W) (j + 1) → RT (f_X12_operand r 0) (fun q => RT (f_X12_expression_L39 n 1 q) Q)) : RT (f_X12_expression_L39 (n + 1) 1 z) Q := by
  have hw : tw X j = 16 := tk_tw (by omega)
  refine ev_nw g (by omega) (by omega) ?_
  have go : RT (f_X12_expression_J142 (f_X12_expression_L39 n) 1 z) Q := by
    unfold f_X12_expression_J142
    rw [g.2.2.2.2.2.2.1.1, sx_grd (by omega) (by omega), sx_clamp (by omega), g.2.2.2.2.2.2.1.2 d (by omega) (Nat.le_refl _), ht]
    refine RT.itT rfl ?_
    refine RT.bind (m_drops (k := 4) (by omega) g b hp t) (fun r ⟨r1, r2⟩ => ?_)
    rw [show (60 : Int32) = nI 60 from rfl]
    have fin : RT (f_X12_expression_J176 (f_X12_expression_L39 n) 1 (nI act) r) Q := by
      unfold f_X12_expression_J176
      refine RT.bind (m_waits (a := act) r1 (r2.w9 r1) (by omega)) (fun s s1 => ?_)
      rw [s1.2.2.2.2.2.2.1.1, sx_grd (by omega) (by omega), sx_clamp (by omega), bnd_nr]
      refine RT.bind (m_take (s1.layT (v := true) (x := vp_nar .boolean (1 : Int32)) (by decide))) (fun u hu => ?_)
      exact RT.bind (k u hu (r2.push (by omega))) (fun v hv => hv)
    rcases hop with ⟨h1, h2⟩ | ⟨h1, h2⟩
    · rw [r1.sgT (c := 60) rfl (by omega), ob_some]
      subst h2
      exact RT.itF (show ¬ nI 1 = 0 by decide) fin
    · rw [r1.sgF (c := 60) rfl (by omega), ob_some]
      subst h2
      exact RT.itT rfl fin
  rw [show (60 : Int32) = nI 60 from rfl, show (61 : Int32) = nI 61 from rfl]
  rcases hop with ⟨h1, h2⟩ | ⟨h1, h2⟩
  · rw [g.sgT (c := 60) rfl (by omega), ob_some]
    exact RT.itF (show ¬ nI 1 = 0 by decide) go
  · rw [g.sgF (c := 60) rfl (by omega), ob_some]
    refine RT.itT rfl ?_
    rw [g.sgT (c := 61) rfl (by omega), ob_some]
    exact RT.itF (show ¬ nI 1 = 0 by decide) go
/-- none of these: J201's last -/
theorem ev_out (hd : 1 ≤ d ∧ d ≤ 7) (g : GM X lo hi M0 C W d tst z j) (h1 : tw X j ≠ 13) (h2 : tw X j ≠ 14) (h3 : (tk X j = 60 ∨ tk X j = 61) → tst d = true) (h4 : tk X j ≠ 43 ∧ tk X j ≠ 45 ∧ tk X j ≠ 42 ∧ tk X j ≠ 47) (k : RT ((f_X12_isSign z 41).bind (fun q53 => (if q53 = 0 then f_X12_expression_L39 n 0 z else (f_X12_isOpened z).bind (fun q55 => (if q55 = 0 then f_X12_expression_L39 n 0 z else (f_X12_closes z).bind (fun q57 => f_X12_expression_L39 n 1 q57)))))) Q) : RT (f_X12_expression_L39 (n + 1) 1 z) Q := by
  have go : RT (f_X12_expression_J201 (f_X12_expression_L39 n) 1 z) Q := by
    unfold f_X12_expression_J201
    rw [show (43 : Int32) = nI 43 from rfl, show (45 : Int32) = nI 45 from rfl, show (42 : Int32) = nI 42 from rfl, show (47 : Int32) = nI 47 from rfl, g.sgF (c := 43) rfl h4.1, ob_some]
    refine RT.itT rfl ?_
    rw [g.sgF (c := 45) rfl h4.2.1, ob_some]
    refine RT.itT rfl ?_
    rw [g.sgF (c := 42) rfl h4.2.2.1, ob_some]
    refine RT.itT rfl ?_
    rw [g.sgF (c := 47) rfl h4.2.2.2, ob_some]
    exact RT.itT rfl k
  have go2 : (tk X j = 60 ∨ tk X j = 61) → RT (f_X12_expression_J142 (f_X12_expression_L39 n) 1 z) Q := by
    intro e
    unfold f_X12_expression_J142
    rw [g.2.2.2.2.2.2.1.1, sx_grd (by omega) (by omega), sx_clamp (by omega), g.2.2.2.2.2.2.1.2 d (by omega) (Nat.le_refl _), h3 e]
    exact RT.itF (by decide) go
  refine ev_nw g h1 h2 ?_
  rw [show (60 : Int32) = nI 60 from rfl, show (61 : Int32) = nI 61 from rfl]
  by_cases e : tk X j = 60
  · rw [g.sgT (c := 60) rfl e, ob_some]
    exact RT.itF (show ¬ nI 1 = 0 by decide) (go2 (Or.inl e))
  · rw [g.sgF (c := 60) rfl e, ob_some]
    refine RT.itT rfl ?_
    by_cases e2 : tk X j = 61
    · rw [g.sgT (c := 61) rfl e2, ob_some]
      exact RT.itF (show ¬ nI 1 = 0 by decide) (go2 (Or.inr e2))
    · rw [g.sgF (c := 61) rfl e2, ob_some]
      exact RT.itT rfl go
theorem GM.bm {f : Nat} {r : MS} {c : Nat} (b : BD X C W j) (g : GM X lo hi M0 C W d tst z j) (hf : f ≠ 0 ∧ f ≤ 5) (h : BE X M0 r f j) (h1 : r.1 24 = nI (C.length + c)) (h2 : r.1 27 = nI W.length) (hc : c ≤ 1 ∨ (c ≤ 2 ∧ j < X.2)) : BM X M0 r f j := by
  have := g.n
  obtain ⟨b1, b2, b3⟩ := b
  exact ⟨h, hf, C.length + c, W.length, h1, h2, by omega, by omega⟩
/-- an open parenthesis isn't closed here -/
theorem ev_unclosed (hd : d ≤ 7) (h2d : 2 ≤ d) (g : GM X lo hi M0 C W d tst z j) (b : BD X C W j) (h1 : tw X j ≠ 13) (h2 : tw X j ≠ 14) (h3 : (tk X j = 60 ∨ tk X j = 61) → tst d = true) (h4 : tk X j ≠ 43 ∧ tk X j ≠ 45 ∧ tk X j ≠ 42 ∧ tk X j ≠ 47) (h5 : tk X j ≠ 41) (hn : 2 ≤ n) (hQ : ∀ r, BE X M0 r 1 j → Q r) : RT (f_X12_expression_L39 n 1 z) Q := by
  obtain ⟨k, rfl⟩ : ∃ k, n = k + 1 + 1 := ⟨n - 2, by omega⟩
  refine ev_out (by omega) g h1 h2 h3 h4 ?_
  rw [show (41 : Int32) = nI 41 from rfl, g.sgF (c := 41) rfl h5, ob_some]
  refine RT.itT rfl ?_
  unfold f_X12_expression_L39
  refine RT.itT rfl ?_
  unfold f_X12_expression_J340
  rw [g.good, ob_some]
  refine RT.itF (show ¬ nI 1 = 0 by decide) ?_
  rw [g.2.2.2.2.2.2.1.1]
  refine RT.itF (show ¬ nI d ≤ nI 1 from nI_ge (by omega) (by omega)) ?_
  refine RT.bind (m_wrong (f := 1) g) (fun r ⟨r1, r2, r3, _⟩ => ?_)
  exact m_360 (GM.bm (c := 0) b g ⟨by omega, by omega⟩ r1 r2 r3 (by omega)) hQ
/-- whether one stands open -/
theorem m_shut {A : Nat → Int32} : ∀ (P : List Nat) (n : Nat) (z : MS), z.2.2 8 = A → stk A P → (∀ a ∈ P, a < 14) → P.length ≤ 900 → P.length < n → f_X12_isOpened_L7 z n (nI P.length - 1) = some 0
  | _, 0, _, _, _, _, _, h => absurd h (Nat.not_lt_zero _)
  | [], n + 1, z, _, _, _, _, _ => by
    unfold f_X12_isOpened_L7 f_X12_isOpened_J29
    rw [if_pos (show nI ([] : List Nat).length - 1 < 0 by decide), if_pos (show nI ([] : List Nat).length - 1 < 0 by decide)]
  | a :: P, n + 1, z, e, s, hp, hl, hn => by
    have hl : P.length + 1 ≤ 900 := hl
    have hn : P.length + 1 < n + 1 := hn
    unfold f_X12_isOpened_L7
    rw [show nI (a :: P).length - 1 = nI P.length from nI_pred _, if_neg (show ¬ nI P.length < (0 : Int32) from nI_nlt (b := 0) (Nat.zero_le _) (by omega)), sx_grd (by omega) (by omega), sx_clamp (by omega), e, s.1.1, m_isOpen s.1.2, ob_some, if_pos (hp a (List.mem_cons_self ..)), if_pos (show nI 0 = 0 from rfl), bnd_nr, show nI P.length + (-1) = nI P.length - 1 from (Int32.sub_eq_add_neg ..).symm]
    exact m_shut P n z e s.2 (fun b hb => hp b (List.mem_cons_of_mem _ hb)) (by omega) (by omega)
theorem m_open {A : Nat → Int32} {W : List Nat} : ∀ (P : List Nat) (n : Nat) (z : MS), z.2.2 8 = A → stk A (P ++ 14 :: W) → (∀ a ∈ P, a < 14) → (P ++ 14 :: W).length ≤ 900 → P.length < n → f_X12_isOpened_L7 z n (nI (P ++ 14 :: W).length - 1) = some 1
  | _, 0, _, _, _, _, _, h => absurd h (Nat.not_lt_zero _)
  | [], n + 1, z, e, s, _, hl, _ => by
    have hl : W.length + 1 ≤ 900 := hl
    have s : stk A (14 :: W) := s
    unfold f_X12_isOpened_L7 f_X12_isOpened_J29
    rw [show nI (([] : List Nat) ++ 14 :: W).length - 1 = nI W.length from nI_pred _, if_neg (show ¬ nI W.length < (0 : Int32) from nI_nlt (b := 0) (Nat.zero_le _) (by omega)), sx_grd (by omega) (by omega), sx_clamp (by omega), e, s.1.1, m_isOpen s.1.2, ob_some, if_neg (show ¬ (14 : Nat) < 14 by omega), if_neg (show ¬ nI 1 = 0 by decide), if_neg (show ¬ nI W.length < (0 : Int32) from nI_nlt (b := 0) (Nat.zero_le _) (by omega))]
  | a :: P, n + 1, z, e, s, hp, hl, hn => by
    have hl : (P ++ 14 :: W).length + 1 ≤ 900 := hl
    have hn : P.length + 1 < n + 1 := hn
    have s : stk A (a :: (P ++ 14 :: W)) := s
    unfold f_X12_isOpened_L7
    rw [show nI ((a :: P) ++ 14 :: W).length - 1 = nI (P ++ 14 :: W).length from nI_pred _, if_neg (show ¬ nI (P ++ 14 :: W).length < (0 : Int32) from nI_nlt (b := 0) (Nat.zero_le _) (by omega)), sx_grd (by omega) (by omega), sx_clamp (by omega), e, s.1.1, m_isOpen s.1.2, ob_some, if_pos (hp a (List.mem_cons_self ..)), if_pos (show nI 0 = 0 from rfl), bnd_nr, show nI (P ++ 14 :: W).length + (-1) = nI (P ++ 14 :: W).length - 1 from (Int32.sub_eq_add_neg ..).symm]
    exact m_open P n z e s.2 (fun b hb => hp b (List.mem_cons_of_mem _ hb)) (by omega) (by omega)
/-- ) -/
theorem ev_close (hd : d ≤ 6) (h1d : 1 ≤ d) (g : GM X lo hi M0 C (P ++ 14 :: W) (d + 1) tst z j) (b : BD X C (P ++ 14 :: W) j) (hp : ∀ a ∈ P, a < 14) (hk : tk X j = 41) (k : ∀ r, GM X lo hi M0 (C ++ P) W d tst r (j + 1) → BD X (C ++ P) W (j + 1) → RT (f_X12_expression_L39 n 1 r) Q) : RT (f_X12_expression_L39 (n + 1) 1 z) Q := by
  have hw : tw X j = 16 := tk_tw (by omega)
  have w9 := b.w9 g
  have n9 := g.n
  refine ev_out (by omega) g (by omega) (by omega) (fun e => by omega) (by omega) ?_
  rw [show (41 : Int32) = nI 41 from rfl, g.sgT (c := 41) rfl hk, ob_some]
  refine RT.itF (show ¬ nI 1 = 0 by decide) ?_
  have op : f_X12_isOpened z = some 1 := by
    unfold f_X12_isOpened
    rw [bnd_nr, g.2.2.2.2.2.1.1]
    exact m_open P FUEL z rfl g.2.2.2.2.2.1.2 hp (by have := b.2.1; have := b.2.2; omega) (by have : (P ++ 14 :: W).length = P.length + (W.length + 1) := List.length_append; unfold FUEL; omega)
  rw [op, ob_some]
  refine RT.itF (by decide) ?_
  unfold f_X12_closes
  rw [Option.bind_assoc]
  refine RT.bind (m_drops (k := 0) (P := P) (W := 14 :: W) (by omega) g b (fun a ha => ⟨Nat.zero_le _, hp a ha⟩) (Or.inl (by omega))) (fun r ⟨r1, r2⟩ => ?_)
  rw [bnd_nr, bnd_nr, Option.bind_assoc]
  obtain ⟨g1, g2, g3, g4, g5, g6, g7, g8⟩ := r1
  have e27 : r.1 27 - 1 = nI W.length := by rw [g6.1]; exact nI_pred _
  have e28 : r.1 28 - 1 = nI d := by rw [g7.1]; exact nI_pred _
  have gg9 : GM X lo hi M0 (C ++ P) W d tst ((upd (upd r.1 27 (r.1 27 - 1)) 28 (upd r.1 27 (r.1 27 - 1) 28 - 1), r.2) : MS) j := by
    refine ⟨⟨?_, g1.2.1, g1.2.2⟩, ⟨?_, ?_, ?_, ?_, fun h => ?_, fun h => ?_, g2.2.2.2.2.2.2⟩, ?_, ⟨?_, ?_⟩, ⟨?_, g5.2⟩, ⟨?_, g6.2.2⟩, ⟨?_, fun i i1 hi => g7.2 i i1 (by omega)⟩, ⟨fun k h1 h2 h3 h4 => ?_, g8.2⟩⟩
    · simp (disch := omega) only [pk_us, pk_un]; exact g1.1
    · simp (disch := omega) only [pk_us, pk_un]; exact g2.1
    · simp (disch := omega) only [pk_us, pk_un]; exact g2.2.1
    · simp (disch := omega) only [pk_us, pk_un]; exact g2.2.2.1
    · simp (disch := omega) only [pk_us, pk_un]; exact g2.2.2.2.1
    · simp (disch := omega) only [pk_us, pk_un]; exact g2.2.2.2.2.1 h
    · simp (disch := omega) only [pk_us, pk_un]; exact g2.2.2.2.2.2.1 h
    · simp (disch := omega) only [pk_us, pk_un]; exact g3
    · simp (disch := omega) only [pk_us, pk_un]; exact g4.1
    · simp (disch := omega) only [pk_us, pk_un]; exact g4.2
    · simp (disch := omega) only [pk_us, pk_un]; exact g5.1
    · simp (disch := omega) only [pk_us, pk_un]; exact e27
    · simp (disch := omega) only [pk_us, pk_un]; exact e28
    · simp (disch := omega) only [pk_us, pk_un]; exact g8.1 k h1 h2 h3 h4
  refine RT.bind (m_take gg9) (fun s hs9 => ?_)
  rw [ob_some]
  have tj := tk_j (X := X) (j := j) (by omega)
  obtain ⟨b1, b2, b3⟩ := r2
  have b1 : (C ++ P).length + (W.length + 1) + 2 ≤ 2 * j := b1
  have b2 : W.length + 1 < j := b2
  exact k s hs9 ⟨by omega, by omega, by omega⟩
/-- a rule ends well -/
theorem ev_top (g : GM X lo hi M0 C P 1 tst z j) (b : BD X C P j) (hp : ∀ a ∈ P, a < 14) (h1 : tw X j ≠ 13) (h2 : tw X j ≠ 14) (h3 : (tk X j = 60 ∨ tk X j = 61) → tst 1 = true) (h4 : tk X j ≠ 43 ∧ tk X j ≠ 45 ∧ tk X j ≠ 42 ∧ tk X j ≠ 47) (hn : 2 ≤ n) (hQ : ∀ r, GM X lo hi M0 (C ++ P ++ [0]) [] 1 tst r j → (C ++ P ++ [0]).length + 1 ≤ 2 * j → Q r) : RT (f_X12_expression_L39 n 1 z) Q := by
  obtain ⟨k, rfl⟩ : ∃ k, n = k + 1 + 1 := ⟨n - 2, by omega⟩
  have n9 := g.n
  have fin : RT (f_X12_expression_L39 (k + 1) 0 z) Q := by
    unfold f_X12_expression_L39
    refine RT.itT rfl ?_
    unfold f_X12_expression_J340
    rw [g.good, ob_some]
    refine RT.itF (show ¬ nI 1 = 0 by decide) ?_
    rw [g.2.2.2.2.2.2.1.1]
    refine RT.itT (show nI 1 ≤ nI 1 by decide) ?_
    unfold f_X12_expression_J360
    have g0 : GM X lo hi M0 C (P ++ []) 1 tst z j := by rw [List.append_nil]; exact g
    have b0 : BD X C (P ++ []) j := by rw [List.append_nil]; exact b
    refine RT.bind (m_drops (k := 0) (P := P) (W := []) (by omega) g0 b0 (fun a ha => ⟨Nat.zero_le _, hp a ha⟩) trivial) (fun r ⟨r1, r2⟩ => ?_)
    have r3 : (C ++ P).length + 0 + 2 ≤ 2 * j := r2.1
    have r4 := r2.2.2
    refine RT.bind (m_puts (a := 0) r1 (by omega)) (fun s ⟨s1, _⟩ => RT.ret (hQ s s1 ?_))
    rw [List.length_append (as := C ++ P)]
    show (C ++ P).length + 1 + 1 ≤ _
    omega
  refine ev_out (by omega) g h1 h2 h3 h4 ?_
  rw [show (41 : Int32) = nI 41 from rfl]
  by_cases e : tk X j = 41
  · rw [g.sgT (c := 41) rfl e, ob_some]
    refine RT.itF (show ¬ nI 1 = 0 by decide) ?_
    have op : f_X12_isOpened z = some 0 := by
      unfold f_X12_isOpened
      rw [bnd_nr, g.2.2.2.2.2.1.1]
      exact m_shut P FUEL z rfl g.2.2.2.2.2.1.2 hp (by have := b.2.1; have := b.2.2; omega) (by have := b.2.1; have := b.2.2; unfold FUEL; omega)
    rw [op, ob_some]
    exact RT.itT rfl fin
  · rw [g.sgF (c := 41) rfl e, ob_some]
    exact RT.itT rfl fin
end EVS
