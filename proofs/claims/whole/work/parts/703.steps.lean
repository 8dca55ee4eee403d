/-! rules as lists of steps; codes; stacks of what waits -/
def hrun (h : Nat) : List Nat → Nat | [] => h | c :: L => hrun (hs h c) L
def okL (h : Nat) : List Nat → Prop | [] => True | c :: L => okc h c ∧ okL (hs h c) L
theorem hrun_app {A B : List Nat} : ∀ {h : Nat}, hrun h (A ++ B) = hrun (hrun h A) B := by
  induction A with
  | nil => intro h; rfl
  | cons c A ih => intro h; exact ih
theorem okL_app {A B : List Nat} : ∀ {h : Nat}, okL h (A ++ B) ↔ okL h A ∧ okL (hrun h A) B := by
  induction A with
  | nil => intro h; exact ⟨fun x => ⟨trivial, x⟩, fun x => x.2⟩
  | cons c A ih =>
    intro h
    constructor
    · intro ⟨a, b⟩
      exact ⟨⟨a, (ih.mp b).1⟩, (ih.mp b).2⟩
    · intro ⟨⟨a, b⟩, c9⟩
      exact ⟨a, ih.mpr ⟨b, c9⟩⟩
def vok (lo hi c : Nat) : Prop := c < 20125 ∧ (10000 ≤ c → c < 20000 → lo + 10000 ≤ c ∧ c ≤ hi + 10000)
def cof (L : List Nat) : Nat → Nat := fun i => L.getD i 0
theorem cof_s {L : List Nat} {c : Nat} : cof (L ++ [c]) L.length = c := by
  unfold cof
  rw [List.getD_eq_getElem?_getD, List.getElem?_append_right (Nat.le_refl _), Nat.sub_self]
  rfl
theorem cof_l {L K : List Nat} {i : Nat} (h : i < L.length) : cof (L ++ K) i = cof L i := by
  unfold cof
  rw [List.getD_eq_getElem?_getD, List.getD_eq_getElem?_getD, List.getElem?_append_left h]
theorem cof_mem {L : List Nat} {i : Nat} (h : i < L.length) : cof L i ∈ L := by
  unfold cof
  rw [List.getD_eq_getElem?_getD, List.getElem?_eq_getElem h]
  exact List.getElem_mem h
theorem hh_cof {L : List Nat} : ∀ i, i ≤ L.length → hh (cof L) i = hrun 0 (L.take i)
  | 0, _ => rfl
  | i + 1, h => by
    have ih := hh_cof (L := L) i (by omega)
    rw [hh, ih, List.take_add_one, List.getElem?_eq_getElem (by omega), hrun_app]
    unfold cof
    rw [List.getD_eq_getElem?_getD, List.getElem?_eq_getElem (by omega)]
    rfl
theorem okL_at {L : List Nat} {h : Nat} (o : okL h L) {i : Nat} (hi : i < L.length) : okc (hrun h (L.take i)) (cof L i) := by
  have e : L = L.take i ++ (cof L i :: L.drop (i + 1)) := by
    unfold cof
    rw [List.getD_eq_getElem?_getD, List.getElem?_eq_getElem hi]
    show L = L.take i ++ (L[i] :: L.drop (i + 1))
    rw [← List.drop_eq_getElem_cons hi, List.take_append_drop]
  have o2 : okL h (L.take i ++ (cof L i :: L.drop (i + 1))) := by rw [← e]; exact o
  exact (okL_app.mp o2).2.1
theorem RUok_of {L : List Nat} {lo hi : Nat} (hl : L.length ≤ 700) (o : okL 0 L) (h1 : hrun 0 L = 1) (v : ∀ c ∈ L, vok lo hi c) : RUok (true, cof L, L.length) lo hi := by
  intro _
  refine ⟨hl, ?_, fun i hi9 => ?_⟩
  · show hh (cof L) L.length = 1
    rw [hh_cof _ (Nat.le_refl _), List.take_length]; exact h1
  · show okc (hh (cof L) i) (cof L i) ∧ _
    have hi8 : i < L.length := hi9
    rw [hh_cof i (by omega)]
    exact ⟨okL_at o hi8, (v _ (cof_mem hi8)).1, (v _ (cof_mem hi8)).2⟩
/-! the class's rule -/
def RS (R : Ob) (L : List Nat) : Prop := R.1 1 = nI L.length ∧ ∀ i, i < L.length → R.2 1 i = nI (cof L i)
def RF (R : Ob) : Prop := ∃ l, l ≤ 700 ∧ R.1 1 = nI l
theorem RS.rf {R : Ob} {L : List Nat} (r : RS R L) (h : L.length ≤ 700) : RF R := ⟨L.length, h, r.1⟩
theorem c_add {R : Ob} {L : List Nat} {c : Nat} (r : RS R L) (h : L.length < 700) : RT (f_X7_add R (nI c)) (fun q => RS q (L ++ [c]) ∧ q.1 0 = R.1 0) := by
  unfold f_X7_add
  rw [r.1]
  refine RT.itF (show ¬ nI 700 ≤ nI L.length from nI_ge h (by omega)) ?_
  rw [sx_grd h (by omega), sx_clamp (by omega), bnd_nr, bnd_nr]
  refine RT.ret ⟨⟨?_, fun i hi => ?_⟩, ?_⟩
  · show upd R.1 1 (R.1 1 + 1) 1 = _
    rw [pk_us, r.1, nI_1, List.length_append]; rfl
  · show uA R.2 1 L.length (nI c) 1 i = _
    rw [List.length_append] at hi
    have hi : i < L.length + 1 := hi
    by_cases e : i = L.length
    · rw [e, uA_ss, cof_s]
    · rw [uA_sn e, cof_l (by omega)]; exact r.2 i (by omega)
  · show upd R.1 1 (R.1 1 + 1) 0 = _
    rw [pk_un (by omega)]
theorem c_addF {R : Ob} {x : Int32} (r : RF R) : RT (f_X7_add R x) (fun q => RF q ∧ q.1 0 = R.1 0) := by
  obtain ⟨l, hl, e⟩ := r
  unfold f_X7_add
  rw [e]
  by_cases h : l = 700
  · exact RT.itT (show nI 700 ≤ nI l from nI_le (by omega) (by omega)) (RT.ret ⟨⟨l, hl, e⟩, rfl⟩)
  · refine RT.itF (show ¬ nI 700 ≤ nI l from nI_ge (by omega) (by omega)) ?_
    rw [sx_grd (by omega) (by omega), bnd_nr, bnd_nr]
    refine RT.ret ⟨⟨l + 1, by omega, ?_⟩, ?_⟩
    · show upd R.1 1 (R.1 1 + 1) 1 = _
      rw [pk_us, e, nI_1]
    · show upd R.1 1 (R.1 1 + 1) 0 = _
      rw [pk_un (by omega)]
/-! the reference's code -/
def en1 (c : Nat) : List Nat := if c < 10000 then [1, c] else if c < 20000 then [2, c - 10000] else [mop c]
def enc : List Nat → List Nat | [] => [] | c :: L => en1 c ++ enc L
theorem enc_app {A B : List Nat} : enc (A ++ B) = enc A ++ enc B := by
  induction A with
  | nil => rfl
  | cons c A ih =>
    show en1 c ++ enc (A ++ B) = en1 c ++ enc A ++ enc B
    rw [ih, List.append_assoc]
theorem enc_1 {c : Nat} : enc [c] = en1 c := List.append_nil _
def cdl (A : Nat → Int32) (C : List Nat) : Prop := ∀ i, i < C.length → A i = nI (cof C i)
theorem cdl_push {A : Nat → Int32} {C : List Nat} {c : Nat} (h : cdl A C) : cdl (upd A C.length (nI c)) (C ++ [c]) := by
  intro i hi
  rw [List.length_append] at hi
  have hi : i < C.length + 1 := hi
  by_cases e : i = C.length
  · rw [e, pk_us, cof_s]
  · rw [pk_un e, cof_l (by omega)]; exact h i (by omega)
theorem cdl_pre {A : Nat → Int32} {C D : List Nat} (h : cdl A (C ++ D)) : cdl A C := fun i hi => by
  rw [h i (by rw [List.length_append]; omega), cof_l hi]
theorem cof_r {C D : List Nat} {i : Nat} : cof (C ++ D) (C.length + i) = cof D i := by
  unfold cof
  rw [List.getD_eq_getElem?_getD, List.getD_eq_getElem?_getD, List.getElem?_append_right (by omega), Nat.add_sub_cancel_left]
theorem cof_p0 (a b : Nat) (T : List Nat) : cof ([a, b] ++ T) 0 = a := rfl
theorem cof_p1 (a b : Nat) (T : List Nat) : cof ([a, b] ++ T) 1 = b := rfl
theorem cof_q0 (a : Nat) (T : List Nat) : cof ([a] ++ T) 0 = a := rfl
theorem mop_1 {c : Nat} (h : c < 10000) : mop c = 1 := by unfold mop; rw [if_pos h]
theorem mop_2 {c : Nat} (h : ¬ c < 10000) (h2 : c < 20000) : mop c = 2 := by unfold mop; rw [if_neg h, if_pos h2]
/-- a rule's code, as reckons reads it -/
theorem RM_of {A : Nat → Int32} {C L : List Nat} (hl : (C ++ enc L).length < 1400) (h : cdl A (C ++ enc L ++ [0])) : RM A (cof L) L.length C.length := by
  have psl : ∀ i, i ≤ L.length → ps (cof L) C.length i = (C ++ enc (L.take i)).length := by
    intro i
    induction i with
    | zero => intro _; show C.length = (C ++ enc []).length; rw [show enc [] = [] from rfl, List.append_nil]
    | succ i ih =>
      intro hi
      have e : L.take (i + 1) = L.take i ++ [cof L i] := by
        unfold cof
        rw [List.take_add_one, List.getD_eq_getElem?_getD, List.getElem?_eq_getElem (by omega)]
        rfl
      rw [ps, ih (by omega), e, enc_app, enc_1]
      unfold en1
      by_cases q1 : cof L i < 10000
      · rw [if_pos (show cof L i < 20000 by omega), if_pos q1, ← List.append_assoc, List.length_append (bs := [1, cof L i])]; rfl
      · rw [if_neg q1]
        by_cases q2 : cof L i < 20000
        · rw [if_pos q2, if_pos q2, ← List.append_assoc, List.length_append (bs := [2, cof L i - 10000])]; rfl
        · rw [if_neg q2, if_neg q2, ← List.append_assoc, List.length_append (bs := [mop (cof L i)])]; rfl
  have el : (C ++ enc L).length = ps (cof L) C.length L.length := by rw [psl _ (Nat.le_refl _), List.take_length]
  refine ⟨by rw [← el]; exact hl, ?_, fun i hi => ?_⟩
  · rw [← el, h _ (by rw [List.length_append (as := C ++ enc L)]; exact Nat.lt_succ_self _), cof_s]; rfl
  · have e2 : C ++ enc L ++ [0] = (C ++ enc (L.take i)) ++ (en1 (cof L i) ++ (enc (L.drop (i + 1)) ++ [0])) := by
      have e3 : L = L.take i ++ (cof L i :: L.drop (i + 1)) := by
        unfold cof
        rw [List.getD_eq_getElem?_getD, List.getElem?_eq_getElem hi]
        show L = L.take i ++ (L[i] :: L.drop (i + 1))
        rw [← List.drop_eq_getElem_cons hi, List.take_append_drop]
      have e4 : enc L = enc (L.take i) ++ (en1 (cof L i) ++ enc (L.drop (i + 1))) := by
        conv => lhs; rw [e3]
        rw [enc_app]; rfl
      rw [e4]
      simp only [List.append_assoc]
    rw [e2] at h
    rw [psl i (by omega)]
    unfold en1 at h
    by_cases q1 : cof L i < 10000
    · rw [if_pos q1] at h
      have a := h (C ++ enc (L.take i)).length (by simp only [List.length_append, List.length_cons]; omega)
      have b := h ((C ++ enc (L.take i)).length + 1) (by simp only [List.length_append, List.length_cons]; omega)
      rw [show cof (C ++ enc (L.take i) ++ ([1, cof L i] ++ (enc (L.drop (i + 1)) ++ [0]))) (C ++ enc (L.take i)).length = cof ([1, cof L i] ++ (enc (L.drop (i + 1)) ++ [0])) 0 from cof_r (i := 0), cof_p0] at a
      rw [cof_r, cof_p1] at b
      refine ⟨?_, fun _ => ?_⟩
      · rw [mop_1 q1]; exact a
      · rw [if_pos q1]; exact b
    · rw [if_neg q1] at h
      by_cases q2 : cof L i < 20000
      · rw [if_pos q2] at h
        have a := h (C ++ enc (L.take i)).length (by simp only [List.length_append, List.length_cons]; omega)
        have b := h ((C ++ enc (L.take i)).length + 1) (by simp only [List.length_append, List.length_cons]; omega)
        rw [show cof (C ++ enc (L.take i) ++ ([2, cof L i - 10000] ++ (enc (L.drop (i + 1)) ++ [0]))) (C ++ enc (L.take i)).length = cof ([2, cof L i - 10000] ++ (enc (L.drop (i + 1)) ++ [0])) 0 from cof_r (i := 0), cof_p0] at a
        rw [cof_r, cof_p1] at b
        refine ⟨?_, fun _ => ?_⟩
        · rw [mop_2 q1 q2]; exact a
        · rw [if_neg q1]; exact b
      · rw [if_neg q2] at h
        have a := h (C ++ enc (L.take i)).length (by simp only [List.length_append, List.length_cons]; omega)
        rw [show cof (C ++ enc (L.take i) ++ ([mop (cof L i)] ++ (enc (L.drop (i + 1)) ++ [0]))) (C ++ enc (L.take i)).length = cof ([mop (cof L i)] ++ (enc (L.drop (i + 1)) ++ [0])) 0 from cof_r (i := 0), cof_q0] at a
        exact ⟨a, fun z => absurd z q2⟩
/-! what waits: the head is the last -/
def stk (A : Nat → Int32) : List Nat → Prop | [] => True | a :: W => (A W.length = nI a ∧ a < 32) ∧ stk A W
theorem stk_up {A : Nat → Int32} {x : Int32} : ∀ {W : List Nat} {i : Nat}, W.length ≤ i → stk A W → stk (upd A i x) W
  | [], _, _, _ => trivial
  | a :: W, i, h, s => by
    have h : W.length + 1 ≤ i := h
    exact ⟨⟨by rw [pk_un (by omega)]; exact s.1.1, s.1.2⟩, stk_up (by omega) s.2⟩
theorem stk_push {A : Nat → Int32} {W : List Nat} {a : Nat} (ha : a < 32) (s : stk A W) : stk (upd A W.length (nI a)) (a :: W) := ⟨⟨pk_us, ha⟩, stk_up (Nat.le_refl _) s⟩
def str (a : Nat) : Nat := if a = 5 then 1 else if a = 4 then 2 else if a = 3 then 3 else if a = 6 then 4 else if a = 7 then 4 else if a = 8 then 5 else if a = 9 then 5 else 6
theorem str_le (a : Nat) : str a ≤ 6 := by
  unfold str
  repeat' split
  all_goals omega
theorem m_strength : ∀ a, a < 32 → f_X12_strength (nI a) = some (nI (str a)) := by decide +kernel
theorem m_isOpen {a : Nat} (h : a < 32) : f_X12_isOpen (nI a) = some (nI (if a < 14 then 0 else 1)) := by
  unfold f_X12_isOpen
  rw [show (14 : Int32) = nI 14 from rfl]
  simp only [sx_lt (a := a) (b := 14) (by omega) (by omega)]
  by_cases z : a < 14
  · rw [if_pos z, if_pos z]; rfl
  · rw [if_neg z, if_neg z]; rfl
/-- the last one that waits is an open one, or weaker -/
def TL (W : List Nat) (k : Nat) : Prop := match W with | [] => True | a :: _ => 14 ≤ a ∨ str a < k
theorem TL.mono {W : List Nat} {k l : Nat} (h : TL W k) (hk : k ≤ l) : TL W l := by
  cases W with
  | nil => trivial
  | cons a W =>
    rcases h with h | h
    · exact Or.inl h
    · exact Or.inr (by omega)
