section WAB
variable {p : Program} {l : Launch} {e : Env} {R : Room} {s : State} {m : MethodId} {args : Array Value} {below : List Frame} {meth : Method} {c : Code} {Q : State → Prop} {D : va_G} {A : Nat → Prop} {dT : Nat → ClassId} {cells slots nL pc : Nat} {ws ws' : List va_W} {lv lv' : List (Nat × Value)} {st : List Value} {cc : ByteArray} {own : String} {ret : Option FieldType}
/-- the array classes of the worlds -/
def tyL (dT : Nat → ClassId) : List (ClassId × FieldType) := [(dT 0, .int), (dT 1, .long), (dT 2, .byte), (dT 3, .boolean), (dT 4, .object "NewHouses$Village")]
/-- a walk's surroundings -/
def Cx (p : Program) (s : State) (m : MethodId) (args : Array Value) (meth : Method) (c : Code) (cc : ByteArray) (nL : Nat) (own : String) (ret : Option FieldType) (D : va_G) (A : Nat → Prop) (dT : Nat → ClassId) : Prop :=
  p.tables.exec = Jvm.exec ∧ c.code = cc ∧ c.maxLocals = nL ∧ s.vm.findClass own = some m.cls ∧ (∀ w ∈ lw_good, w.before args s = true) ∧ va_K D vwCl (tyL dT) s ∧ (∀ q, s.heap.size ≤ q → A q) ∧ meth.sig.returnType = ret ∧ meth.locks = false
/-! worlds as lists of blocks -/
def bP (D : va_G) (bs : List va_W) (H : Heap) : Prop := va_P D vwCl bs.flatten H
def bD (A : Nat → Prop) (bs : List va_W) : Prop := va_D A bs.flatten
def bA (bs : List va_W) (sz : Nat) : Nat → Prop := va_A bs.flatten sz
theorem vP_mem {w : va_W} {H : Heap} : va_P D vwCl w H ↔ ∀ q ∈ w, va_at D vwCl q H := by
  constructor
  · intro h q hq
    obtain ⟨k, hk⟩ := List.mem_iff_getElem?.mp hq
    exact h k q hk
  · intro h k q hk
    exact h q (List.mem_of_getElem? hk)
theorem vD_mem {w : va_W} : va_D A w ↔ w.Pairwise (fun x y => x.1 ≠ y.1) ∧ ∀ q ∈ w, A q.1 := by
  constructor
  · intro h
    refine ⟨List.pairwise_iff_getElem.mpr (fun i j hi hj hij e9 => ?_), fun q hq => ?_⟩
    · have := h.1 i j w[i] w[j] (List.getElem?_eq_getElem hi) (List.getElem?_eq_getElem hj) e9
      omega
    · obtain ⟨k, hk⟩ := List.mem_iff_getElem?.mp hq
      exact h.2 k q hk
  · intro h
    refine ⟨fun i j x y hx hy e9 => ?_, fun k q hk => h.2 q (List.mem_of_getElem? hk)⟩
    obtain ⟨hi, rfl⟩ := List.getElem?_eq_some_iff.mp hx
    obtain ⟨hj, rfl⟩ := List.getElem?_eq_some_iff.mp hy
    have h1 := List.pairwise_iff_getElem.mp h.1
    rcases Nat.lt_trichotomy i j with q | q | q
    · exact absurd e9 (h1 i j hi hj q)
    · exact q
    · exact absurd e9.symm (h1 j i hj hi q)
theorem bP_mem {bs : List va_W} {H : Heap} : bP D bs H ↔ ∀ w ∈ bs, va_P D vwCl w H := by
  unfold bP
  rw [vP_mem]
  constructor
  · intro h w hw
    exact vP_mem.mpr (fun q hq => h q (List.mem_flatten.mpr ⟨w, hw, hq⟩))
  · intro h q hq
    obtain ⟨w, hw, hq⟩ := List.mem_flatten.mp hq
    exact vP_mem.mp (h w hw) q hq
def bN (x y : va_W) : Prop := ∀ u ∈ x, ∀ v ∈ y, u.1 ≠ v.1
theorem bN.symm {x y : va_W} (h : bN x y) : bN y x := fun u hu v hv e9 => h v hv u hu e9.symm
theorem bD_mem {bs : List va_W} : bD A bs ↔ (∀ w ∈ bs, va_D A w) ∧ bs.Pairwise bN := by
  unfold bD
  rw [vD_mem, List.pairwise_flatten]
  constructor
  · intro h
    exact ⟨fun w hw => vD_mem.mpr ⟨h.1.1 w hw, fun q hq => h.2 q (List.mem_flatten.mpr ⟨w, hw, hq⟩)⟩, h.1.2⟩
  · intro h
    refine ⟨⟨fun w hw => (vD_mem.mp (h.1 w hw)).1, h.2⟩, fun q hq => ?_⟩
    obtain ⟨w, hw, hq⟩ := List.mem_flatten.mp hq
    exact (vD_mem.mp (h.1 w hw)).2 q hq
theorem bD_apart {bs : List va_W} (h : bD A bs) {i j : Nat} {x y : va_W} (hx : bs[i]? = some x) (hy : bs[j]? = some y) (hij : i ≠ j) : bN x y := by
  obtain ⟨hi, rfl⟩ := List.getElem?_eq_some_iff.mp hx
  obtain ⟨hj, rfl⟩ := List.getElem?_eq_some_iff.mp hy
  have h1 := List.pairwise_iff_getElem.mp (bD_mem.mp h).2
  rcases Nat.lt_trichotomy i j with q | q | q
  · exact h1 i j hi hj q
  · exact absurd q hij
  · exact (h1 j i hj hi q).symm
/-- bs' are the blocks of bs at the places is -/
def bsub (is : List Nat) (bs bs' : List va_W) : Prop := is.map (fun i => bs[i]?) = bs'.map some
theorem bsub.at {is : List Nat} {bs bs' : List va_W} (h : bsub is bs bs') {k : Nat} {x : va_W} (hk : bs'[k]? = some x) : ∃ i, is[k]? = some i ∧ bs[i]? = some x := by
  have h1 : (is.map (fun i => bs[i]?))[k]? = some (some x) := by rw [h, List.getElem?_map, hk]; rfl
  rw [List.getElem?_map] at h1
  cases hi : is[k]? with
  | none => rw [hi] at h1; cases h1
  | some i => rw [hi] at h1; exact ⟨i, rfl, Option.some.inj h1⟩
theorem bP.cut {bs bs' : List va_W} {H : Heap} (h : bP D bs H) {is : List Nat} (hs : bsub is bs bs') : bP D bs' H := bP_mem.mpr (fun w hw => by
  obtain ⟨k, hk⟩ := List.mem_iff_getElem?.mp hw
  obtain ⟨i, -, hi⟩ := hs.at hk
  exact bP_mem.mp h w (List.mem_of_getElem? hi))
theorem b_nd_inj : ∀ {is : List Nat}, va_nd is = true → ∀ {a b i : Nat}, is[a]? = some i → is[b]? = some i → a = b := by
  intro is
  induction is with
  | nil => intro _ a b i h; cases h
  | cons x l ih =>
    intro hn a b i ha hb
    have hx : x ∉ l ∧ va_nd l = true := by
      simp only [va_nd, Bool.and_eq_true] at hn
      refine ⟨fun hm => ?_, hn.2⟩
      have h1 := hn.1
      simp [List.contains_iff_mem, hm] at h1
    cases a with
    | zero =>
      cases b with
      | zero => rfl
      | succ b =>
        simp only [List.getElem?_cons_zero, List.getElem?_cons_succ] at ha hb
        cases ha
        exact absurd (List.mem_of_getElem? hb) hx.1
    | succ a =>
      cases b with
      | zero =>
        simp only [List.getElem?_cons_zero, List.getElem?_cons_succ] at ha hb
        cases hb
        exact absurd (List.mem_of_getElem? ha) hx.1
      | succ b =>
        simp only [List.getElem?_cons_succ] at ha hb
        rw [ih hx.2 ha hb]
theorem bD.cut {bs bs' : List va_W} (h : bD A bs) {is : List Nat} (hn : va_nd is = true) (hs : bsub is bs bs') : bD A bs' := by
  refine bD_mem.mpr ⟨fun w hw => ?_, List.pairwise_iff_getElem.mpr (fun a b ha hb hab => ?_)⟩
  · obtain ⟨k, hk⟩ := List.mem_iff_getElem?.mp hw
    obtain ⟨i, -, hi⟩ := hs.at hk
    exact (bD_mem.mp h).1 w (List.mem_of_getElem? hi)
  · obtain ⟨i, hi, hi2⟩ := hs.at (List.getElem?_eq_getElem ha)
    obtain ⟨j, hj, hj2⟩ := hs.at (List.getElem?_eq_getElem hb)
    refine bD_apart h hi2 hj2 (fun e9 => ?_)
    subst e9
    have := b_nd_inj hn hi hj
    omega
theorem bD.weaken {B : Nat → Prop} {bs : List va_W} (h : bD A bs) (hAB : ∀ q, A q → B q) : bD B bs := va_D.weaken h (fun _ q _ h9 => hAB q.1 h9)
theorem bA_mem {bs : List va_W} {sz q : Nat} : bA bs sz q ↔ (∃ w ∈ bs, ∃ x ∈ w, x.1 = q) ∨ sz ≤ q := by
  unfold bA va_A
  constructor
  · intro h
    rcases h with ⟨k, e9, hk⟩ | h
    · obtain ⟨w, hw, hq⟩ := List.mem_flatten.mp (List.mem_of_getElem? hk)
      exact Or.inl ⟨w, hw, _, hq, rfl⟩
    · exact Or.inr h
  · intro h
    rcases h with ⟨w, hw, x, hx, rfl⟩ | h
    · obtain ⟨k, hk⟩ := List.mem_iff_getElem?.mp (List.mem_flatten.mpr ⟨w, hw, hx⟩)
      exact Or.inl ⟨k, x.2, hk⟩
    · exact Or.inr h
theorem bA_free {bs bsC : List va_W} {H0 H : Heap} {locs : List Loc} (hD : bD A bs) (hS : va_S A H0 H locs) (hA : ∀ q, H0.size ≤ q → A q) {is : List Nat} (hs : bsub is bs bsC) : ∀ q, bA bsC H.size q → A q := by
  intro q h
  rcases bA_mem.mp h with ⟨w, hw, x, hx, rfl⟩ | h
  · obtain ⟨k, hk⟩ := List.mem_iff_getElem?.mp hw
    obtain ⟨i, -, hi⟩ := hs.at hk
    exact (vD_mem.mp ((bD_mem.mp hD).1 w (List.mem_of_getElem? hi))).2 x hx
  · exact hA q (Nat.le_trans hS.1 h)
/-- behind a call -/
theorem b_join {A0 : Nat → Prop} {bs bsC bsR bs1 : List va_W} {H H1 : Heap} (hP : bP D bs H) (hD : bD A0 bs) {isC isR : List Nat} (hC : bsub isC bs bsC) (hR : bsub isR bs bsR) (hnR : va_nd isR = true) (hdis : ∀ i ∈ isR, i ∉ isC)
    (hk : ∀ q : Nat, q < H.size → ¬ bA bsC H.size q → H1[q]? = H[q]?) (hF : ∀ q, bA bsC H.size q → A0 q) (hP1 : bP D bs1 H1) (hD1 : bD (bA bsC H.size) bs1) : bP D (bsR ++ bs1) H1 ∧ bD A0 (bsR ++ bs1) := by
  have hPR := hP.cut hR
  have apart : ∀ w ∈ bsR, ∀ x ∈ w, x.1 < H.size ∧ ¬ bA bsC H.size x.1 := by
    intro w hw x hx
    have hat := vP_mem.mp (bP_mem.mp hPR w hw) x hx
    refine ⟨hat.lt, fun h => ?_⟩
    rcases bA_mem.mp h with ⟨w2, hw2, y, hy, exy⟩ | h
    · obtain ⟨k, hk9⟩ := List.mem_iff_getElem?.mp hw
      obtain ⟨i, hi, hi2⟩ := hR.at hk9
      obtain ⟨k2, hk2⟩ := List.mem_iff_getElem?.mp hw2
      obtain ⟨j, hj, hj2⟩ := hC.at hk2
      have hij : i ≠ j := fun e9 => by
        subst e9
        exact hdis i (List.mem_of_getElem? hi) (List.mem_of_getElem? hj)
      exact bD_apart hD hi2 hj2 hij x hx y hy exy.symm
    · exact absurd hat.lt (Nat.not_lt.mpr h)
  constructor
  · refine bP_mem.mpr (fun w hw => ?_)
    rcases List.mem_append.mp hw with hw | hw
    · refine vP_mem.mpr (fun x hx => ?_)
      obtain ⟨h1, h2⟩ := apart w hw x hx
      exact (vP_mem.mp (bP_mem.mp hPR w hw) x hx).kept (hk x.1 h1 h2)
    · exact bP_mem.mp hP1 w hw
  · have hDR := hD.cut hnR hR
    refine bD_mem.mpr ⟨fun w hw => ?_, ?_⟩
    · rcases List.mem_append.mp hw with hw | hw
      · exact (bD_mem.mp hDR).1 w hw
      · exact ((bD_mem.mp hD1).1 w hw).weaken (fun _ q _ h9 => hF q.1 h9)
    · refine List.pairwise_append.mpr ⟨(bD_mem.mp hDR).2, (bD_mem.mp hD1).2, fun x hx y hy u hu v hv e9 => ?_⟩
      have h1 := (apart x hx u hu).2
      have h2 := (vD_mem.mp ((bD_mem.mp hD1).1 y hy)).2 v hv
      rw [← e9] at h2
      exact h1 h2
/-- a cell of a block, in the whole -/
def bix (bs : List va_W) (b q : Nat) : Nat := (bs.take b).flatten.length + q
theorem flat_get {bs : List va_W} {b q : Nat} {w : va_W} {x : Nat × va_E} (hb : bs[b]? = some w) (hq : w[q]? = some x) : bs.flatten[bix bs b q]? = some x := by
  induction bs generalizing b with
  | nil => cases hb
  | cons y l ih =>
    cases b with
    | zero =>
      simp only [List.getElem?_cons_zero] at hb
      cases hb
      have hlt : q < w.length := (List.getElem?_eq_some_iff.mp hq).1
      unfold bix
      simp only [List.take_zero, List.flatten_nil, List.length_nil, Nat.zero_add, List.flatten_cons]
      rw [List.getElem?_append_left hlt]; exact hq
    | succ b =>
      simp only [List.getElem?_cons_succ] at hb
      have h1 := ih hb
      unfold bix at h1 ⊢
      simp only [List.take_succ_cons, List.flatten_cons, List.length_append]
      rw [List.getElem?_append_right (by omega), show y.length + (l.take b).flatten.length + q - y.length = (l.take b).flatten.length + q by omega]
      exact h1
theorem flat_set {bs : List va_W} {b q : Nat} {w : va_W} {x : Nat × va_E} (hb : bs[b]? = some w) (hq : q < w.length) : bs.flatten.set (bix bs b q) x = (bs.set b (w.set q x)).flatten := by
  induction bs generalizing b with
  | nil => cases hb
  | cons y l ih =>
    cases b with
    | zero =>
      simp only [List.getElem?_cons_zero] at hb
      cases hb
      unfold bix
      simp only [List.take_zero, List.flatten_nil, List.length_nil, Nat.zero_add, List.flatten_cons, List.set_cons_zero]
      rw [List.set_append_left _ _ hq]
    | succ b =>
      simp only [List.getElem?_cons_succ] at hb
      have h1 := ih hb
      unfold bix at h1 ⊢
      simp only [List.take_succ_cons, List.flatten_cons, List.length_append, List.set_cons_succ]
      rw [List.set_append_right _ _ (by omega), show y.length + (l.take b).flatten.length + q - y.length = (l.take b).flatten.length + q by omega, h1]
/-- a point of a walk -/
def WA (p : Program) (l : Launch) (e : Env) (R : Room) (s : State) (m : MethodId) (args : Array Value) (below : List Frame) (meth : Method) (c : Code) (Q : State → Prop) (D : va_G) (A : Nat → Prop) (cells slots nL : Nat) (pc : Nat) (ws : List va_W) (lv : List (Nat × Value)) (st : List Value) : Prop :=
  ∀ (H : Heap) (locs : List Loc) (ls : Array Slot), bP D ws H → bD A ws → va_S A s.heap H locs → lv_has ls nL lv → W p l e R s m args below meth c H locs cells slots Q (F0 m pc ls st)
theorem wa_ws (h : ws = ws') (k : WA p l e R s m args below meth c Q D A cells slots nL pc ws' lv st) : WA p l e R s m args below meth c Q D A cells slots nL pc ws lv st := h ▸ k
theorem wa_lv (ks : List Nat) (h : lv_pick lv ks = lv') (k : WA p l e R s m args below meth c Q D A cells slots nL pc ws lv' st) : WA p l e R s m args below meth c Q D A cells slots nL pc ws lv st := fun H locs ls hP hD hS hl => k H locs ls hP hD hS (lv_sub hl ks h)
theorem wa_topi {x y : Int32} (h : y = x) (k : WA p l e R s m args below meth c Q D A cells slots nL pc ws lv (.int y :: st)) : WA p l e R s m args below meth c Q D A cells slots nL pc ws lv (.int x :: st) := h ▸ k
theorem wa_topl {x y : Int64} (h : y = x) (k : WA p l e R s m args below meth c Q D A cells slots nL pc ws lv (.long y :: st)) : WA p l e R s m args below meth c Q D A cells slots nL pc ws lv (.long x :: st) := h ▸ k
theorem wa_st {st' : List Value} (h : st = st') (k : WA p l e R s m args below meth c Q D A cells slots nL pc ws lv st') : WA p l e R s m args below meth c Q D A cells slots nL pc ws lv st := h ▸ k
theorem wa_iconst (C : Cx p s m args meth c cc nL own ret D A dT) {n : Int} {v : Int32} (n1 : Nat) (hdg : decode cc pc = .ok (.iconst n, 1)) (hn : pc + 1 = n1) (hv : Int32.ofInt n = v) (k : WA p l e R s m args below meth c Q D A cells slots nL n1 ws lv (.int v :: st)) : WA p l e R s m args below meth c Q D A cells slots nL pc ws lv (st) := by
  subst hn
  exact fun H locs ls hP hD hS hl => lv_iconst C.1 C.2.1 hdg hv (k H locs ls hP hD hS hl)
theorem wa_bipush (C : Cx p s m args meth c cc nL own ret D A dT) {n : Int} {v : Int32} (n1 : Nat) (hdg : decode cc pc = .ok (.bipush n, 2)) (hn : pc + 2 = n1) (hv : (Int8.ofInt n).toInt32 = v) (k : WA p l e R s m args below meth c Q D A cells slots nL n1 ws lv (.int v :: st)) : WA p l e R s m args below meth c Q D A cells slots nL pc ws lv (st) := by
  subst hn
  exact fun H locs ls hP hD hS hl => lv_bipush C.1 C.2.1 hdg hv (k H locs ls hP hD hS hl)
theorem wa_sipush (C : Cx p s m args meth c cc nL own ret D A dT) {n : Int} {v : Int32} (n1 : Nat) (hdg : decode cc pc = .ok (.sipush n, 3)) (hn : pc + 3 = n1) (hv : (Int16.ofInt n).toInt32 = v) (k : WA p l e R s m args below meth c Q D A cells slots nL n1 ws lv (.int v :: st)) : WA p l e R s m args below meth c Q D A cells slots nL pc ws lv (st) := by
  subst hn
  exact fun H locs ls hP hD hS hl => lv_sipush C.1 C.2.1 hdg hv (k H locs ls hP hD hS hl)
theorem wa_lconst (C : Cx p s m args meth c cc nL own ret D A dT) {n : Fin 2} {v : Int64} (n1 : Nat) (hdg : decode cc pc = .ok (.lconst n, 1)) (hn : pc + 1 = n1) (hv : Int64.ofNat (n : Nat) = v) (k : WA p l e R s m args below meth c Q D A cells slots nL n1 ws lv (.long v :: st)) : WA p l e R s m args below meth c Q D A cells slots nL pc ws lv (st) := by
  subst hn
  exact fun H locs ls hP hD hS hl => lv_lconst C.1 C.2.1 hdg hv (k H locs ls hP hD hS hl)
theorem wa_ldc (C : Cx p s m args meth c cc nL own ret D A dT) {index : Nat} {v : Int32} (n1 : Nat) (hdg : decode cc pc = .ok (.ldc index, 2)) (hn : pc + 2 = n1) (hw : Jvm.Cond.constant own index v ∈ lw_good) (k : WA p l e R s m args below meth c Q D A cells slots nL n1 ws lv (.int v :: st)) : WA p l e R s m args below meth c Q D A cells slots nL pc ws lv (st) := by
  subst hn
  exact fun H locs ls hP hD hS hl => lv_ldc C.1 C.2.1 C.2.2.2.1 (C.2.2.2.2.1 _ hw) hdg (k H locs ls hP hD hS hl)
theorem wa_ldcw (C : Cx p s m args meth c cc nL own ret D A dT) {index : Nat} {v : Int32} (n1 : Nat) (hdg : decode cc pc = .ok (.ldc_w index, 3)) (hn : pc + 3 = n1) (hw : Jvm.Cond.constant own index v ∈ lw_good) (k : WA p l e R s m args below meth c Q D A cells slots nL n1 ws lv (.int v :: st)) : WA p l e R s m args below meth c Q D A cells slots nL pc ws lv (st) := by
  subst hn
  exact fun H locs ls hP hD hS hl => lv_ldcw C.1 C.2.1 C.2.2.2.1 (C.2.2.2.2.1 _ hw) hdg (k H locs ls hP hD hS hl)
theorem wa_ldc2 (C : Cx p s m args meth c cc nL own ret D A dT) {index : Nat} {v : Int64} (n1 : Nat) (hdg : decode cc pc = .ok (.ldc2_w index, 3)) (hn : pc + 3 = n1) (hw : Jvm.Cond.constantLong own index v ∈ lw_good) (k : WA p l e R s m args below meth c Q D A cells slots nL n1 ws lv (.long v :: st)) : WA p l e R s m args below meth c Q D A cells slots nL pc ws lv (st) := by
  subst hn
  exact fun H locs ls hP hD hS hl => lv_ldc2 C.1 C.2.1 C.2.2.2.1 (C.2.2.2.2.1 _ hw) hdg (k H locs ls hP hD hS hl)
theorem wa_iload_n (C : Cx p s m args meth c cc nL own ret D A dT) {i : Fin 4} {x : Int32} (j : Nat) (n1 : Nat) (hdg : decode cc pc = .ok (.iload_n i, 1)) (hn : pc + 1 = n1) (hj : lv[j]? = some (i.val, .int x)) (k : WA p l e R s m args below meth c Q D A cells slots nL n1 ws lv (.int x :: st)) : WA p l e R s m args below meth c Q D A cells slots nL pc ws lv (st) := by
  subst hn
  exact fun H locs ls hP hD hS hl => lv_iload_n C.1 C.2.1 hdg rfl (lv_at hl j hj) (k H locs ls hP hD hS hl)
theorem wa_iload (C : Cx p s m args meth c cc nL own ret D A dT) {i : Nat} {x : Int32} (j : Nat) (n1 : Nat) (hdg : decode cc pc = .ok (.iload i, 2)) (hn : pc + 2 = n1) (hj : lv[j]? = some (i, .int x)) (k : WA p l e R s m args below meth c Q D A cells slots nL n1 ws lv (.int x :: st)) : WA p l e R s m args below meth c Q D A cells slots nL pc ws lv (st) := by
  subst hn
  exact fun H locs ls hP hD hS hl => lv_iload C.1 C.2.1 hdg (lv_at hl j hj) (k H locs ls hP hD hS hl)
theorem wa_istore (C : Cx p s m args meth c cc nL own ret D A dT) {i : Nat} {x : Int32} (ks : List Nat) (n1 : Nat) (hdg : decode cc pc = .ok (.istore i, 2)) (hn : pc + 2 = n1) (hi : i < nL) (hk : lv_pick ((i, Value.int x) :: lv.filter (fun q => !(q.1 == i) && !(q.1 + 1 == i && q.2.category == 2))) ks = lv') (k : WA p l e R s m args below meth c Q D A cells slots nL n1 ws lv' (st)) : WA p l e R s m args below meth c Q D A cells slots nL pc ws lv (.int x :: st) := by
  subst hn
  exact fun H locs ls hP hD hS hl => lv_istore C.1 C.2.1 hdg hl hi rfl (fun ls9 hl9 => k H locs ls9 hP hD hS (lv_sub hl9 ks hk))
theorem wa_istore_n (C : Cx p s m args meth c cc nL own ret D A dT) {i : Fin 4} {x : Int32} (ks : List Nat) (n1 : Nat) (hdg : decode cc pc = .ok (.istore_n i, 1)) (hn : pc + 1 = n1) (hi : i.val < nL) (hk : lv_pick ((i.val, Value.int x) :: lv.filter (fun q => !(q.1 == i.val) && !(q.1 + 1 == i.val && q.2.category == 2))) ks = lv') (k : WA p l e R s m args below meth c Q D A cells slots nL n1 ws lv' (st)) : WA p l e R s m args below meth c Q D A cells slots nL pc ws lv (.int x :: st) := by
  subst hn
  exact fun H locs ls hP hD hS hl => lv_istore_n C.1 C.2.1 hdg rfl hl hi rfl (fun ls9 hl9 => k H locs ls9 hP hD hS (lv_sub hl9 ks hk))
theorem wa_lload_n (C : Cx p s m args meth c cc nL own ret D A dT) {i : Fin 4} {x : Int64} (j : Nat) (n1 : Nat) (hdg : decode cc pc = .ok (.lload_n i, 1)) (hn : pc + 1 = n1) (hj : lv[j]? = some (i.val, .long x)) (k : WA p l e R s m args below meth c Q D A cells slots nL n1 ws lv (.long x :: st)) : WA p l e R s m args below meth c Q D A cells slots nL pc ws lv (st) := by
  subst hn
  exact fun H locs ls hP hD hS hl => lv_lload_n C.1 C.2.1 hdg rfl (lv_at hl j hj) (k H locs ls hP hD hS hl)
theorem wa_lload (C : Cx p s m args meth c cc nL own ret D A dT) {i : Nat} {x : Int64} (j : Nat) (n1 : Nat) (hdg : decode cc pc = .ok (.lload i, 2)) (hn : pc + 2 = n1) (hj : lv[j]? = some (i, .long x)) (k : WA p l e R s m args below meth c Q D A cells slots nL n1 ws lv (.long x :: st)) : WA p l e R s m args below meth c Q D A cells slots nL pc ws lv (st) := by
  subst hn
  exact fun H locs ls hP hD hS hl => lv_lload C.1 C.2.1 hdg (lv_at hl j hj) (k H locs ls hP hD hS hl)
theorem wa_lstore (C : Cx p s m args meth c cc nL own ret D A dT) {i : Nat} {x : Int64} (ks : List Nat) (n1 : Nat) (hdg : decode cc pc = .ok (.lstore i, 2)) (hn : pc + 2 = n1) (hi : i + 1 < nL) (hk : lv_pick ((i, Value.long x) :: lv.filter (fun q => !(q.1 == i) && (!(q.1 == i + 1) && !(q.1 + 1 == i && q.2.category == 2)))) ks = lv') (k : WA p l e R s m args below meth c Q D A cells slots nL n1 ws lv' (st)) : WA p l e R s m args below meth c Q D A cells slots nL pc ws lv (.long x :: st) := by
  subst hn
  exact fun H locs ls hP hD hS hl => lv_lstore C.1 C.2.1 hdg hl hi rfl (fun ls9 hl9 => k H locs ls9 hP hD hS (lv_sub hl9 ks hk))
theorem wa_lstore_n (C : Cx p s m args meth c cc nL own ret D A dT) {i : Fin 4} {x : Int64} (ks : List Nat) (n1 : Nat) (hdg : decode cc pc = .ok (.lstore_n i, 1)) (hn : pc + 1 = n1) (hi : i.val + 1 < nL) (hk : lv_pick ((i.val, Value.long x) :: lv.filter (fun q => !(q.1 == i.val) && (!(q.1 == i.val + 1) && !(q.1 + 1 == i.val && q.2.category == 2)))) ks = lv') (k : WA p l e R s m args below meth c Q D A cells slots nL n1 ws lv' (st)) : WA p l e R s m args below meth c Q D A cells slots nL pc ws lv (.long x :: st) := by
  subst hn
  exact fun H locs ls hP hD hS hl => lv_lstore_n C.1 C.2.1 hdg rfl hl hi rfl (fun ls9 hl9 => k H locs ls9 hP hD hS (lv_sub hl9 ks hk))
theorem wa_aload_n (C : Cx p s m args meth c cc nL own ret D A dT) {i : Fin 4} {x : Nat} (j : Nat) (n1 : Nat) (hdg : decode cc pc = .ok (.aload_n i, 1)) (hn : pc + 1 = n1) (hj : lv[j]? = some (i.val, .ref x)) (k : WA p l e R s m args below meth c Q D A cells slots nL n1 ws lv (.ref x :: st)) : WA p l e R s m args below meth c Q D A cells slots nL pc ws lv (st) := by
  subst hn
  exact fun H locs ls hP hD hS hl => lv_aload_n C.1 C.2.1 hdg rfl (lv_at hl j hj) (k H locs ls hP hD hS hl)
theorem wa_aload (C : Cx p s m args meth c cc nL own ret D A dT) {i : Nat} {x : Nat} (j : Nat) (n1 : Nat) (hdg : decode cc pc = .ok (.aload i, 2)) (hn : pc + 2 = n1) (hj : lv[j]? = some (i, .ref x)) (k : WA p l e R s m args below meth c Q D A cells slots nL n1 ws lv (.ref x :: st)) : WA p l e R s m args below meth c Q D A cells slots nL pc ws lv (st) := by
  subst hn
  exact fun H locs ls hP hD hS hl => lv_aload C.1 C.2.1 hdg (lv_at hl j hj) (k H locs ls hP hD hS hl)
theorem wa_astore (C : Cx p s m args meth c cc nL own ret D A dT) {i : Nat} {x : Nat} (ks : List Nat) (n1 : Nat) (hdg : decode cc pc = .ok (.astore i, 2)) (hn : pc + 2 = n1) (hi : i < nL) (hk : lv_pick ((i, Value.ref x) :: lv.filter (fun q => !(q.1 == i) && !(q.1 + 1 == i && q.2.category == 2))) ks = lv') (k : WA p l e R s m args below meth c Q D A cells slots nL n1 ws lv' (st)) : WA p l e R s m args below meth c Q D A cells slots nL pc ws lv (.ref x :: st) := by
  subst hn
  exact fun H locs ls hP hD hS hl => lv_astore C.1 C.2.1 hdg hl hi rfl (fun ls9 hl9 => k H locs ls9 hP hD hS (lv_sub hl9 ks hk))
theorem wa_astore_n (C : Cx p s m args meth c cc nL own ret D A dT) {i : Fin 4} {x : Nat} (ks : List Nat) (n1 : Nat) (hdg : decode cc pc = .ok (.astore_n i, 1)) (hn : pc + 1 = n1) (hi : i.val < nL) (hk : lv_pick ((i.val, Value.ref x) :: lv.filter (fun q => !(q.1 == i.val) && !(q.1 + 1 == i.val && q.2.category == 2))) ks = lv') (k : WA p l e R s m args below meth c Q D A cells slots nL n1 ws lv' (st)) : WA p l e R s m args below meth c Q D A cells slots nL pc ws lv (.ref x :: st) := by
  subst hn
  exact fun H locs ls hP hD hS hl => lv_astore_n C.1 C.2.1 hdg rfl hl hi rfl (fun ls9 hl9 => k H locs ls9 hP hD hS (lv_sub hl9 ks hk))
theorem wa_iinc (C : Cx p s m args meth c cc nL own ret D A dT) {i : Nat} {n : Int} {x v : Int32} (j : Nat) (ks : List Nat) (n1 : Nat) (hdg : decode cc pc = .ok (.iinc i n, 3)) (hn : pc + 3 = n1) (hj : lv[j]? = some (i, .int x)) (hv : x + Int32.ofInt n = v) (hi : i < nL) (hk : lv_pick ((i, Value.int v) :: lv.filter (fun q => !(q.1 == i) && !(q.1 + 1 == i && q.2.category == 2))) ks = lv') (k : WA p l e R s m args below meth c Q D A cells slots nL n1 ws lv' (st)) : WA p l e R s m args below meth c Q D A cells slots nL pc ws lv (st) := by
  subst hn
  exact fun H locs ls hP hD hS hl => lv_iinc (v := v) C.1 C.2.1 hdg hl hj hv hi rfl (fun ls9 hl9 => k H locs ls9 hP hD hS (lv_sub hl9 ks hk))
theorem wa_iadd (C : Cx p s m args meth c cc nL own ret D A dT) {x y : Int32} (n1 : Nat) (hdg : decode cc pc = .ok (.iadd, 1)) (hn : pc + 1 = n1)  (k : WA p l e R s m args below meth c Q D A cells slots nL n1 ws lv (.int (x + y) :: st)) : WA p l e R s m args below meth c Q D A cells slots nL pc ws lv (.int y :: .int x :: st) := by
  subst hn
  exact fun H locs ls hP hD hS hl => lv_iadd C.1 C.2.1 hdg (k H locs ls hP hD hS hl)
theorem wa_isub (C : Cx p s m args meth c cc nL own ret D A dT) {x y : Int32} (n1 : Nat) (hdg : decode cc pc = .ok (.isub, 1)) (hn : pc + 1 = n1)  (k : WA p l e R s m args below meth c Q D A cells slots nL n1 ws lv (.int (x - y) :: st)) : WA p l e R s m args below meth c Q D A cells slots nL pc ws lv (.int y :: .int x :: st) := by
  subst hn
  exact fun H locs ls hP hD hS hl => lv_isub C.1 C.2.1 hdg (k H locs ls hP hD hS hl)
theorem wa_imul (C : Cx p s m args meth c cc nL own ret D A dT) {x y : Int32} (n1 : Nat) (hdg : decode cc pc = .ok (.imul, 1)) (hn : pc + 1 = n1)  (k : WA p l e R s m args below meth c Q D A cells slots nL n1 ws lv (.int (x * y) :: st)) : WA p l e R s m args below meth c Q D A cells slots nL pc ws lv (.int y :: .int x :: st) := by
  subst hn
  exact fun H locs ls hP hD hS hl => lv_imul C.1 C.2.1 hdg (k H locs ls hP hD hS hl)
theorem wa_iand (C : Cx p s m args meth c cc nL own ret D A dT) {x y : Int32} (n1 : Nat) (hdg : decode cc pc = .ok (.iand, 1)) (hn : pc + 1 = n1)  (k : WA p l e R s m args below meth c Q D A cells slots nL n1 ws lv (.int (x &&& y) :: st)) : WA p l e R s m args below meth c Q D A cells slots nL pc ws lv (.int y :: .int x :: st) := by
  subst hn
  exact fun H locs ls hP hD hS hl => lv_iand C.1 C.2.1 hdg (k H locs ls hP hD hS hl)
theorem wa_ior (C : Cx p s m args meth c cc nL own ret D A dT) {x y : Int32} (n1 : Nat) (hdg : decode cc pc = .ok (.ior, 1)) (hn : pc + 1 = n1)  (k : WA p l e R s m args below meth c Q D A cells slots nL n1 ws lv (.int (x ||| y) :: st)) : WA p l e R s m args below meth c Q D A cells slots nL pc ws lv (.int y :: .int x :: st) := by
  subst hn
  exact fun H locs ls hP hD hS hl => lv_ior C.1 C.2.1 hdg (k H locs ls hP hD hS hl)
theorem wa_ixor (C : Cx p s m args meth c cc nL own ret D A dT) {x y : Int32} (n1 : Nat) (hdg : decode cc pc = .ok (.ixor, 1)) (hn : pc + 1 = n1)  (k : WA p l e R s m args below meth c Q D A cells slots nL n1 ws lv (.int (x ^^^ y) :: st)) : WA p l e R s m args below meth c Q D A cells slots nL pc ws lv (.int y :: .int x :: st) := by
  subst hn
  exact fun H locs ls hP hD hS hl => lv_ixor C.1 C.2.1 hdg (k H locs ls hP hD hS hl)
theorem wa_ishl (C : Cx p s m args meth c cc nL own ret D A dT) {x y : Int32} (n1 : Nat) (hdg : decode cc pc = .ok (.ishl, 1)) (hn : pc + 1 = n1)  (k : WA p l e R s m args below meth c Q D A cells slots nL n1 ws lv (.int (x <<< (y &&& 31)) :: st)) : WA p l e R s m args below meth c Q D A cells slots nL pc ws lv (.int y :: .int x :: st) := by
  subst hn
  exact fun H locs ls hP hD hS hl => lv_ishl C.1 C.2.1 hdg (k H locs ls hP hD hS hl)
theorem wa_ishr (C : Cx p s m args meth c cc nL own ret D A dT) {x y : Int32} (n1 : Nat) (hdg : decode cc pc = .ok (.ishr, 1)) (hn : pc + 1 = n1)  (k : WA p l e R s m args below meth c Q D A cells slots nL n1 ws lv (.int (x >>> (y &&& 31)) :: st)) : WA p l e R s m args below meth c Q D A cells slots nL pc ws lv (.int y :: .int x :: st) := by
  subst hn
  exact fun H locs ls hP hD hS hl => lv_ishr C.1 C.2.1 hdg (k H locs ls hP hD hS hl)
theorem wa_idiv (C : Cx p s m args meth c cc nL own ret D A dT) {x y : Int32} (n1 : Nat) (hdg : decode cc pc = .ok (.idiv, 1)) (hn : pc + 1 = n1) (h0 : ¬ y = 0) (k : WA p l e R s m args below meth c Q D A cells slots nL n1 ws lv (.int (x / y) :: st)) : WA p l e R s m args below meth c Q D A cells slots nL pc ws lv (.int y :: .int x :: st) := by
  subst hn
  exact fun H locs ls hP hD hS hl => lv_idiv C.1 C.2.1 hdg h0 (k H locs ls hP hD hS hl)
theorem wa_irem (C : Cx p s m args meth c cc nL own ret D A dT) {x y : Int32} (n1 : Nat) (hdg : decode cc pc = .ok (.irem, 1)) (hn : pc + 1 = n1) (h0 : ¬ y = 0) (k : WA p l e R s m args below meth c Q D A cells slots nL n1 ws lv (.int (x - x / y * y) :: st)) : WA p l e R s m args below meth c Q D A cells slots nL pc ws lv (.int y :: .int x :: st) := by
  subst hn
  exact fun H locs ls hP hD hS hl => lv_irem C.1 C.2.1 hdg h0 (k H locs ls hP hD hS hl)
theorem wa_ineg (C : Cx p s m args meth c cc nL own ret D A dT) {x : Int32} (n1 : Nat) (hdg : decode cc pc = .ok (.ineg, 1)) (hn : pc + 1 = n1)  (k : WA p l e R s m args below meth c Q D A cells slots nL n1 ws lv (.int (-x) :: st)) : WA p l e R s m args below meth c Q D A cells slots nL pc ws lv (.int x :: st) := by
  subst hn
  exact fun H locs ls hP hD hS hl => lv_ineg C.1 C.2.1 hdg (k H locs ls hP hD hS hl)
theorem wa_iushr (C : Cx p s m args meth c cc nL own ret D A dT) {x y : Int32} (n1 : Nat) (hdg : decode cc pc = .ok (.iushr, 1)) (hn : pc + 1 = n1)  (k : WA p l e R s m args below meth c Q D A cells slots nL n1 ws lv (.int ((x.toUInt32 >>> (y.toUInt32 &&& Int32.toUInt32 31)).toInt32) :: st)) : WA p l e R s m args below meth c Q D A cells slots nL pc ws lv (.int y :: .int x :: st) := by
  subst hn
  exact fun H locs ls hP hD hS hl => lv_iushr C.1 C.2.1 hdg rfl (k H locs ls hP hD hS hl)
theorem wa_ladd (C : Cx p s m args meth c cc nL own ret D A dT) {x y : Int64} (n1 : Nat) (hdg : decode cc pc = .ok (.ladd, 1)) (hn : pc + 1 = n1)  (k : WA p l e R s m args below meth c Q D A cells slots nL n1 ws lv (.long (x + y) :: st)) : WA p l e R s m args below meth c Q D A cells slots nL pc ws lv (.long y :: .long x :: st) := by
  subst hn
  exact fun H locs ls hP hD hS hl => lv_ladd C.1 C.2.1 hdg (k H locs ls hP hD hS hl)
theorem wa_lsub (C : Cx p s m args meth c cc nL own ret D A dT) {x y : Int64} (n1 : Nat) (hdg : decode cc pc = .ok (.lsub, 1)) (hn : pc + 1 = n1)  (k : WA p l e R s m args below meth c Q D A cells slots nL n1 ws lv (.long (x - y) :: st)) : WA p l e R s m args below meth c Q D A cells slots nL pc ws lv (.long y :: .long x :: st) := by
  subst hn
  exact fun H locs ls hP hD hS hl => lv_lsub C.1 C.2.1 hdg (k H locs ls hP hD hS hl)
theorem wa_lor (C : Cx p s m args meth c cc nL own ret D A dT) {x y : Int64} (n1 : Nat) (hdg : decode cc pc = .ok (.lor, 1)) (hn : pc + 1 = n1)  (k : WA p l e R s m args below meth c Q D A cells slots nL n1 ws lv (.long (x ||| y) :: st)) : WA p l e R s m args below meth c Q D A cells slots nL pc ws lv (.long y :: .long x :: st) := by
  subst hn
  exact fun H locs ls hP hD hS hl => lv_lor C.1 C.2.1 hdg (k H locs ls hP hD hS hl)
theorem wa_lshl (C : Cx p s m args meth c cc nL own ret D A dT) {x : Int64} {y : Int32} (n1 : Nat) (hdg : decode cc pc = .ok (.lshl, 1)) (hn : pc + 1 = n1)  (k : WA p l e R s m args below meth c Q D A cells slots nL n1 ws lv (.long (x <<< (y.toInt64 &&& 63)) :: st)) : WA p l e R s m args below meth c Q D A cells slots nL pc ws lv (.int y :: .long x :: st) := by
  subst hn
  exact fun H locs ls hP hD hS hl => lv_lshl C.1 C.2.1 hdg rfl (k H locs ls hP hD hS hl)
theorem wa_lushr (C : Cx p s m args meth c cc nL own ret D A dT) {x : Int64} {y : Int32} (n1 : Nat) (hdg : decode cc pc = .ok (.lushr, 1)) (hn : pc + 1 = n1)  (k : WA p l e R s m args below meth c Q D A cells slots nL n1 ws lv (.long ((x.toUInt64 >>> (y.toInt64.toUInt64 &&& Int64.toUInt64 63)).toInt64) :: st)) : WA p l e R s m args below meth c Q D A cells slots nL pc ws lv (.int y :: .long x :: st) := by
  subst hn
  exact fun H locs ls hP hD hS hl => lv_lushr C.1 C.2.1 hdg rfl (k H locs ls hP hD hS hl)
theorem wa_lcmp (C : Cx p s m args meth c cc nL own ret D A dT) {x y : Int64} (n1 : Nat) (hdg : decode cc pc = .ok (.lcmp, 1)) (hn : pc + 1 = n1)  (k : WA p l e R s m args below meth c Q D A cells slots nL n1 ws lv (.int (lg_cmp x y) :: st)) : WA p l e R s m args below meth c Q D A cells slots nL pc ws lv (.long y :: .long x :: st) := by
  subst hn
  exact fun H locs ls hP hD hS hl => W.lcmp C.1 C.2.1 hdg (k H locs ls hP hD hS hl)
theorem wa_i2l (C : Cx p s m args meth c cc nL own ret D A dT) {x : Int32} (n1 : Nat) (hdg : decode cc pc = .ok (.i2l, 1)) (hn : pc + 1 = n1)  (k : WA p l e R s m args below meth c Q D A cells slots nL n1 ws lv (.long x.toInt64 :: st)) : WA p l e R s m args below meth c Q D A cells slots nL pc ws lv (.int x :: st) := by
  subst hn
  exact fun H locs ls hP hD hS hl => lv_i2l C.1 C.2.1 hdg rfl (k H locs ls hP hD hS hl)
theorem wa_l2i (C : Cx p s m args meth c cc nL own ret D A dT) {x : Int64} (n1 : Nat) (hdg : decode cc pc = .ok (.l2i, 1)) (hn : pc + 1 = n1)  (k : WA p l e R s m args below meth c Q D A cells slots nL n1 ws lv (.int x.toInt32 :: st)) : WA p l e R s m args below meth c Q D A cells slots nL pc ws lv (.long x :: st) := by
  subst hn
  exact fun H locs ls hP hD hS hl => lv_l2i C.1 C.2.1 hdg rfl (k H locs ls hP hD hS hl)
theorem wa_i2b (C : Cx p s m args meth c cc nL own ret D A dT) {x : Int32} (n1 : Nat) (hdg : decode cc pc = .ok (.i2b, 1)) (hn : pc + 1 = n1)  (k : WA p l e R s m args below meth c Q D A cells slots nL n1 ws lv (.int x.toInt8.toInt32 :: st)) : WA p l e R s m args below meth c Q D A cells slots nL pc ws lv (.int x :: st) := by
  subst hn
  exact fun H locs ls hP hD hS hl => lv_i2b C.1 C.2.1 hdg rfl (k H locs ls hP hD hS hl)
theorem wa_dup (C : Cx p s m args meth c cc nL own ret D A dT) {va : Value} (n1 : Nat) (hdg : decode cc pc = .ok (.dup, 1)) (hn : pc + 1 = n1) (h1 : va.category = 1) (k : WA p l e R s m args below meth c Q D A cells slots nL n1 ws lv (va :: va :: st)) : WA p l e R s m args below meth c Q D A cells slots nL pc ws lv (va :: st) := by
  subst hn
  exact fun H locs ls hP hD hS hl => lv_dup C.1 C.2.1 hdg h1 (k H locs ls hP hD hS hl)
theorem wa_pop (C : Cx p s m args meth c cc nL own ret D A dT) {va : Value} (n1 : Nat) (hdg : decode cc pc = .ok (.pop, 1)) (hn : pc + 1 = n1) (h1 : va.category = 1) (k : WA p l e R s m args below meth c Q D A cells slots nL n1 ws lv (st)) : WA p l e R s m args below meth c Q D A cells slots nL pc ws lv (va :: st) := by
  subst hn
  exact fun H locs ls hP hD hS hl => lv_pop C.1 C.2.1 hdg h1 (k H locs ls hP hD hS hl)
theorem wa_dup_x1 (C : Cx p s m args meth c cc nL own ret D A dT) {va vb : Value} (n1 : Nat) (hdg : decode cc pc = .ok (.dup_x1, 1)) (hn : pc + 1 = n1) (h1 : va.category = 1) (h2 : vb.category = 1) (k : WA p l e R s m args below meth c Q D A cells slots nL n1 ws lv (va :: vb :: va :: st)) : WA p l e R s m args below meth c Q D A cells slots nL pc ws lv (va :: vb :: st) := by
  subst hn
  exact fun H locs ls hP hD hS hl => lv_dup_x1 C.1 C.2.1 hdg h1 h2 (k H locs ls hP hD hS hl)
theorem wa_dup2 (C : Cx p s m args meth c cc nL own ret D A dT) {va vb : Value} (n1 : Nat) (hdg : decode cc pc = .ok (.dup2, 1)) (hn : pc + 1 = n1) (h1 : va.category = 1) (h2 : vb.category = 1) (k : WA p l e R s m args below meth c Q D A cells slots nL n1 ws lv (va :: vb :: va :: vb :: st)) : WA p l e R s m args below meth c Q D A cells slots nL pc ws lv (va :: vb :: st) := by
  subst hn
  exact fun H locs ls hP hD hS hl => lv_dup2_11 C.1 C.2.1 hdg h1 h2 (k H locs ls hP hD hS hl)
theorem wa_if_eq (C : Cx p s m args meth c cc nL own ret D A dT) {x : Int32} {off : Int} (tgt n1 : Nat) (hdg : decode cc pc = .ok (.ifCond .eq off, 3)) (ht : (pc : Int) + off = (tgt : Int)) (hn : pc + 3 = n1) (kt : x = 0 → WA p l e R s m args below meth c Q D A cells slots nL tgt ws lv (st)) (kf : ¬ x = 0 → WA p l e R s m args below meth c Q D A cells slots nL n1 ws lv (st)) : WA p l e R s m args below meth c Q D A cells slots nL pc ws lv (.int x :: st) := by
  subst hn
  exact fun H locs ls hP hD hS hl => lv_if_eq C.1 C.2.1 hdg ht (fun h9 => kt h9 H locs ls hP hD hS hl) (fun h9 => kf h9 H locs ls hP hD hS hl)
theorem wa_icmp_eq (C : Cx p s m args meth c cc nL own ret D A dT) {x y : Int32} {off : Int} (tgt n1 : Nat) (hdg : decode cc pc = .ok (.if_icmp .eq off, 3)) (ht : (pc : Int) + off = (tgt : Int)) (hn : pc + 3 = n1) (kt : x = y → WA p l e R s m args below meth c Q D A cells slots nL tgt ws lv (st)) (kf : ¬ x = y → WA p l e R s m args below meth c Q D A cells slots nL n1 ws lv (st)) : WA p l e R s m args below meth c Q D A cells slots nL pc ws lv (.int y :: .int x :: st) := by
  subst hn
  exact fun H locs ls hP hD hS hl => lv_icmp_eq C.1 C.2.1 hdg ht (fun h9 => kt h9 H locs ls hP hD hS hl) (fun h9 => kf h9 H locs ls hP hD hS hl)
theorem wa_if_ne (C : Cx p s m args meth c cc nL own ret D A dT) {x : Int32} {off : Int} (tgt n1 : Nat) (hdg : decode cc pc = .ok (.ifCond .ne off, 3)) (ht : (pc : Int) + off = (tgt : Int)) (hn : pc + 3 = n1) (kt : ¬ x = 0 → WA p l e R s m args below meth c Q D A cells slots nL tgt ws lv (st)) (kf : x = 0 → WA p l e R s m args below meth c Q D A cells slots nL n1 ws lv (st)) : WA p l e R s m args below meth c Q D A cells slots nL pc ws lv (.int x :: st) := by
  subst hn
  exact fun H locs ls hP hD hS hl => lv_if_ne C.1 C.2.1 hdg ht (fun h9 => kt h9 H locs ls hP hD hS hl) (fun h9 => kf h9 H locs ls hP hD hS hl)
theorem wa_icmp_ne (C : Cx p s m args meth c cc nL own ret D A dT) {x y : Int32} {off : Int} (tgt n1 : Nat) (hdg : decode cc pc = .ok (.if_icmp .ne off, 3)) (ht : (pc : Int) + off = (tgt : Int)) (hn : pc + 3 = n1) (kt : ¬ x = y → WA p l e R s m args below meth c Q D A cells slots nL tgt ws lv (st)) (kf : x = y → WA p l e R s m args below meth c Q D A cells slots nL n1 ws lv (st)) : WA p l e R s m args below meth c Q D A cells slots nL pc ws lv (.int y :: .int x :: st) := by
  subst hn
  exact fun H locs ls hP hD hS hl => lv_icmp_ne C.1 C.2.1 hdg ht (fun h9 => kt h9 H locs ls hP hD hS hl) (fun h9 => kf h9 H locs ls hP hD hS hl)
theorem wa_if_lt (C : Cx p s m args meth c cc nL own ret D A dT) {x : Int32} {off : Int} (tgt n1 : Nat) (hdg : decode cc pc = .ok (.ifCond .lt off, 3)) (ht : (pc : Int) + off = (tgt : Int)) (hn : pc + 3 = n1) (kt : x < 0 → WA p l e R s m args below meth c Q D A cells slots nL tgt ws lv (st)) (kf : ¬ x < 0 → WA p l e R s m args below meth c Q D A cells slots nL n1 ws lv (st)) : WA p l e R s m args below meth c Q D A cells slots nL pc ws lv (.int x :: st) := by
  subst hn
  exact fun H locs ls hP hD hS hl => lv_if_lt C.1 C.2.1 hdg ht (fun h9 => kt h9 H locs ls hP hD hS hl) (fun h9 => kf h9 H locs ls hP hD hS hl)
theorem wa_icmp_lt (C : Cx p s m args meth c cc nL own ret D A dT) {x y : Int32} {off : Int} (tgt n1 : Nat) (hdg : decode cc pc = .ok (.if_icmp .lt off, 3)) (ht : (pc : Int) + off = (tgt : Int)) (hn : pc + 3 = n1) (kt : x < y → WA p l e R s m args below meth c Q D A cells slots nL tgt ws lv (st)) (kf : ¬ x < y → WA p l e R s m args below meth c Q D A cells slots nL n1 ws lv (st)) : WA p l e R s m args below meth c Q D A cells slots nL pc ws lv (.int y :: .int x :: st) := by
  subst hn
  exact fun H locs ls hP hD hS hl => lv_icmp_lt C.1 C.2.1 hdg ht (fun h9 => kt h9 H locs ls hP hD hS hl) (fun h9 => kf h9 H locs ls hP hD hS hl)
theorem wa_if_ge (C : Cx p s m args meth c cc nL own ret D A dT) {x : Int32} {off : Int} (tgt n1 : Nat) (hdg : decode cc pc = .ok (.ifCond .ge off, 3)) (ht : (pc : Int) + off = (tgt : Int)) (hn : pc + 3 = n1) (kt : 0 ≤ x → WA p l e R s m args below meth c Q D A cells slots nL tgt ws lv (st)) (kf : ¬ 0 ≤ x → WA p l e R s m args below meth c Q D A cells slots nL n1 ws lv (st)) : WA p l e R s m args below meth c Q D A cells slots nL pc ws lv (.int x :: st) := by
  subst hn
  exact fun H locs ls hP hD hS hl => lv_if_ge C.1 C.2.1 hdg ht (fun h9 => kt h9 H locs ls hP hD hS hl) (fun h9 => kf h9 H locs ls hP hD hS hl)
theorem wa_icmp_ge (C : Cx p s m args meth c cc nL own ret D A dT) {x y : Int32} {off : Int} (tgt n1 : Nat) (hdg : decode cc pc = .ok (.if_icmp .ge off, 3)) (ht : (pc : Int) + off = (tgt : Int)) (hn : pc + 3 = n1) (kt : y ≤ x → WA p l e R s m args below meth c Q D A cells slots nL tgt ws lv (st)) (kf : ¬ y ≤ x → WA p l e R s m args below meth c Q D A cells slots nL n1 ws lv (st)) : WA p l e R s m args below meth c Q D A cells slots nL pc ws lv (.int y :: .int x :: st) := by
  subst hn
  exact fun H locs ls hP hD hS hl => lv_icmp_ge C.1 C.2.1 hdg ht (fun h9 => kt h9 H locs ls hP hD hS hl) (fun h9 => kf h9 H locs ls hP hD hS hl)
theorem wa_if_gt (C : Cx p s m args meth c cc nL own ret D A dT) {x : Int32} {off : Int} (tgt n1 : Nat) (hdg : decode cc pc = .ok (.ifCond .gt off, 3)) (ht : (pc : Int) + off = (tgt : Int)) (hn : pc + 3 = n1) (kt : 0 < x → WA p l e R s m args below meth c Q D A cells slots nL tgt ws lv (st)) (kf : ¬ 0 < x → WA p l e R s m args below meth c Q D A cells slots nL n1 ws lv (st)) : WA p l e R s m args below meth c Q D A cells slots nL pc ws lv (.int x :: st) := by
  subst hn
  exact fun H locs ls hP hD hS hl => lv_if_gt C.1 C.2.1 hdg ht (fun h9 => kt h9 H locs ls hP hD hS hl) (fun h9 => kf h9 H locs ls hP hD hS hl)
theorem wa_icmp_gt (C : Cx p s m args meth c cc nL own ret D A dT) {x y : Int32} {off : Int} (tgt n1 : Nat) (hdg : decode cc pc = .ok (.if_icmp .gt off, 3)) (ht : (pc : Int) + off = (tgt : Int)) (hn : pc + 3 = n1) (kt : y < x → WA p l e R s m args below meth c Q D A cells slots nL tgt ws lv (st)) (kf : ¬ y < x → WA p l e R s m args below meth c Q D A cells slots nL n1 ws lv (st)) : WA p l e R s m args below meth c Q D A cells slots nL pc ws lv (.int y :: .int x :: st) := by
  subst hn
  exact fun H locs ls hP hD hS hl => lv_icmp_gt C.1 C.2.1 hdg ht (fun h9 => kt h9 H locs ls hP hD hS hl) (fun h9 => kf h9 H locs ls hP hD hS hl)
theorem wa_if_le (C : Cx p s m args meth c cc nL own ret D A dT) {x : Int32} {off : Int} (tgt n1 : Nat) (hdg : decode cc pc = .ok (.ifCond .le off, 3)) (ht : (pc : Int) + off = (tgt : Int)) (hn : pc + 3 = n1) (kt : x ≤ 0 → WA p l e R s m args below meth c Q D A cells slots nL tgt ws lv (st)) (kf : ¬ x ≤ 0 → WA p l e R s m args below meth c Q D A cells slots nL n1 ws lv (st)) : WA p l e R s m args below meth c Q D A cells slots nL pc ws lv (.int x :: st) := by
  subst hn
  exact fun H locs ls hP hD hS hl => lv_if_le C.1 C.2.1 hdg ht (fun h9 => kt h9 H locs ls hP hD hS hl) (fun h9 => kf h9 H locs ls hP hD hS hl)
theorem wa_icmp_le (C : Cx p s m args meth c cc nL own ret D A dT) {x y : Int32} {off : Int} (tgt n1 : Nat) (hdg : decode cc pc = .ok (.if_icmp .le off, 3)) (ht : (pc : Int) + off = (tgt : Int)) (hn : pc + 3 = n1) (kt : x ≤ y → WA p l e R s m args below meth c Q D A cells slots nL tgt ws lv (st)) (kf : ¬ x ≤ y → WA p l e R s m args below meth c Q D A cells slots nL n1 ws lv (st)) : WA p l e R s m args below meth c Q D A cells slots nL pc ws lv (.int y :: .int x :: st) := by
  subst hn
  exact fun H locs ls hP hD hS hl => lv_icmp_le C.1 C.2.1 hdg ht (fun h9 => kt h9 H locs ls hP hD hS hl) (fun h9 => kf h9 H locs ls hP hD hS hl)
theorem wa_goto (C : Cx p s m args meth c cc nL own ret D A dT) {off : Int} (tgt : Nat) (hdg : decode cc pc = .ok (.goto off, 3)) (ht : (pc : Int) + off = (tgt : Int)) (k : WA p l e R s m args below meth c Q D A cells slots nL tgt ws lv (st)) : WA p l e R s m args below meth c Q D A cells slots nL pc ws lv (st) := fun H locs ls hP hD hS hl => lv_goto C.1 C.2.1 hdg ht (k H locs ls hP hD hS hl)
theorem wa_ts (C : Cx p s m args meth c cc nL own ret D A dT) {dflt lo hi : Int} {offs : Array Int} {len : Nat} {x : Int32} (v : Int32) (off : Int) (tgt : Nat) (hdg : decode cc pc = .ok (.tableswitch dflt lo hi offs, len)) (hx : x = v) (h1 : ¬ v.toInt < lo) (h2 : ¬ hi < v.toInt) (ho : offs[(v.toInt - lo).toNat]? = some off) (ht : (pc : Int) + off = (tgt : Int)) (k : WA p l e R s m args below meth c Q D A cells slots nL tgt ws lv (st)) : WA p l e R s m args below meth c Q D A cells slots nL pc ws lv (.int x :: st) := by
  subst hx
  exact fun H locs ls hP hD hS hl => lv_tableIn C.1 C.2.1 hdg h1 h2 ho ht (k H locs ls hP hD hS hl)
theorem wa_tsd (C : Cx p s m args meth c cc nL own ret D A dT) {dflt lo hi : Int} {offs : Array Int} {len : Nat} {x : Int32} (tgt : Nat) (hdg : decode cc pc = .ok (.tableswitch dflt lo hi offs, len)) (h : x.toInt < lo ∨ hi < x.toInt) (ht : (pc : Int) + dflt = (tgt : Int)) (k : WA p l e R s m args below meth c Q D A cells slots nL tgt ws lv (st)) : WA p l e R s m args below meth c Q D A cells slots nL pc ws lv (.int x :: st) := fun H locs ls hP hD hS hl => lv_tableOut C.1 C.2.1 hdg h ht (k H locs ls hP hD hS hl)
theorem wa_ls (C : Cx p s m args meth c cc nL own ret D A dT) {dflt : Int} {ps : Array (Int × Int)} {len : Nat} {x : Int32} (off : Int) (tgt : Nat) (hdg : decode cc pc = .ok (.lookupswitch dflt ps, len)) (hp : (ps.toList.zip (ps.toList.drop 1)).all (fun (a, next) => a.1 < next.1) = true) (ho : Op.lookupswitch.offset ps.toList dflt x.toInt = off) (ht : (pc : Int) + off = (tgt : Int)) (k : WA p l e R s m args below meth c Q D A cells slots nL tgt ws lv (st)) : WA p l e R s m args below meth c Q D A cells slots nL pc ws lv (.int x :: st) := fun H locs ls hP hD hS hl => lv_lookup C.1 C.2.1 hdg hp ho ht (k H locs ls hP hD hS hl)
theorem ts_out {x : Int32} (lo : Int) (N : Nat) (h : ∀ k : Nat, k < N → ¬ x = Int32.ofInt (lo + k)) : x.toInt < lo ∨ lo + N - 1 < x.toInt := by
  by_cases h1 : x.toInt < lo
  · exact Or.inl h1
  · by_cases h2 : lo + N - 1 < x.toInt
    · exact Or.inr h2
    · refine absurd ?_ (h (x.toInt - lo).toNat (by omega))
      rw [show lo + ((x.toInt - lo).toNat : Int) = x.toInt by omega, Int32.ofInt_toInt]
theorem ls_ne {x v : Int32} {a : Int} (hv : v.toInt = a) (h : ¬ x = v) : ¬ a = x.toInt := fun e9 => h (Int32.toInt_inj.mp (by rw [← e9, hv]))
theorem nts_0 {x : Int32} {lo : Int} : ∀ k : Nat, k < 0 → ¬ x = Int32.ofInt (lo + k) := fun _ h => absurd h (Nat.not_lt_zero _)
theorem nts_s {x : Int32} {lo : Int} {n : Nat} {v : Int32} (h : ∀ k : Nat, k < n → ¬ x = Int32.ofInt (lo + k)) (hv : Int32.ofInt (lo + n) = v) (hx : ¬ x = v) : ∀ k : Nat, k < n + 1 → ¬ x = Int32.ofInt (lo + k) := fun k hk => by
  rcases Nat.lt_or_ge k n with q | q
  · exact h k q
  · have e9 : k = n := by omega
    subst e9
    rw [hv]; exact hx
theorem wa_get (C : Cx p s m args meth c cc nL own ret D A dT) {C9 : String} {T : u_T} {N ci index a : Nat} (n1 : Nat) (b0 q0 : Nat) {w0 : va_W} {fs : List Value} (k0 : Nat) {v : Value} (hdg : decode cc pc = .ok (.getfield index, 3)) (hn : pc + 3 = n1) (hin : ∀ w ∈ u_ws C9 T N, w ∈ lw_good) (hlink : Cond.fieldLink own index (T k0).1 (T k0).2.1 (T k0).2.2.1 ∈ lw_good) (hc : vwCl[ci]? = some (C9, T, N)) (hk : k0 < N) (hb0 : ws[b0]? = some w0) (he : w0[q0]? = some (a, .inr (ci, fs))) (hv : fs[k0]? = some v) (k : WA p l e R s m args below meth c Q D A cells slots nL n1 ws lv (v :: st)) : WA p l e R s m args below meth c Q D A cells slots nL pc ws lv (.ref a :: st) := by
  subst hn
  exact fun H locs ls hP hD hS hl => va_get C.1 C.2.1 C.2.2.2.2.1 hin C.2.2.2.1 C.2.2.2.2.2.1 hP (bix ws b0 q0) (flat_get hb0 he) hc k0 hk (C.2.2.2.2.1 _ hlink) (fun _ h9 => h9) hv hdg (k H locs ls hP hD hS hl)
theorem wa_put (C : Cx p s m args meth c cc nL own ret D A dT) {C9 : String} {T : u_T} {N ci index a : Nat} (n1 : Nat) (b0 q0 : Nat) {w0 : va_W} {fs : List Value} (k0 : Nat) {v : Value} (ty0 : Nat → FieldType) (hdg : decode cc pc = .ok (.putfield index, 3)) (hn : pc + 3 = n1) (hin : ∀ w ∈ u_ws C9 T N, w ∈ lw_good) (hty : ∀ k, k < N → parseFieldDescriptor (T k).2.2.1 = some (ty0 k)) (hnm : ∀ a, a < N → ∀ b, b < N → a ≠ b → (T a).2.1 ≠ (T b).2.1) (hlink : Cond.fieldLink own index (T k0).1 (T k0).2.1 (T k0).2.2.1 ∈ lw_good) (hc : vwCl[ci]? = some (C9, T, N)) (hk : k0 < N) (hfin : (T k0).2.2.2 = false) (hb0 : ws[b0]? = some w0) (he : w0[q0]? = some (a, .inr (ci, fs))) (hn9 : narrow (ty0 k0) v = v) (hfit : fits (ty0 k0) v = true) (hl9 : k0 < fs.length) (hw : ws.set b0 (w0.set q0 (a, .inr (ci, fs.set k0 v))) = ws') (k : WA p l e R s m args below meth c Q D A cells slots nL n1 ws' lv (st)) : WA p l e R s m args below meth c Q D A cells slots nL pc ws lv (v :: .ref a :: st) := by
  subst hn; subst hw
  exact fun H locs ls hP hD hS hl => va_put C.1 C.2.1 C.2.2.2.2.1 hin ty0 hty hnm C.2.2.2.1 C.2.2.2.2.2.1 hP hD hS (bix ws b0 q0) (flat_get hb0 he) hc k0 hk (C.2.2.2.2.1 _ hlink) (fun _ h9 => h9) hfin (hty k0 hk) hn9 hfit hl9 hdg (fun H1 locs1 hP hD hS => by rw [flat_set hb0 (List.getElem?_eq_some_iff.mp he).1] at hP hD; exact k H1 locs1 ls hP hD hS hl)
theorem wa_iald (C : Cx p s m args meth c cc nL own ret D A dT) {a n : Nat} {f : Nat → Int32} {i : Int32} (n1 b0 q0 : Nat) {w0 : va_W} (hdg : decode cc pc = .ok (.iaload, 1)) (hn : pc + 1 = n1) (hb0 : ws[b0]? = some w0) (ha : w0[q0]? = some (a, .inl (dT 0, n, .inl f))) (hi : vp_in i n) (k : WA p l e R s m args below meth c Q D A cells slots nL n1 ws lv (.int (f i.toNatClampNeg) :: st)) : WA p l e R s m args below meth c Q D A cells slots nL pc ws lv (.int i :: .ref a :: st) := by
  subst hn
  exact fun H locs ls hP hD hS hl => va_iald C.1 C.2.1 C.2.2.2.2.2.1 hP (bix ws b0 q0) 0 (flat_get hb0 ha) rfl hi hdg (k H locs ls hP hD hS hl)
theorem wa_lald (C : Cx p s m args meth c cc nL own ret D A dT) {a n : Nat} {f : Nat → Int64} {i : Int32} (n1 b0 q0 : Nat) {w0 : va_W} (hdg : decode cc pc = .ok (.laload, 1)) (hn : pc + 1 = n1) (hb0 : ws[b0]? = some w0) (ha : w0[q0]? = some (a, .inl (dT 1, n, .inr (.inl f)))) (hi : vp_in i n) (k : WA p l e R s m args below meth c Q D A cells slots nL n1 ws lv (.long (f i.toNatClampNeg) :: st)) : WA p l e R s m args below meth c Q D A cells slots nL pc ws lv (.int i :: .ref a :: st) := by
  subst hn
  exact fun H locs ls hP hD hS hl => va_lald C.1 C.2.1 C.2.2.2.2.2.1 hP (bix ws b0 q0) 1 (flat_get hb0 ha) rfl hi hdg (k H locs ls hP hD hS hl)
theorem wa_bald (C : Cx p s m args meth c cc nL own ret D A dT) {a n : Nat} {f : Nat → Int32} {i : Int32} (n1 b0 q0 : Nat) {w0 : va_W} (hdg : decode cc pc = .ok (.baload, 1)) (hn : pc + 1 = n1) (hb0 : ws[b0]? = some w0) (ha : w0[q0]? = some (a, .inl (dT 2, n, .inl f))) (hi : vp_in i n) (k : WA p l e R s m args below meth c Q D A cells slots nL n1 ws lv (.int (f i.toNatClampNeg) :: st)) : WA p l e R s m args below meth c Q D A cells slots nL pc ws lv (.int i :: .ref a :: st) := by
  subst hn
  exact fun H locs ls hP hD hS hl => va_bald C.1 C.2.1 C.2.2.2.2.2.1 hP (bix ws b0 q0) 2 (flat_get hb0 ha) rfl hi hdg (k H locs ls hP hD hS hl)
theorem wa_zald (C : Cx p s m args meth c cc nL own ret D A dT) {a n : Nat} {f : Nat → Int32} {i : Int32} (n1 b0 q0 : Nat) {w0 : va_W} (hdg : decode cc pc = .ok (.baload, 1)) (hn : pc + 1 = n1) (hb0 : ws[b0]? = some w0) (ha : w0[q0]? = some (a, .inl (dT 3, n, .inl f))) (hi : vp_in i n) (k : WA p l e R s m args below meth c Q D A cells slots nL n1 ws lv (.int (f i.toNatClampNeg) :: st)) : WA p l e R s m args below meth c Q D A cells slots nL pc ws lv (.int i :: .ref a :: st) := by
  subst hn
  exact fun H locs ls hP hD hS hl => va_zald C.1 C.2.1 C.2.2.2.2.2.1 hP (bix ws b0 q0) 3 (flat_get hb0 ha) rfl hi hdg (k H locs ls hP hD hS hl)
theorem wa_iast (C : Cx p s m args meth c cc nL own ret D A dT) {a n : Nat} {f : Nat → Int32} {i : Int32} {x : Int32} (n1 b0 q0 : Nat) {w0 : va_W} (hdg : decode cc pc = .ok (.iastore, 1)) (hn : pc + 1 = n1) (hb0 : ws[b0]? = some w0) (ha : w0[q0]? = some (a, .inl (dT 0, n, .inl f))) (hi : vp_in i n) (hw : ws.set b0 (w0.set q0 (a, .inl (dT 0, n, .inl (upd f i.toNatClampNeg x)))) = ws') (k : WA p l e R s m args below meth c Q D A cells slots nL n1 ws' lv (st)) : WA p l e R s m args below meth c Q D A cells slots nL pc ws lv (.int x :: .int i :: .ref a :: st) := by
  subst hn; subst hw
  exact fun H locs ls hP hD hS hl => va_iast C.1 C.2.1 C.2.2.2.2.2.1 hP hD hS (bix ws b0 q0) 0 (flat_get hb0 ha) rfl hi hdg (fun H1 locs1 hP hD hS => by rw [flat_set hb0 (List.getElem?_eq_some_iff.mp ha).1] at hP hD; exact k H1 locs1 ls hP hD hS hl)
theorem wa_bast (C : Cx p s m args meth c cc nL own ret D A dT) {a n : Nat} {f : Nat → Int32} {i : Int32} {x : Int32} (n1 b0 q0 : Nat) {w0 : va_W} (hdg : decode cc pc = .ok (.bastore, 1)) (hn : pc + 1 = n1) (hb0 : ws[b0]? = some w0) (ha : w0[q0]? = some (a, .inl (dT 2, n, .inl f))) (hi : vp_in i n) (hw : ws.set b0 (w0.set q0 (a, .inl (dT 2, n, .inl (upd f i.toNatClampNeg (vp_nar .byte x))))) = ws') (k : WA p l e R s m args below meth c Q D A cells slots nL n1 ws' lv (st)) : WA p l e R s m args below meth c Q D A cells slots nL pc ws lv (.int x :: .int i :: .ref a :: st) := by
  subst hn; subst hw
  exact fun H locs ls hP hD hS hl => va_bast C.1 C.2.1 C.2.2.2.2.2.1 hP hD hS (bix ws b0 q0) 2 (flat_get hb0 ha) rfl hi hdg (fun H1 locs1 hP hD hS => by rw [flat_set hb0 (List.getElem?_eq_some_iff.mp ha).1] at hP hD; exact k H1 locs1 ls hP hD hS hl)
theorem wa_zast (C : Cx p s m args meth c cc nL own ret D A dT) {a n : Nat} {f : Nat → Int32} {i : Int32} {x : Int32} (n1 b0 q0 : Nat) {w0 : va_W} (hdg : decode cc pc = .ok (.bastore, 1)) (hn : pc + 1 = n1) (hb0 : ws[b0]? = some w0) (ha : w0[q0]? = some (a, .inl (dT 3, n, .inl f))) (hi : vp_in i n) (hw : ws.set b0 (w0.set q0 (a, .inl (dT 3, n, .inl (upd f i.toNatClampNeg (vp_nar .boolean x))))) = ws') (k : WA p l e R s m args below meth c Q D A cells slots nL n1 ws' lv (st)) : WA p l e R s m args below meth c Q D A cells slots nL pc ws lv (.int x :: .int i :: .ref a :: st) := by
  subst hn; subst hw
  exact fun H locs ls hP hD hS hl => va_zast C.1 C.2.1 C.2.2.2.2.2.1 hP hD hS (bix ws b0 q0) 3 (flat_get hb0 ha) rfl hi hdg (fun H1 locs1 hP hD hS => by rw [flat_set hb0 (List.getElem?_eq_some_iff.mp ha).1] at hP hD; exact k H1 locs1 ls hP hD hS hl)
theorem wa_last (C : Cx p s m args meth c cc nL own ret D A dT) {a n : Nat} {f : Nat → Int64} {i : Int32} {x : Int64} (n1 b0 q0 : Nat) {w0 : va_W} (hdg : decode cc pc = .ok (.lastore, 1)) (hn : pc + 1 = n1) (hb0 : ws[b0]? = some w0) (ha : w0[q0]? = some (a, .inl (dT 1, n, .inr (.inl f)))) (hi : vp_in i n) (hw : ws.set b0 (w0.set q0 (a, .inl (dT 1, n, .inr (.inl (vp_updL f i.toNatClampNeg x))))) = ws') (k : WA p l e R s m args below meth c Q D A cells slots nL n1 ws' lv (st)) : WA p l e R s m args below meth c Q D A cells slots nL pc ws lv (.long x :: .int i :: .ref a :: st) := by
  subst hn; subst hw
  exact fun H locs ls hP hD hS hl => va_last C.1 C.2.1 C.2.2.2.2.2.1 hP hD hS (bix ws b0 q0) 1 (flat_get hb0 ha) rfl hi hdg (fun H1 locs1 hP hD hS => by rw [flat_set hb0 (List.getElem?_eq_some_iff.mp ha).1] at hP hD; exact k H1 locs1 ls hP hD hS hl)
theorem wa_alen (C : Cx p s m args meth c cc nL own ret D A dT) {a : Nat} {x : vp_A} {v : Int32} (n1 b0 q0 t0 : Nat) {w0 : va_W} {ty : FieldType} (hdg : decode cc pc = .ok (.arraylength, 1)) (hn : pc + 1 = n1) (hb0 : ws[b0]? = some w0) (ha : w0[q0]? = some (a, .inl (dT t0, x))) (ht : (tyL dT)[t0]? = some (dT t0, ty)) (hv : Int32.ofNat x.1 = v) (k : WA p l e R s m args below meth c Q D A cells slots nL n1 ws lv (.int v :: st)) : WA p l e R s m args below meth c Q D A cells slots nL pc ws lv (.ref a :: st) := by
  subst hn
  exact fun H locs ls hP hD hS hl => va_alen C.1 C.2.1 C.2.2.2.2.2.1 hP (bix ws b0 q0) t0 (flat_get hb0 ha) ht hv hdg (k H locs ls hP hD hS hl)
theorem wa_mmax (C : Cx p s m args meth c cc nL own ret D A dT) {x y : Int32} {idx : Nat} (n1 : Nat) (hdg : decode cc pc = .ok (.invokestatic idx, 3)) (hn : pc + 3 = n1) (h1 : Cond.methodLink own idx Lib.Math.max.name ∈ lw_good) (h2 : Cond.static Lib.Math.max.name ∈ lw_good) (h3 : Cond.initialized "java/lang/Math" ∈ lw_good) (h4 : Cond.code Lib.Math.max.name Lib.Math.max.code 2 (some .int) ∈ lw_good) (hf9 : 1 ≤ R.frames) (hl9 : (st.map fun v => v.category).sum + 13 ≤ R.locals) (hcs : cells ≤ R.cells ∧ slots ≤ R.slots) (k : WA p l e R s m args below meth c Q D A cells slots nL n1 ws lv (.int (if x < y then y else x) :: st)) : WA p l e R s m args below meth c Q D A cells slots nL pc ws lv (.int y :: .int x :: st) := by
  subst hn
  exact fun H locs ls hP hD hS hl => va_mmax C.1 C.2.1 (C.2.2.1.trans hl.1.symm) C.2.2.2.1 (C.2.2.2.2.1 _ h1) (C.2.2.2.2.1 _ h2) (C.2.2.2.2.1 _ h3) (C.2.2.2.2.1 _ h4) hf9 hl9 hcs.1 hcs.2 hdg (k H locs ls hP hD hS hl)
theorem wa_mmin (C : Cx p s m args meth c cc nL own ret D A dT) {x y : Int32} {idx : Nat} (n1 : Nat) (hdg : decode cc pc = .ok (.invokestatic idx, 3)) (hn : pc + 3 = n1) (h1 : Cond.methodLink own idx Lib.Math.min.name ∈ lw_good) (h2 : Cond.static Lib.Math.min.name ∈ lw_good) (h3 : Cond.initialized "java/lang/Math" ∈ lw_good) (h4 : Cond.code Lib.Math.min.name Lib.Math.min.code 2 (some .int) ∈ lw_good) (hf9 : 1 ≤ R.frames) (hl9 : (st.map fun v => v.category).sum + 13 ≤ R.locals) (hcs : cells ≤ R.cells ∧ slots ≤ R.slots) (k : WA p l e R s m args below meth c Q D A cells slots nL n1 ws lv (.int (if y < x then y else x) :: st)) : WA p l e R s m args below meth c Q D A cells slots nL pc ws lv (.int y :: .int x :: st) := by
  subst hn
  exact fun H locs ls hP hD hS hl => va_mmin C.1 C.2.1 (C.2.2.1.trans hl.1.symm) C.2.2.2.1 (C.2.2.2.2.1 _ h1) (C.2.2.2.2.1 _ h2) (C.2.2.2.2.1 _ h3) (C.2.2.2.2.1 _ h4) hf9 hl9 hcs.1 hcs.2 hdg (k H locs ls hP hD hS hl)
theorem wa_mabs (C : Cx p s m args meth c cc nL own ret D A dT) {x : Int32} {idx : Nat} (n1 : Nat) (hdg : decode cc pc = .ok (.invokestatic idx, 3)) (hn : pc + 3 = n1) (h1 : Cond.methodLink own idx Lib.Math.abs.name ∈ lw_good) (h2 : Cond.static Lib.Math.abs.name ∈ lw_good) (h3 : Cond.initialized "java/lang/Math" ∈ lw_good) (h4 : Cond.code Lib.Math.abs.name Lib.Math.abs.code 1 (some .int) ∈ lw_good) (hf9 : 1 ≤ R.frames) (hl9 : (st.map fun v => v.category).sum + 13 ≤ R.locals) (hcs : cells ≤ R.cells ∧ slots ≤ R.slots) (k : WA p l e R s m args below meth c Q D A cells slots nL n1 ws lv (.int (if 0 ≤ x then x else 0 - x) :: st)) : WA p l e R s m args below meth c Q D A cells slots nL pc ws lv (.int x :: st) := by
  subst hn
  exact fun H locs ls hP hD hS hl => va_mabs C.1 C.2.1 (C.2.2.1.trans hl.1.symm) C.2.2.2.1 (C.2.2.2.2.1 _ h1) (C.2.2.2.2.1 _ h2) (C.2.2.2.2.1 _ h3) (C.2.2.2.2.1 _ h4) hf9 hl9 hcs.1 hcs.2 hdg (k H locs ls hP hD hS hl)
def cpg (sp dp n : Int32) (n0 n1 : Nat) : Bool := decide (0 ≤ sp) && (decide (0 ≤ dp) && (decide (0 ≤ n) && (decide (sp.toNatClampNeg + n.toNatClampNeg ≤ n0) && decide (dp.toNatClampNeg + n.toNatClampNeg ≤ n1))))
theorem cpg_spec {sp dp n : Int32} {n0 n1 : Nat} (h : cpg sp dp n n0 n1 = true) : ¬ sp < 0 ∧ ¬ dp < 0 ∧ ¬ n < 0 ∧ sp.toNatClampNeg + n.toNatClampNeg ≤ n0 ∧ dp.toNatClampNeg + n.toNatClampNeg ≤ n1 := by
  unfold cpg at h
  simp only [Bool.and_eq_true, decide_eq_true_eq] at h
  have h0 : ∀ x : Int32, 0 ≤ x → ¬ x < 0 := fun x a b => by
    rw [Int32.le_iff_toInt_le] at a
    rw [Int32.lt_iff_toInt_lt] at b
    omega
  exact ⟨h0 _ h.1, h0 _ h.2.1, h0 _ h.2.2.1, h.2.2.2.1, h.2.2.2.2⟩
theorem wa_copyi (C : Cx p s m args meth c cc nL own ret D A dT) {a a0 n9 n8 : Nat} {f g : Nat → Int32} {sp dp n : Int32} {idx : Nat} (n1 b0 q0 b1 q1 : Nat) {w0 w1 : va_W} (hdg : decode cc pc = .ok (.invokestatic idx, 3)) (hn : pc + 3 = n1) (h1 : Cond.methodLink own idx arraycopyName ∈ lw_good) (h2 : Cond.native arraycopyName ∈ lw_good) (h3 : Cond.static arraycopyName ∈ lw_good) (h4 : Cond.initialized "java/lang/System" ∈ lw_good) (hb0 : ws[b0]? = some w0) (ha0 : w0[q0]? = some (a0, .inl (dT 0, n9, .inl f))) (hb1 : ws[b1]? = some w1) (ha1 : w1[q1]? = some (a, .inl (dT 0, n8, .inl g))) (hg9 : cpg sp dp n n9 n8 = true) (hf9 : 1 ≤ R.frames) (hl9 : (st.map fun v => v.category).sum + (nativeFrameWords "java/lang/System" "arraycopy" 5 + 11) ≤ R.locals) (hw : ws.set b1 (w1.set q1 (a, .inl (dT 0, n8, .inl (va_cpy f g sp.toNatClampNeg dp.toNatClampNeg n.toNatClampNeg)))) = ws') (k : WA p l e R s m args below meth c Q D A cells slots nL n1 ws' lv (st)) : WA p l e R s m args below meth c Q D A cells slots nL pc ws lv (.int n :: .int dp :: .ref a :: .int sp :: .ref a0 :: st) := by
  subst hn; subst hw
  obtain ⟨c1, c2, c3, c4, c5⟩ := cpg_spec hg9
  exact fun H locs ls hP hD hS hl => va_copyi C.1 C.2.1 (C.2.2.1.trans hl.1.symm) C.2.2.2.1 (C.2.2.2.2.1 _ h1) (C.2.2.2.2.1 _ h2) (C.2.2.2.2.1 _ h3) (C.2.2.2.2.1 _ h4) C.2.2.2.2.2.1 hP hD hS (bix ws b0 q0) (bix ws b1 q1) 0 0 (flat_get hb0 ha0) (flat_get hb1 ha1) rfl rfl rfl c1 c2 c3 c4 c5 (fun _ _ => rfl) hf9 hl9 hdg (fun H1 locs1 hP hD hS => by rw [flat_set hb1 (List.getElem?_eq_some_iff.mp ha1).1] at hP hD; exact k H1 locs1 ls hP hD hS hl)
/-! a cell out of its block, and back -/
theorem perm_erase {α : Type} : ∀ {l : List α} {i : Nat} {x : α}, l[i]? = some x → (x :: l.eraseIdx i).Perm l := by
  intro l
  induction l with
  | nil => intro i x h; cases h
  | cons y l ih =>
    intro i x h
    cases i with
    | zero =>
      simp only [List.getElem?_cons_zero] at h
      cases h
      exact List.Perm.refl _
    | succ i =>
      simp only [List.getElem?_cons_succ] at h
      rw [List.eraseIdx_cons_succ]
      exact (List.Perm.swap y x _).trans (List.Perm.cons y (ih h))
theorem flat_perm_set : ∀ {bs : List va_W} {b : Nat} {w v : va_W}, bs[b]? = some w → (bs.set b v).flatten.Perm (v ++ (bs.eraseIdx b).flatten) := by
  intro bs
  induction bs with
  | nil => intro b w v h; cases h
  | cons y l ih =>
    intro b w v h
    cases b with
    | zero => simp only [List.set_cons_zero, List.flatten_cons, List.eraseIdx_cons_zero]; exact List.Perm.refl _
    | succ b =>
      simp only [List.getElem?_cons_succ] at h
      simp only [List.set_cons_succ, List.flatten_cons, List.eraseIdx_cons_succ]
      refine (List.Perm.append_left y (ih (v := v) h)).trans ?_
      rw [← List.append_assoc, ← List.append_assoc]
      exact List.Perm.append_right _ List.perm_append_comm
theorem set_self {α : Type} {l : List α} {b : Nat} {w : α} (h : l[b]? = some w) : l.set b w = l := by
  apply List.ext_getElem?
  intro i
  rw [List.getElem?_set]
  by_cases hi : b = i
  · subst hi
    have h9 := (List.getElem?_eq_some_iff.mp h).1
    rw [if_pos rfl, if_pos h9, h]
  · rw [if_neg hi]
theorem flat_perm_get {bs : List va_W} {b : Nat} {w : va_W} (h : bs[b]? = some w) : bs.flatten.Perm (w ++ (bs.eraseIdx b).flatten) := by
  have h1 := flat_perm_set (v := w) h
  rw [set_self h] at h1
  exact h1
theorem flat_open {bs : List va_W} {b q : Nat} {w0 : va_W} {x : Nat × va_E} (hb : bs[b]? = some w0) (hq : w0[q]? = some x) : (bs.set b (w0.eraseIdx q) ++ [[x]]).flatten.Perm bs.flatten := by
  rw [List.flatten_append]
  refine List.Perm.trans (List.Perm.append_right _ (flat_perm_set hb)) (List.Perm.trans ?_ (List.Perm.symm (flat_perm_get hb)))
  simp only [List.flatten_cons, List.flatten_nil, List.append_nil]
  refine List.Perm.trans List.perm_append_comm ?_
  rw [← List.append_assoc]
  exact List.Perm.append_right _ (by simpa using perm_erase hq)
theorem bP.perm {bs bs' : List va_W} {H : Heap} (hp : bs'.flatten.Perm bs.flatten) (h : bP D bs H) : bP D bs' H := vP_mem.mpr (fun q hq => vP_mem.mp h q (hp.mem_iff.mp hq))
theorem bD.perm {bs bs' : List va_W} (hp : bs'.flatten.Perm bs.flatten) (h : bD A bs) : bD A bs' := vD_mem.mpr ⟨(hp.pairwise_iff (fun {x y} h9 e9 => h9 e9.symm)).mpr (vD_mem.mp h).1, fun q hq => (vD_mem.mp h).2 q (hp.mem_iff.mp hq)⟩
theorem wa_perm (hp : ws'.flatten.Perm ws.flatten) (k : WA p l e R s m args below meth c Q D A cells slots nL pc ws' lv (st)) : WA p l e R s m args below meth c Q D A cells slots nL pc ws lv (st) := fun H locs ls hP hD hS hl => k H locs ls (bP.perm hp hP) (bD.perm hp hD) hS hl
theorem wa_open (b q : Nat) {w0 : va_W} {x : Nat × va_E} (hb : ws[b]? = some w0) (hq : w0[q]? = some x) (k : WA p l e R s m args below meth c Q D A cells slots nL pc (ws.set b (w0.eraseIdx q) ++ [[x]]) lv (st)) : WA p l e R s m args below meth c Q D A cells slots nL pc ws lv (st) := wa_perm (flat_open hb hq) k
theorem wa_close (b q : Nat) (w0 : va_W) {x : Nat × va_E} (hb : ws[b]? = some (w0.eraseIdx q)) (hq : w0[q]? = some x) (hw : ws.set b w0 = ws') (k : WA p l e R s m args below meth c Q D A cells slots nL pc ws' lv (st)) : WA p l e R s m args below meth c Q D A cells slots nL pc (ws ++ [[x]]) lv (st) := by
  subst hw
  refine wa_perm ?_ k
  have h1 : (ws.set b w0)[b]? = some w0 := by
    have := (List.getElem?_eq_some_iff.mp hb).1
    simp [this]
  have h2 := flat_open h1 hq
  have h3 : (ws.set b w0).set b (w0.eraseIdx q) = ws := by
    rw [List.set_set]
    exact set_self hb
  rw [h3] at h2
  exact h2.symm
/-! contracts -/
/-- a world stands at t, apart, in A -/
def WB (D : va_G) (dT : Nat → ClassId) (A : Nat → Prop) (w : List va_W) (t : State) : Prop := bP D w t.heap ∧ va_K D vwCl (tyL dT) t ∧ bD A w
def PC (D : va_G) (dT : Nat → ClassId) (w : List va_W) (sz : Nat) (av : List Value) : Array Value → State → Prop := va_Pc av (fun U => U.heap.size = sz ∧ bP D w U.heap ∧ va_K D vwCl (tyL dT) U ∧ bD (fun _ => True) w)
def QI (D : va_G) (dT : Nat → ClassId) (A : Nat → Prop) (w : List va_W) (r : Int32) : Array Value → State → Outcome → State → Prop := va_Qi (fun r9 (_ : Unit) => r9 = r) (fun _ t => WB D dT A w t) A
def QL (D : va_G) (dT : Nat → ClassId) (A : Nat → Prop) (w : List va_W) (r : Int64) : Array Value → State → Outcome → State → Prop := va_Ql (fun r9 (_ : Unit) => r9 = r) (fun _ t => WB D dT A w t) A
def QV (D : va_G) (dT : Nat → ClassId) (A : Nat → Prop) (w : List va_W) : Array Value → State → Outcome → State → Prop := va_Qv (fun (_ : Unit) => True) (fun _ t => WB D dT A w t) A
def mws (y : MethodName) (cb : ByteArray) (n : Nat) (ret : Option FieldType) : List Cond := .code y cb n ret :: lw_good
/-- called with av in the world w0 the method answers r and leaves the world w1 (nothing is made) -/
def CTi (l : Launch) (y : MethodName) (cb : ByteArray) (n : Nat) (ret : Option FieldType) (rm : Room) (D : va_G) (dT : Nat → ClassId) (av : List Value) (w0 w1 : List va_W) (r : Int32) : Prop := ∀ sz, Met l y (mws y cb n ret) rm (PC D dT w0 sz av) (QI D dT (bA w0 sz) w1 r) 0 0 (bA w0 sz)
def CTl (l : Launch) (y : MethodName) (cb : ByteArray) (n : Nat) (ret : Option FieldType) (rm : Room) (D : va_G) (dT : Nat → ClassId) (av : List Value) (w0 w1 : List va_W) (r : Int64) : Prop := ∀ sz, Met l y (mws y cb n ret) rm (PC D dT w0 sz av) (QL D dT (bA w0 sz) w1 r) 0 0 (bA w0 sz)
def CTv (l : Launch) (y : MethodName) (cb : ByteArray) (n : Nat) (ret : Option FieldType) (rm : Room) (D : va_G) (dT : Nat → ClassId) (av : List Value) (w0 w1 : List va_W) : Prop := ∀ sz, Met l y (mws y cb n ret) rm (PC D dT w0 sz av) (QV D dT (bA w0 sz) w1) 0 0 (bA w0 sz)
theorem CTi.of {y : MethodName} {cb : ByteArray} {n : Nat} {rm : Room} {av : List Value} {w0 w1 : List va_W} {r : Int32} {lv0 : List (Nat × Value)} (hy : plainName y.cls = true) (hlen : (lg_sl av).length ≤ n) (hlv : lv_args 0 av = lv0)
    (body : ∀ p e s m args below meth c A, Cx p s m args meth c cb n y.cls ret D A dT → WA p l e rm s m args below meth c (MQ below (QI D dT A w1 r) args s 0 0 A) D A 0 0 n 0 w0 lv0 []) : CTi l y cb n ret rm D dT av w0 w1 r := by
  intro sz
  refine Met.ofW (cc := cb) (maxL := n) (ret := ret) hy rfl ?_
  intro p e s m args below meth c s₁ B hml hv
  obtain ⟨rfl, hsz, hP, hK, hD0⟩ := hv
  have hts := atoms_spec (ws := mws y cb n ret) B.pre
  subst hsz
  have hC : Cx p s m av.toArray meth c cb n y.cls ret D (bA w0 s.heap.size) dT := ⟨B.exec, B.bytes, hml, findClass_of_methodNamed B.named, fun w h => hts w (List.mem_cons_of_mem _ h), hK, fun q h => Or.inr h, B.returns, B.notSynchronized⟩
  have h9 := body p e s m av.toArray below meth c (bA w0 s.heap.size) hC
  rw [lg_entry_eq]
  exact h9 s.heap [] _ hP (va_D.self (sz := s.heap.size) hD0) va_S.rf (hlv ▸ lv_entry av hlen)
theorem CTl.of {y : MethodName} {cb : ByteArray} {n : Nat} {rm : Room} {av : List Value} {w0 w1 : List va_W} {r : Int64} {lv0 : List (Nat × Value)} (hy : plainName y.cls = true) (hlen : (lg_sl av).length ≤ n) (hlv : lv_args 0 av = lv0)
    (body : ∀ p e s m args below meth c A, Cx p s m args meth c cb n y.cls ret D A dT → WA p l e rm s m args below meth c (MQ below (QL D dT A w1 r) args s 0 0 A) D A 0 0 n 0 w0 lv0 []) : CTl l y cb n ret rm D dT av w0 w1 r := by
  intro sz
  refine Met.ofW (cc := cb) (maxL := n) (ret := ret) hy rfl ?_
  intro p e s m args below meth c s₁ B hml hv
  obtain ⟨rfl, hsz, hP, hK, hD0⟩ := hv
  have hts := atoms_spec (ws := mws y cb n ret) B.pre
  subst hsz
  have hC : Cx p s m av.toArray meth c cb n y.cls ret D (bA w0 s.heap.size) dT := ⟨B.exec, B.bytes, hml, findClass_of_methodNamed B.named, fun w h => hts w (List.mem_cons_of_mem _ h), hK, fun q h => Or.inr h, B.returns, B.notSynchronized⟩
  have h9 := body p e s m av.toArray below meth c (bA w0 s.heap.size) hC
  rw [lg_entry_eq]
  exact h9 s.heap [] _ hP (va_D.self (sz := s.heap.size) hD0) va_S.rf (hlv ▸ lv_entry av hlen)
theorem CTv.of {y : MethodName} {cb : ByteArray} {n : Nat} {rm : Room} {av : List Value} {w0 w1 : List va_W} {lv0 : List (Nat × Value)} (hy : plainName y.cls = true) (hlen : (lg_sl av).length ≤ n) (hlv : lv_args 0 av = lv0)
    (body : ∀ p e s m args below meth c A, Cx p s m args meth c cb n y.cls ret D A dT → WA p l e rm s m args below meth c (MQ below (QV D dT A w1) args s 0 0 A) D A 0 0 n 0 w0 lv0 []) : CTv l y cb n ret rm D dT av w0 w1 := by
  intro sz
  refine Met.ofW (cc := cb) (maxL := n) (ret := ret) hy rfl ?_
  intro p e s m args below meth c s₁ B hml hv
  obtain ⟨rfl, hsz, hP, hK, hD0⟩ := hv
  have hts := atoms_spec (ws := mws y cb n ret) B.pre
  subst hsz
  have hC : Cx p s m av.toArray meth c cb n y.cls ret D (bA w0 s.heap.size) dT := ⟨B.exec, B.bytes, hml, findClass_of_methodNamed B.named, fun w h => hts w (List.mem_cons_of_mem _ h), hK, fun q h => Or.inr h, B.returns, B.notSynchronized⟩
  have h9 := body p e s m av.toArray below meth c (bA w0 s.heap.size) hC
  rw [lg_entry_eq]
  exact h9 s.heap [] _ hP (va_D.self (sz := s.heap.size) hD0) va_S.rf (hlv ▸ lv_entry av hlen)
theorem wa_iret {A : Nat → Prop} {w1 : List va_W} {r v : Int32} (C : Cx p s m args meth c cc nL own (some .int) D A dT) (hdg : decode cc pc = .ok (.ireturn, 1)) (hw : ws = w1) (hv : v = r) : WA p l e R s m args below meth c (MQ below (QI D dT A w1 r) args s 0 0 A) D A 0 0 nL pc ws lv [.int v] := by
  subst hw; subst hv
  intro H locs ls hP hD hS hl
  exact W.iret C.1 C.2.1 C.2.2.2.2.2.2.2.1 (fun t ht hW => ⟨⟨v, (), rfl, rfl, by rw [ht]; exact hP, va_K.moved hW.alike C.2.2.2.2.2.1, hD⟩, hS.F ht⟩) hS.2.2 hdg C.2.2.2.2.2.2.2.2
theorem wa_zret {A : Nat → Prop} {w1 : List va_W} {r v : Int32} (C : Cx p s m args meth c cc nL own (some .boolean) D A dT) (hdg : decode cc pc = .ok (.ireturn, 1)) (hz : narrow .boolean (.int v) = .int v) (hw : ws = w1) (hv : v = r) : WA p l e R s m args below meth c (MQ below (QI D dT A w1 r) args s 0 0 A) D A 0 0 nL pc ws lv [.int v] := by
  subst hw; subst hv
  intro H locs ls hP hD hS hl
  exact W.zret C.1 C.2.1 C.2.2.2.2.2.2.2.1 hz (fun t ht hW => ⟨⟨v, (), rfl, rfl, by rw [ht]; exact hP, va_K.moved hW.alike C.2.2.2.2.2.1, hD⟩, hS.F ht⟩) hS.2.2 hdg C.2.2.2.2.2.2.2.2
theorem wa_lret {A : Nat → Prop} {w1 : List va_W} {r v : Int64} (C : Cx p s m args meth c cc nL own (some .long) D A dT) (hdg : decode cc pc = .ok (.lreturn, 1)) (hw : ws = w1) (hv : v = r) : WA p l e R s m args below meth c (MQ below (QL D dT A w1 r) args s 0 0 A) D A 0 0 nL pc ws lv [.long v] := by
  subst hw; subst hv
  intro H locs ls hP hD hS hl
  exact W.lret C.1 C.2.1 C.2.2.2.2.2.2.2.1 (fun t ht hW => ⟨⟨v, (), rfl, rfl, by rw [ht]; exact hP, va_K.moved hW.alike C.2.2.2.2.2.1, hD⟩, hS.F ht⟩) hS.2.2 hdg C.2.2.2.2.2.2.2.2
theorem wa_vret {A : Nat → Prop} {w1 : List va_W} (C : Cx p s m args meth c cc nL own none D A dT) (hdg : decode cc pc = .ok (.return_, 1)) (hw : ws = w1) : WA p l e R s m args below meth c (MQ below (QV D dT A w1) args s 0 0 A) D A 0 0 nL pc ws lv [] := by
  subst hw
  intro H locs ls hP hD hS hl
  exact W.vret C.1 C.2.1 C.2.2.2.2.2.2.2.1 (fun t ht hW => ⟨⟨(), rfl, trivial, by rw [ht]; exact hP, va_K.moved hW.alike C.2.2.2.2.2.1, hD⟩, hS.F ht⟩) hS.2.2 hdg C.2.2.2.2.2.2.2.2
/-- the blindness of PC to frames -/
theorem PC.blind {w : List va_W} {sz : Nat} {av : List Value} : FrameBlind (PC D dT w sz av) := fun a U g mk q => by
  obtain ⟨q0, q1, qP, qK, qD⟩ := q
  exact ⟨q0, q1, qP, va_K.moved (u := U) (U := U.calling g mk a) (Vm.Alike.refl U.vm) qK, qD⟩
/-- what a call of a method needs of the tables -/
def KV (own : String) (idx : Nat) (y : MethodName) (cb : ByteArray) (n : Nat) (ret : Option FieldType) (na : Nat) : Prop := GoodIn lw_good (wsV own idx y.cls y (mws y cb n ret)) ∧ (y.cls = y.cls ∧ y.cls ≠ "java/lang/invoke/MethodHandle" ∧ y.cls ≠ "java/lang/invoke/VarHandle" ∧ (parseMethodDescriptor y.desc).map (fun d => d.parameters.length) = some na)
def KS (own : String) (idx : Nat) (y : MethodName) (cb : ByteArray) (n : Nat) (ret : Option FieldType) (na : Nat) : Prop := GoodIn lw_good (mws y cb n ret) ∧ Cond.methodLink own idx y ∈ lw_good ∧ Cond.static y ∈ lw_good ∧ Cond.initialized y.cls ∈ lw_good ∧ (y.cls ≠ "java/lang/invoke/MethodHandle" ∧ y.cls ≠ "java/lang/invoke/VarHandle" ∧ (parseMethodDescriptor y.desc).map (fun d => d.parameters.length) = some na)
theorem cwS9 {own : String} {idx na nY : Nat} {y : MethodName} {cb : ByteArray} {rY : Option FieldType} {rm : Room} (ht : ∀ w ∈ lw_good, w.before args s = true) (hk : KS own idx y cb nY rY na) (hrc : rm.cells = 0) (hrs : rm.slots = 0) (hR : rm.frames + 1 ≤ R.frames ∧ 8 + (nY + 11) + rm.locals ≤ R.locals) : CallB R s args own idx y cb nY rY (mws y cb nY rY) rm 0 0 na ∧ (Cond.static y).before args s = true :=
  ⟨callB_of na ht hk.1 rfl hrc hrs (ht _ hk.2.2.2.1) (ht _ hk.2.1) hk.2.2.2.2 hR, ht _ hk.2.2.1⟩
theorem KV.mk {own : String} {idx : Nat} {y : MethodName} {cb : ByteArray} {n na : Nat} {ret : Option FieldType} (h1 : Cond.methodLink own idx y ∈ lw_good) (h2 : Cond.instanceMethod y ∈ lw_good) (h3 : Cond.selects y.cls y y ∈ lw_good) (h4 : Cond.initialized y.cls ∈ lw_good) (h5 : Cond.code y cb n ret ∈ lw_good) (h6 : y.cls ≠ "java/lang/invoke/MethodHandle" ∧ y.cls ≠ "java/lang/invoke/VarHandle" ∧ (parseMethodDescriptor y.desc).map (fun d => d.parameters.length) = some na) : KV own idx y cb n ret na := ⟨gd_all (fun w hw => by
  unfold wsV mws at hw
  simp only [List.cons_append, List.nil_append, List.mem_cons] at hw
  rcases hw with rfl | rfl | rfl | rfl | rfl | hw <;> assumption), rfl, h6⟩
theorem KS.mk {own : String} {idx : Nat} {y : MethodName} {cb : ByteArray} {n na : Nat} {ret : Option FieldType} (h1 : Cond.methodLink own idx y ∈ lw_good) (h2 : Cond.static y ∈ lw_good) (h4 : Cond.initialized y.cls ∈ lw_good) (h5 : Cond.code y cb n ret ∈ lw_good) (h6 : y.cls ≠ "java/lang/invoke/MethodHandle" ∧ y.cls ≠ "java/lang/invoke/VarHandle" ∧ (parseMethodDescriptor y.desc).map (fun d => d.parameters.length) = some na) : KS own idx y cb n ret na := ⟨gd_all (fun w hw => by
  unfold mws at hw
  simp only [List.mem_cons] at hw
  rcases hw with rfl | hw <;> assumption), h1, h2, h4, h6⟩

theorem wa_callVi (C : Cx p s m args meth c cc nL own ret D A dT) {y : MethodName} {cb : ByteArray} {nY na idx : Nat} {rY : Option FieldType} {rm : Room} {As st0 : List Value} {b ci b1 q1 : Nat} {w9 : va_W} {fs : List Value} {T9 : u_T} {N9 : Nat} {wc : List va_W} {w1 : List va_W} {r : Int32} (n1 : Nat) (hdg : decode cc pc = .ok (.invokevirtual idx, 3)) (hn : pc + 3 = n1) (hk : KV own idx y cb nY rY na) (hM : CTi l y cb nY rY rm D dT (.ref b :: As) wc w1 r) (hc0 : rm.cells = 0 ∧ rm.slots = 0) (hR : rm.frames + 1 ≤ R.frames ∧ 8 + (nY + 11) + rm.locals ≤ R.locals) (hrc : vwCl[ci]? = some (y.cls, T9, N9)) (hr9 : ws[b1]? = some w9) (hre : w9[q1]? = some (b, .inr (ci, fs))) (isC isR isF : List Nat) (hC : bsub isC ws wc) (hRr : bsub isR ws (isR.filterMap (fun i => ws[i]?))) (hnC : va_nd isC = true) (hnR : va_nd isR = true) (hdj : ∀ i ∈ isR, i ∉ isC) (hnF : va_nd isF = true) (hF : bsub isF (isR.filterMap (fun i => ws[i]?) ++ w1) ws') (hna : As.length = na) (hst : st0 = As.reverse ++ .ref b :: st) (hcs : cells ≤ R.cells ∧ slots ≤ R.slots) (hW : (st.map fun v => v.category).sum ≤ 8) (k : WA p l e R s m args below meth c Q D A cells slots nL n1 ws' lv (.int r :: st)) : WA p l e R s m args below meth c Q D A cells slots nL pc ws lv (st0) := by
  subst hn; subst hst
  intro H locs ls hP hD hS hl
  have hA := C.2.2.2.2.2.2.1
  have hK := C.2.2.2.2.2.1
  have hPc := bP.cut hP hC
  have hDc : bD A wc := bD.cut hD hnC hC
  have hFc : ∀ q, bA wc H.size q → A q := bA_free hD hS hA hC
  refine va_calli (va_runV (As := As) (rest := st) ⟨C.1, C.2.1, C.2.2.1, C.2.2.2.1, C.2.2.2.2.1⟩ (hM H.size) (cwV na C.2.2.2.2.1 hk.1 rfl hc0.1 hc0.2 hk.2 hR) ⟨PC.blind, va_recv hK hP hrc (flat_get hr9 hre), fun U hU hW => ⟨rfl, by rw [hU], by rw [hU]; exact hPc, va_K.moved hW.alike hK, bD.weaken hDc (fun _ _ => trivial)⟩⟩ rfl hna hl.1 rfl (lv_room hW) hdg ⟨hcs.1, hcs.2⟩) hS (fun q _ h => hFc q h) hFc (fun r9 u t H1 locs1 ht hvm hw hB hz1 hk1 hS1 => ?_)
  obtain ⟨hP1, hK1, hD1⟩ := hB
  rw [ht] at hP1
  subst hw
  obtain ⟨hP2, hD2⟩ := b_join hP hD hC hRr hnR hdj hk1 hFc hP1 hD1
  exact k H1 locs1 ls (bP.cut hP2 hF) (bD.cut hD2 hnF hF) hS1 hl
theorem wa_callVAi (C : Cx p s m args meth c cc nL own ret D A dT) {y : MethodName} {cb : ByteArray} {nY na idx : Nat} {rY : Option FieldType} {rm : Room} {As st0 : List Value} {b ci b1 q1 : Nat} {w9 : va_W} {fs : List Value} {T9 : u_T} {N9 : Nat} {w1 : List va_W} {r : Int32} (n1 : Nat) (hdg : decode cc pc = .ok (.invokevirtual idx, 3)) (hn : pc + 3 = n1) (hk : KV own idx y cb nY rY na) (hM : CTi l y cb nY rY rm D dT (.ref b :: As) ws w1 r) (hc0 : rm.cells = 0 ∧ rm.slots = 0) (hR : rm.frames + 1 ≤ R.frames ∧ 8 + (nY + 11) + rm.locals ≤ R.locals) (hrc : vwCl[ci]? = some (y.cls, T9, N9)) (hr9 : ws[b1]? = some w9) (hre : w9[q1]? = some (b, .inr (ci, fs))) (hna : As.length = na) (hst : st0 = As.reverse ++ .ref b :: st) (hcs : cells ≤ R.cells ∧ slots ≤ R.slots) (hW : (st.map fun v => v.category).sum ≤ 8) (k : WA p l e R s m args below meth c Q D A cells slots nL n1 w1 lv (.int r :: st)) : WA p l e R s m args below meth c Q D A cells slots nL pc ws lv (st0) := by
  subst hn; subst hst
  intro H locs ls hP hD hS hl
  have hA := C.2.2.2.2.2.2.1
  have hK := C.2.2.2.2.2.1
  have hPc := hP
  have hDc : bD A ws := hD
  have hFc : ∀ q, bA ws H.size q → A q := fun q hq => hq.elim (fun ⟨k, e9, hk9⟩ => hD.2 k (q, e9) hk9) (fun h9 => hA q (Nat.le_trans hS.1 h9))
  refine va_calli (va_runV (As := As) (rest := st) ⟨C.1, C.2.1, C.2.2.1, C.2.2.2.1, C.2.2.2.2.1⟩ (hM H.size) (cwV na C.2.2.2.2.1 hk.1 rfl hc0.1 hc0.2 hk.2 hR) ⟨PC.blind, va_recv hK hP hrc (flat_get hr9 hre), fun U hU hW => ⟨rfl, by rw [hU], by rw [hU]; exact hPc, va_K.moved hW.alike hK, bD.weaken hDc (fun _ _ => trivial)⟩⟩ rfl hna hl.1 rfl (lv_room hW) hdg ⟨hcs.1, hcs.2⟩) hS (fun q _ h => hFc q h) hFc (fun r9 u t H1 locs1 ht hvm hw hB hz1 hk1 hS1 => ?_)
  obtain ⟨hP1, hK1, hD1⟩ := hB
  rw [ht] at hP1
  subst hw
  exact k H1 locs1 ls hP1 (bD.weaken hD1 (fun q h => hFc q h)) hS1 hl
theorem wa_callVl (C : Cx p s m args meth c cc nL own ret D A dT) {y : MethodName} {cb : ByteArray} {nY na idx : Nat} {rY : Option FieldType} {rm : Room} {As st0 : List Value} {b ci b1 q1 : Nat} {w9 : va_W} {fs : List Value} {T9 : u_T} {N9 : Nat} {wc : List va_W} {w1 : List va_W} {r : Int64} (n1 : Nat) (hdg : decode cc pc = .ok (.invokevirtual idx, 3)) (hn : pc + 3 = n1) (hk : KV own idx y cb nY rY na) (hM : CTl l y cb nY rY rm D dT (.ref b :: As) wc w1 r) (hc0 : rm.cells = 0 ∧ rm.slots = 0) (hR : rm.frames + 1 ≤ R.frames ∧ 8 + (nY + 11) + rm.locals ≤ R.locals) (hrc : vwCl[ci]? = some (y.cls, T9, N9)) (hr9 : ws[b1]? = some w9) (hre : w9[q1]? = some (b, .inr (ci, fs))) (isC isR isF : List Nat) (hC : bsub isC ws wc) (hRr : bsub isR ws (isR.filterMap (fun i => ws[i]?))) (hnC : va_nd isC = true) (hnR : va_nd isR = true) (hdj : ∀ i ∈ isR, i ∉ isC) (hnF : va_nd isF = true) (hF : bsub isF (isR.filterMap (fun i => ws[i]?) ++ w1) ws') (hna : As.length = na) (hst : st0 = As.reverse ++ .ref b :: st) (hcs : cells ≤ R.cells ∧ slots ≤ R.slots) (hW : (st.map fun v => v.category).sum ≤ 8) (k : WA p l e R s m args below meth c Q D A cells slots nL n1 ws' lv (.long r :: st)) : WA p l e R s m args below meth c Q D A cells slots nL pc ws lv (st0) := by
  subst hn; subst hst
  intro H locs ls hP hD hS hl
  have hA := C.2.2.2.2.2.2.1
  have hK := C.2.2.2.2.2.1
  have hPc := bP.cut hP hC
  have hDc : bD A wc := bD.cut hD hnC hC
  have hFc : ∀ q, bA wc H.size q → A q := bA_free hD hS hA hC
  refine va_calll (va_runV (As := As) (rest := st) ⟨C.1, C.2.1, C.2.2.1, C.2.2.2.1, C.2.2.2.2.1⟩ (hM H.size) (cwV na C.2.2.2.2.1 hk.1 rfl hc0.1 hc0.2 hk.2 hR) ⟨PC.blind, va_recv hK hP hrc (flat_get hr9 hre), fun U hU hW => ⟨rfl, by rw [hU], by rw [hU]; exact hPc, va_K.moved hW.alike hK, bD.weaken hDc (fun _ _ => trivial)⟩⟩ rfl hna hl.1 rfl (lv_room hW) hdg ⟨hcs.1, hcs.2⟩) hS (fun q _ h => hFc q h) hFc (fun r9 u t H1 locs1 ht hvm hw hB hz1 hk1 hS1 => ?_)
  obtain ⟨hP1, hK1, hD1⟩ := hB
  rw [ht] at hP1
  subst hw
  obtain ⟨hP2, hD2⟩ := b_join hP hD hC hRr hnR hdj hk1 hFc hP1 hD1
  exact k H1 locs1 ls (bP.cut hP2 hF) (bD.cut hD2 hnF hF) hS1 hl
theorem wa_callVAl (C : Cx p s m args meth c cc nL own ret D A dT) {y : MethodName} {cb : ByteArray} {nY na idx : Nat} {rY : Option FieldType} {rm : Room} {As st0 : List Value} {b ci b1 q1 : Nat} {w9 : va_W} {fs : List Value} {T9 : u_T} {N9 : Nat} {w1 : List va_W} {r : Int64} (n1 : Nat) (hdg : decode cc pc = .ok (.invokevirtual idx, 3)) (hn : pc + 3 = n1) (hk : KV own idx y cb nY rY na) (hM : CTl l y cb nY rY rm D dT (.ref b :: As) ws w1 r) (hc0 : rm.cells = 0 ∧ rm.slots = 0) (hR : rm.frames + 1 ≤ R.frames ∧ 8 + (nY + 11) + rm.locals ≤ R.locals) (hrc : vwCl[ci]? = some (y.cls, T9, N9)) (hr9 : ws[b1]? = some w9) (hre : w9[q1]? = some (b, .inr (ci, fs))) (hna : As.length = na) (hst : st0 = As.reverse ++ .ref b :: st) (hcs : cells ≤ R.cells ∧ slots ≤ R.slots) (hW : (st.map fun v => v.category).sum ≤ 8) (k : WA p l e R s m args below meth c Q D A cells slots nL n1 w1 lv (.long r :: st)) : WA p l e R s m args below meth c Q D A cells slots nL pc ws lv (st0) := by
  subst hn; subst hst
  intro H locs ls hP hD hS hl
  have hA := C.2.2.2.2.2.2.1
  have hK := C.2.2.2.2.2.1
  have hPc := hP
  have hDc : bD A ws := hD
  have hFc : ∀ q, bA ws H.size q → A q := fun q hq => hq.elim (fun ⟨k, e9, hk9⟩ => hD.2 k (q, e9) hk9) (fun h9 => hA q (Nat.le_trans hS.1 h9))
  refine va_calll (va_runV (As := As) (rest := st) ⟨C.1, C.2.1, C.2.2.1, C.2.2.2.1, C.2.2.2.2.1⟩ (hM H.size) (cwV na C.2.2.2.2.1 hk.1 rfl hc0.1 hc0.2 hk.2 hR) ⟨PC.blind, va_recv hK hP hrc (flat_get hr9 hre), fun U hU hW => ⟨rfl, by rw [hU], by rw [hU]; exact hPc, va_K.moved hW.alike hK, bD.weaken hDc (fun _ _ => trivial)⟩⟩ rfl hna hl.1 rfl (lv_room hW) hdg ⟨hcs.1, hcs.2⟩) hS (fun q _ h => hFc q h) hFc (fun r9 u t H1 locs1 ht hvm hw hB hz1 hk1 hS1 => ?_)
  obtain ⟨hP1, hK1, hD1⟩ := hB
  rw [ht] at hP1
  subst hw
  exact k H1 locs1 ls hP1 (bD.weaken hD1 (fun q h => hFc q h)) hS1 hl
theorem wa_callVv (C : Cx p s m args meth c cc nL own ret D A dT) {y : MethodName} {cb : ByteArray} {nY na idx : Nat} {rY : Option FieldType} {rm : Room} {As st0 : List Value} {b ci b1 q1 : Nat} {w9 : va_W} {fs : List Value} {T9 : u_T} {N9 : Nat} {wc : List va_W} {w1 : List va_W}  (n1 : Nat) (hdg : decode cc pc = .ok (.invokevirtual idx, 3)) (hn : pc + 3 = n1) (hk : KV own idx y cb nY rY na) (hM : CTv l y cb nY rY rm D dT (.ref b :: As) wc w1) (hc0 : rm.cells = 0 ∧ rm.slots = 0) (hR : rm.frames + 1 ≤ R.frames ∧ 8 + (nY + 11) + rm.locals ≤ R.locals) (hrc : vwCl[ci]? = some (y.cls, T9, N9)) (hr9 : ws[b1]? = some w9) (hre : w9[q1]? = some (b, .inr (ci, fs))) (isC isR isF : List Nat) (hC : bsub isC ws wc) (hRr : bsub isR ws (isR.filterMap (fun i => ws[i]?))) (hnC : va_nd isC = true) (hnR : va_nd isR = true) (hdj : ∀ i ∈ isR, i ∉ isC) (hnF : va_nd isF = true) (hF : bsub isF (isR.filterMap (fun i => ws[i]?) ++ w1) ws') (hna : As.length = na) (hst : st0 = As.reverse ++ .ref b :: st) (hcs : cells ≤ R.cells ∧ slots ≤ R.slots) (hW : (st.map fun v => v.category).sum ≤ 8) (k : WA p l e R s m args below meth c Q D A cells slots nL n1 ws' lv (st)) : WA p l e R s m args below meth c Q D A cells slots nL pc ws lv (st0) := by
  subst hn; subst hst
  intro H locs ls hP hD hS hl
  have hA := C.2.2.2.2.2.2.1
  have hK := C.2.2.2.2.2.1
  have hPc := bP.cut hP hC
  have hDc : bD A wc := bD.cut hD hnC hC
  have hFc : ∀ q, bA wc H.size q → A q := bA_free hD hS hA hC
  refine va_callv (va_runV (As := As) (rest := st) ⟨C.1, C.2.1, C.2.2.1, C.2.2.2.1, C.2.2.2.2.1⟩ (hM H.size) (cwV na C.2.2.2.2.1 hk.1 rfl hc0.1 hc0.2 hk.2 hR) ⟨PC.blind, va_recv hK hP hrc (flat_get hr9 hre), fun U hU hW => ⟨rfl, by rw [hU], by rw [hU]; exact hPc, va_K.moved hW.alike hK, bD.weaken hDc (fun _ _ => trivial)⟩⟩ rfl hna hl.1 rfl (lv_room hW) hdg ⟨hcs.1, hcs.2⟩) hS (fun q _ h => hFc q h) hFc (fun u t H1 locs1 ht hvm hw hB hz1 hk1 hS1 => ?_)
  obtain ⟨hP1, hK1, hD1⟩ := hB
  rw [ht] at hP1
  obtain ⟨hP2, hD2⟩ := b_join hP hD hC hRr hnR hdj hk1 hFc hP1 hD1
  exact k H1 locs1 ls (bP.cut hP2 hF) (bD.cut hD2 hnF hF) hS1 hl
theorem wa_callVAv (C : Cx p s m args meth c cc nL own ret D A dT) {y : MethodName} {cb : ByteArray} {nY na idx : Nat} {rY : Option FieldType} {rm : Room} {As st0 : List Value} {b ci b1 q1 : Nat} {w9 : va_W} {fs : List Value} {T9 : u_T} {N9 : Nat} {w1 : List va_W}  (n1 : Nat) (hdg : decode cc pc = .ok (.invokevirtual idx, 3)) (hn : pc + 3 = n1) (hk : KV own idx y cb nY rY na) (hM : CTv l y cb nY rY rm D dT (.ref b :: As) ws w1) (hc0 : rm.cells = 0 ∧ rm.slots = 0) (hR : rm.frames + 1 ≤ R.frames ∧ 8 + (nY + 11) + rm.locals ≤ R.locals) (hrc : vwCl[ci]? = some (y.cls, T9, N9)) (hr9 : ws[b1]? = some w9) (hre : w9[q1]? = some (b, .inr (ci, fs))) (hna : As.length = na) (hst : st0 = As.reverse ++ .ref b :: st) (hcs : cells ≤ R.cells ∧ slots ≤ R.slots) (hW : (st.map fun v => v.category).sum ≤ 8) (k : WA p l e R s m args below meth c Q D A cells slots nL n1 w1 lv (st)) : WA p l e R s m args below meth c Q D A cells slots nL pc ws lv (st0) := by
  subst hn; subst hst
  intro H locs ls hP hD hS hl
  have hA := C.2.2.2.2.2.2.1
  have hK := C.2.2.2.2.2.1
  have hPc := hP
  have hDc : bD A ws := hD
  have hFc : ∀ q, bA ws H.size q → A q := fun q hq => hq.elim (fun ⟨k, e9, hk9⟩ => hD.2 k (q, e9) hk9) (fun h9 => hA q (Nat.le_trans hS.1 h9))
  refine va_callv (va_runV (As := As) (rest := st) ⟨C.1, C.2.1, C.2.2.1, C.2.2.2.1, C.2.2.2.2.1⟩ (hM H.size) (cwV na C.2.2.2.2.1 hk.1 rfl hc0.1 hc0.2 hk.2 hR) ⟨PC.blind, va_recv hK hP hrc (flat_get hr9 hre), fun U hU hW => ⟨rfl, by rw [hU], by rw [hU]; exact hPc, va_K.moved hW.alike hK, bD.weaken hDc (fun _ _ => trivial)⟩⟩ rfl hna hl.1 rfl (lv_room hW) hdg ⟨hcs.1, hcs.2⟩) hS (fun q _ h => hFc q h) hFc (fun u t H1 locs1 ht hvm hw hB hz1 hk1 hS1 => ?_)
  obtain ⟨hP1, hK1, hD1⟩ := hB
  rw [ht] at hP1
  exact k H1 locs1 ls hP1 (bD.weaken hD1 (fun q h => hFc q h)) hS1 hl
theorem wa_callSi (C : Cx p s m args meth c cc nL own ret D A dT) {y : MethodName} {cb : ByteArray} {nY na idx : Nat} {rY : Option FieldType} {rm : Room} {As st0 : List Value} {wc : List va_W} {w1 : List va_W} {r : Int32} (n1 : Nat) (hdg : decode cc pc = .ok (.invokestatic idx, 3)) (hn : pc + 3 = n1) (hk : KS own idx y cb nY rY na) (hM : CTi l y cb nY rY rm D dT As wc w1 r) (hc0 : rm.cells = 0 ∧ rm.slots = 0) (hR : rm.frames + 1 ≤ R.frames ∧ 8 + (nY + 11) + rm.locals ≤ R.locals) (isC isR isF : List Nat) (hC : bsub isC ws wc) (hRr : bsub isR ws (isR.filterMap (fun i => ws[i]?))) (hnC : va_nd isC = true) (hnR : va_nd isR = true) (hdj : ∀ i ∈ isR, i ∉ isC) (hnF : va_nd isF = true) (hF : bsub isF (isR.filterMap (fun i => ws[i]?) ++ w1) ws') (hna : As.length = na) (hst : st0 = As.reverse ++ st) (hcs : cells ≤ R.cells ∧ slots ≤ R.slots) (hW : (st.map fun v => v.category).sum ≤ 8) (k : WA p l e R s m args below meth c Q D A cells slots nL n1 ws' lv (.int r :: st)) : WA p l e R s m args below meth c Q D A cells slots nL pc ws lv (st0) := by
  subst hn; subst hst
  intro H locs ls hP hD hS hl
  have hA := C.2.2.2.2.2.2.1
  have hK := C.2.2.2.2.2.1
  have hPc := bP.cut hP hC
  have hDc : bD A wc := bD.cut hD hnC hC
  have hFc : ∀ q, bA wc H.size q → A q := bA_free hD hS hA hC
  refine va_calli (va_runS (As := As) (rest := st) ⟨C.1, C.2.1, C.2.2.1, C.2.2.2.1, C.2.2.2.2.1⟩ (hM H.size) (cwS9 C.2.2.2.2.1 hk hc0.1 hc0.2 hR) ⟨PC.blind, fun U hU hW => ⟨rfl, by rw [hU], by rw [hU]; exact hPc, va_K.moved hW.alike hK, bD.weaken hDc (fun _ _ => trivial)⟩⟩ rfl hna hl.1 rfl (lv_room hW) hdg ⟨hcs.1, hcs.2⟩) hS (fun q _ h => hFc q h) hFc (fun r9 u t H1 locs1 ht hvm hw hB hz1 hk1 hS1 => ?_)
  obtain ⟨hP1, hK1, hD1⟩ := hB
  rw [ht] at hP1
  subst hw
  obtain ⟨hP2, hD2⟩ := b_join hP hD hC hRr hnR hdj hk1 hFc hP1 hD1
  exact k H1 locs1 ls (bP.cut hP2 hF) (bD.cut hD2 hnF hF) hS1 hl
theorem wa_callSAi (C : Cx p s m args meth c cc nL own ret D A dT) {y : MethodName} {cb : ByteArray} {nY na idx : Nat} {rY : Option FieldType} {rm : Room} {As st0 : List Value} {w1 : List va_W} {r : Int32} (n1 : Nat) (hdg : decode cc pc = .ok (.invokestatic idx, 3)) (hn : pc + 3 = n1) (hk : KS own idx y cb nY rY na) (hM : CTi l y cb nY rY rm D dT As ws w1 r) (hc0 : rm.cells = 0 ∧ rm.slots = 0) (hR : rm.frames + 1 ≤ R.frames ∧ 8 + (nY + 11) + rm.locals ≤ R.locals) (hna : As.length = na) (hst : st0 = As.reverse ++ st) (hcs : cells ≤ R.cells ∧ slots ≤ R.slots) (hW : (st.map fun v => v.category).sum ≤ 8) (k : WA p l e R s m args below meth c Q D A cells slots nL n1 w1 lv (.int r :: st)) : WA p l e R s m args below meth c Q D A cells slots nL pc ws lv (st0) := by
  subst hn; subst hst
  intro H locs ls hP hD hS hl
  have hA := C.2.2.2.2.2.2.1
  have hK := C.2.2.2.2.2.1
  have hPc := hP
  have hDc : bD A ws := hD
  have hFc : ∀ q, bA ws H.size q → A q := fun q hq => hq.elim (fun ⟨k, e9, hk9⟩ => hD.2 k (q, e9) hk9) (fun h9 => hA q (Nat.le_trans hS.1 h9))
  refine va_calli (va_runS (As := As) (rest := st) ⟨C.1, C.2.1, C.2.2.1, C.2.2.2.1, C.2.2.2.2.1⟩ (hM H.size) (cwS9 C.2.2.2.2.1 hk hc0.1 hc0.2 hR) ⟨PC.blind, fun U hU hW => ⟨rfl, by rw [hU], by rw [hU]; exact hPc, va_K.moved hW.alike hK, bD.weaken hDc (fun _ _ => trivial)⟩⟩ rfl hna hl.1 rfl (lv_room hW) hdg ⟨hcs.1, hcs.2⟩) hS (fun q _ h => hFc q h) hFc (fun r9 u t H1 locs1 ht hvm hw hB hz1 hk1 hS1 => ?_)
  obtain ⟨hP1, hK1, hD1⟩ := hB
  rw [ht] at hP1
  subst hw
  exact k H1 locs1 ls hP1 (bD.weaken hD1 (fun q h => hFc q h)) hS1 hl
theorem wa_callS0i (C : Cx p s m args meth c cc nL own ret D A dT) {y : MethodName} {cb : ByteArray} {nY na idx : Nat} {rY : Option FieldType} {rm : Room} {As st0 : List Value} {r : Int32} (n1 : Nat) (hdg : decode cc pc = .ok (.invokestatic idx, 3)) (hn : pc + 3 = n1) (hk : KS own idx y cb nY rY na) (hM : CTi l y cb nY rY rm D dT As [] [] r) (hc0 : rm.cells = 0 ∧ rm.slots = 0) (hR : rm.frames + 1 ≤ R.frames ∧ 8 + (nY + 11) + rm.locals ≤ R.locals) (hna : As.length = na) (hst : st0 = As.reverse ++ st) (hcs : cells ≤ R.cells ∧ slots ≤ R.slots) (hW : (st.map fun v => v.category).sum ≤ 8) (k : WA p l e R s m args below meth c Q D A cells slots nL n1 ws lv (.int r :: st)) : WA p l e R s m args below meth c Q D A cells slots nL pc ws lv (st0) := by
  subst hn; subst hst
  intro H locs ls hP hD hS hl
  have hA := C.2.2.2.2.2.2.1
  have hK := C.2.2.2.2.2.1
  have hPc := (show bP D [] H from fun k q h => by simp at h)
  have hDc : bD A [] := (show va_D A [] from ⟨fun i j p q h => by simp at h, fun k q h => by simp at h⟩)
  have hFc : ∀ q, bA [] H.size q → A q := fun q hq => hq.elim (fun ⟨k, e9, hk9⟩ => by simp at hk9) (fun h9 => hA q (Nat.le_trans hS.1 h9))
  refine va_calli (va_runS (As := As) (rest := st) ⟨C.1, C.2.1, C.2.2.1, C.2.2.2.1, C.2.2.2.2.1⟩ (hM H.size) (cwS9 C.2.2.2.2.1 hk hc0.1 hc0.2 hR) ⟨PC.blind, fun U hU hW => ⟨rfl, by rw [hU], by rw [hU]; exact hPc, va_K.moved hW.alike hK, bD.weaken hDc (fun _ _ => trivial)⟩⟩ rfl hna hl.1 rfl (lv_room hW) hdg ⟨hcs.1, hcs.2⟩) hS (fun q _ h => hFc q h) hFc (fun r9 u t H1 locs1 ht hvm hw hB hz1 hk1 hS1 => ?_)
  obtain ⟨hP1, hK1, hD1⟩ := hB
  rw [ht] at hP1
  subst hw
  exact k H1 locs1 ls (fun k9 q hq => (hP k9 q hq).kept (hk1 q.1 (hP k9 q hq).lt (fun h => h.elim (fun ⟨_, _, h⟩ => by simp at h) (fun h => absurd (hP k9 q hq).lt (Nat.not_lt.mpr h))))) hD hS1 hl
theorem wa_callSl (C : Cx p s m args meth c cc nL own ret D A dT) {y : MethodName} {cb : ByteArray} {nY na idx : Nat} {rY : Option FieldType} {rm : Room} {As st0 : List Value} {wc : List va_W} {w1 : List va_W} {r : Int64} (n1 : Nat) (hdg : decode cc pc = .ok (.invokestatic idx, 3)) (hn : pc + 3 = n1) (hk : KS own idx y cb nY rY na) (hM : CTl l y cb nY rY rm D dT As wc w1 r) (hc0 : rm.cells = 0 ∧ rm.slots = 0) (hR : rm.frames + 1 ≤ R.frames ∧ 8 + (nY + 11) + rm.locals ≤ R.locals) (isC isR isF : List Nat) (hC : bsub isC ws wc) (hRr : bsub isR ws (isR.filterMap (fun i => ws[i]?))) (hnC : va_nd isC = true) (hnR : va_nd isR = true) (hdj : ∀ i ∈ isR, i ∉ isC) (hnF : va_nd isF = true) (hF : bsub isF (isR.filterMap (fun i => ws[i]?) ++ w1) ws') (hna : As.length = na) (hst : st0 = As.reverse ++ st) (hcs : cells ≤ R.cells ∧ slots ≤ R.slots) (hW : (st.map fun v => v.category).sum ≤ 8) (k : WA p l e R s m args below meth c Q D A cells slots nL n1 ws' lv (.long r :: st)) : WA p l e R s m args below meth c Q D A cells slots nL pc ws lv (st0) := by
  subst hn; subst hst
  intro H locs ls hP hD hS hl
  have hA := C.2.2.2.2.2.2.1
  have hK := C.2.2.2.2.2.1
  have hPc := bP.cut hP hC
  have hDc : bD A wc := bD.cut hD hnC hC
  have hFc : ∀ q, bA wc H.size q → A q := bA_free hD hS hA hC
  refine va_calll (va_runS (As := As) (rest := st) ⟨C.1, C.2.1, C.2.2.1, C.2.2.2.1, C.2.2.2.2.1⟩ (hM H.size) (cwS9 C.2.2.2.2.1 hk hc0.1 hc0.2 hR) ⟨PC.blind, fun U hU hW => ⟨rfl, by rw [hU], by rw [hU]; exact hPc, va_K.moved hW.alike hK, bD.weaken hDc (fun _ _ => trivial)⟩⟩ rfl hna hl.1 rfl (lv_room hW) hdg ⟨hcs.1, hcs.2⟩) hS (fun q _ h => hFc q h) hFc (fun r9 u t H1 locs1 ht hvm hw hB hz1 hk1 hS1 => ?_)
  obtain ⟨hP1, hK1, hD1⟩ := hB
  rw [ht] at hP1
  subst hw
  obtain ⟨hP2, hD2⟩ := b_join hP hD hC hRr hnR hdj hk1 hFc hP1 hD1
  exact k H1 locs1 ls (bP.cut hP2 hF) (bD.cut hD2 hnF hF) hS1 hl
theorem wa_callSAl (C : Cx p s m args meth c cc nL own ret D A dT) {y : MethodName} {cb : ByteArray} {nY na idx : Nat} {rY : Option FieldType} {rm : Room} {As st0 : List Value} {w1 : List va_W} {r : Int64} (n1 : Nat) (hdg : decode cc pc = .ok (.invokestatic idx, 3)) (hn : pc + 3 = n1) (hk : KS own idx y cb nY rY na) (hM : CTl l y cb nY rY rm D dT As ws w1 r) (hc0 : rm.cells = 0 ∧ rm.slots = 0) (hR : rm.frames + 1 ≤ R.frames ∧ 8 + (nY + 11) + rm.locals ≤ R.locals) (hna : As.length = na) (hst : st0 = As.reverse ++ st) (hcs : cells ≤ R.cells ∧ slots ≤ R.slots) (hW : (st.map fun v => v.category).sum ≤ 8) (k : WA p l e R s m args below meth c Q D A cells slots nL n1 w1 lv (.long r :: st)) : WA p l e R s m args below meth c Q D A cells slots nL pc ws lv (st0) := by
  subst hn; subst hst
  intro H locs ls hP hD hS hl
  have hA := C.2.2.2.2.2.2.1
  have hK := C.2.2.2.2.2.1
  have hPc := hP
  have hDc : bD A ws := hD
  have hFc : ∀ q, bA ws H.size q → A q := fun q hq => hq.elim (fun ⟨k, e9, hk9⟩ => hD.2 k (q, e9) hk9) (fun h9 => hA q (Nat.le_trans hS.1 h9))
  refine va_calll (va_runS (As := As) (rest := st) ⟨C.1, C.2.1, C.2.2.1, C.2.2.2.1, C.2.2.2.2.1⟩ (hM H.size) (cwS9 C.2.2.2.2.1 hk hc0.1 hc0.2 hR) ⟨PC.blind, fun U hU hW => ⟨rfl, by rw [hU], by rw [hU]; exact hPc, va_K.moved hW.alike hK, bD.weaken hDc (fun _ _ => trivial)⟩⟩ rfl hna hl.1 rfl (lv_room hW) hdg ⟨hcs.1, hcs.2⟩) hS (fun q _ h => hFc q h) hFc (fun r9 u t H1 locs1 ht hvm hw hB hz1 hk1 hS1 => ?_)
  obtain ⟨hP1, hK1, hD1⟩ := hB
  rw [ht] at hP1
  subst hw
  exact k H1 locs1 ls hP1 (bD.weaken hD1 (fun q h => hFc q h)) hS1 hl
theorem wa_callS0l (C : Cx p s m args meth c cc nL own ret D A dT) {y : MethodName} {cb : ByteArray} {nY na idx : Nat} {rY : Option FieldType} {rm : Room} {As st0 : List Value} {r : Int64} (n1 : Nat) (hdg : decode cc pc = .ok (.invokestatic idx, 3)) (hn : pc + 3 = n1) (hk : KS own idx y cb nY rY na) (hM : CTl l y cb nY rY rm D dT As [] [] r) (hc0 : rm.cells = 0 ∧ rm.slots = 0) (hR : rm.frames + 1 ≤ R.frames ∧ 8 + (nY + 11) + rm.locals ≤ R.locals) (hna : As.length = na) (hst : st0 = As.reverse ++ st) (hcs : cells ≤ R.cells ∧ slots ≤ R.slots) (hW : (st.map fun v => v.category).sum ≤ 8) (k : WA p l e R s m args below meth c Q D A cells slots nL n1 ws lv (.long r :: st)) : WA p l e R s m args below meth c Q D A cells slots nL pc ws lv (st0) := by
  subst hn; subst hst
  intro H locs ls hP hD hS hl
  have hA := C.2.2.2.2.2.2.1
  have hK := C.2.2.2.2.2.1
  have hPc := (show bP D [] H from fun k q h => by simp at h)
  have hDc : bD A [] := (show va_D A [] from ⟨fun i j p q h => by simp at h, fun k q h => by simp at h⟩)
  have hFc : ∀ q, bA [] H.size q → A q := fun q hq => hq.elim (fun ⟨k, e9, hk9⟩ => by simp at hk9) (fun h9 => hA q (Nat.le_trans hS.1 h9))
  refine va_calll (va_runS (As := As) (rest := st) ⟨C.1, C.2.1, C.2.2.1, C.2.2.2.1, C.2.2.2.2.1⟩ (hM H.size) (cwS9 C.2.2.2.2.1 hk hc0.1 hc0.2 hR) ⟨PC.blind, fun U hU hW => ⟨rfl, by rw [hU], by rw [hU]; exact hPc, va_K.moved hW.alike hK, bD.weaken hDc (fun _ _ => trivial)⟩⟩ rfl hna hl.1 rfl (lv_room hW) hdg ⟨hcs.1, hcs.2⟩) hS (fun q _ h => hFc q h) hFc (fun r9 u t H1 locs1 ht hvm hw hB hz1 hk1 hS1 => ?_)
  obtain ⟨hP1, hK1, hD1⟩ := hB
  rw [ht] at hP1
  subst hw
  exact k H1 locs1 ls (fun k9 q hq => (hP k9 q hq).kept (hk1 q.1 (hP k9 q hq).lt (fun h => h.elim (fun ⟨_, _, h⟩ => by simp at h) (fun h => absurd (hP k9 q hq).lt (Nat.not_lt.mpr h))))) hD hS1 hl
theorem wa_callSv (C : Cx p s m args meth c cc nL own ret D A dT) {y : MethodName} {cb : ByteArray} {nY na idx : Nat} {rY : Option FieldType} {rm : Room} {As st0 : List Value} {wc : List va_W} {w1 : List va_W}  (n1 : Nat) (hdg : decode cc pc = .ok (.invokestatic idx, 3)) (hn : pc + 3 = n1) (hk : KS own idx y cb nY rY na) (hM : CTv l y cb nY rY rm D dT As wc w1) (hc0 : rm.cells = 0 ∧ rm.slots = 0) (hR : rm.frames + 1 ≤ R.frames ∧ 8 + (nY + 11) + rm.locals ≤ R.locals) (isC isR isF : List Nat) (hC : bsub isC ws wc) (hRr : bsub isR ws (isR.filterMap (fun i => ws[i]?))) (hnC : va_nd isC = true) (hnR : va_nd isR = true) (hdj : ∀ i ∈ isR, i ∉ isC) (hnF : va_nd isF = true) (hF : bsub isF (isR.filterMap (fun i => ws[i]?) ++ w1) ws') (hna : As.length = na) (hst : st0 = As.reverse ++ st) (hcs : cells ≤ R.cells ∧ slots ≤ R.slots) (hW : (st.map fun v => v.category).sum ≤ 8) (k : WA p l e R s m args below meth c Q D A cells slots nL n1 ws' lv (st)) : WA p l e R s m args below meth c Q D A cells slots nL pc ws lv (st0) := by
  subst hn; subst hst
  intro H locs ls hP hD hS hl
  have hA := C.2.2.2.2.2.2.1
  have hK := C.2.2.2.2.2.1
  have hPc := bP.cut hP hC
  have hDc : bD A wc := bD.cut hD hnC hC
  have hFc : ∀ q, bA wc H.size q → A q := bA_free hD hS hA hC
  refine va_callv (va_runS (As := As) (rest := st) ⟨C.1, C.2.1, C.2.2.1, C.2.2.2.1, C.2.2.2.2.1⟩ (hM H.size) (cwS9 C.2.2.2.2.1 hk hc0.1 hc0.2 hR) ⟨PC.blind, fun U hU hW => ⟨rfl, by rw [hU], by rw [hU]; exact hPc, va_K.moved hW.alike hK, bD.weaken hDc (fun _ _ => trivial)⟩⟩ rfl hna hl.1 rfl (lv_room hW) hdg ⟨hcs.1, hcs.2⟩) hS (fun q _ h => hFc q h) hFc (fun u t H1 locs1 ht hvm hw hB hz1 hk1 hS1 => ?_)
  obtain ⟨hP1, hK1, hD1⟩ := hB
  rw [ht] at hP1
  obtain ⟨hP2, hD2⟩ := b_join hP hD hC hRr hnR hdj hk1 hFc hP1 hD1
  exact k H1 locs1 ls (bP.cut hP2 hF) (bD.cut hD2 hnF hF) hS1 hl
theorem wa_callSAv (C : Cx p s m args meth c cc nL own ret D A dT) {y : MethodName} {cb : ByteArray} {nY na idx : Nat} {rY : Option FieldType} {rm : Room} {As st0 : List Value} {w1 : List va_W}  (n1 : Nat) (hdg : decode cc pc = .ok (.invokestatic idx, 3)) (hn : pc + 3 = n1) (hk : KS own idx y cb nY rY na) (hM : CTv l y cb nY rY rm D dT As ws w1) (hc0 : rm.cells = 0 ∧ rm.slots = 0) (hR : rm.frames + 1 ≤ R.frames ∧ 8 + (nY + 11) + rm.locals ≤ R.locals) (hna : As.length = na) (hst : st0 = As.reverse ++ st) (hcs : cells ≤ R.cells ∧ slots ≤ R.slots) (hW : (st.map fun v => v.category).sum ≤ 8) (k : WA p l e R s m args below meth c Q D A cells slots nL n1 w1 lv (st)) : WA p l e R s m args below meth c Q D A cells slots nL pc ws lv (st0) := by
  subst hn; subst hst
  intro H locs ls hP hD hS hl
  have hA := C.2.2.2.2.2.2.1
  have hK := C.2.2.2.2.2.1
  have hPc := hP
  have hDc : bD A ws := hD
  have hFc : ∀ q, bA ws H.size q → A q := fun q hq => hq.elim (fun ⟨k, e9, hk9⟩ => hD.2 k (q, e9) hk9) (fun h9 => hA q (Nat.le_trans hS.1 h9))
  refine va_callv (va_runS (As := As) (rest := st) ⟨C.1, C.2.1, C.2.2.1, C.2.2.2.1, C.2.2.2.2.1⟩ (hM H.size) (cwS9 C.2.2.2.2.1 hk hc0.1 hc0.2 hR) ⟨PC.blind, fun U hU hW => ⟨rfl, by rw [hU], by rw [hU]; exact hPc, va_K.moved hW.alike hK, bD.weaken hDc (fun _ _ => trivial)⟩⟩ rfl hna hl.1 rfl (lv_room hW) hdg ⟨hcs.1, hcs.2⟩) hS (fun q _ h => hFc q h) hFc (fun u t H1 locs1 ht hvm hw hB hz1 hk1 hS1 => ?_)
  obtain ⟨hP1, hK1, hD1⟩ := hB
  rw [ht] at hP1
  exact k H1 locs1 ls hP1 (bD.weaken hD1 (fun q h => hFc q h)) hS1 hl
theorem wa_callS0v (C : Cx p s m args meth c cc nL own ret D A dT) {y : MethodName} {cb : ByteArray} {nY na idx : Nat} {rY : Option FieldType} {rm : Room} {As st0 : List Value}  (n1 : Nat) (hdg : decode cc pc = .ok (.invokestatic idx, 3)) (hn : pc + 3 = n1) (hk : KS own idx y cb nY rY na) (hM : CTv l y cb nY rY rm D dT As [] []) (hc0 : rm.cells = 0 ∧ rm.slots = 0) (hR : rm.frames + 1 ≤ R.frames ∧ 8 + (nY + 11) + rm.locals ≤ R.locals) (hna : As.length = na) (hst : st0 = As.reverse ++ st) (hcs : cells ≤ R.cells ∧ slots ≤ R.slots) (hW : (st.map fun v => v.category).sum ≤ 8) (k : WA p l e R s m args below meth c Q D A cells slots nL n1 ws lv (st)) : WA p l e R s m args below meth c Q D A cells slots nL pc ws lv (st0) := by
  subst hn; subst hst
  intro H locs ls hP hD hS hl
  have hA := C.2.2.2.2.2.2.1
  have hK := C.2.2.2.2.2.1
  have hPc := (show bP D [] H from fun k q h => by simp at h)
  have hDc : bD A [] := (show va_D A [] from ⟨fun i j p q h => by simp at h, fun k q h => by simp at h⟩)
  have hFc : ∀ q, bA [] H.size q → A q := fun q hq => hq.elim (fun ⟨k, e9, hk9⟩ => by simp at hk9) (fun h9 => hA q (Nat.le_trans hS.1 h9))
  refine va_callv (va_runS (As := As) (rest := st) ⟨C.1, C.2.1, C.2.2.1, C.2.2.2.1, C.2.2.2.2.1⟩ (hM H.size) (cwS9 C.2.2.2.2.1 hk hc0.1 hc0.2 hR) ⟨PC.blind, fun U hU hW => ⟨rfl, by rw [hU], by rw [hU]; exact hPc, va_K.moved hW.alike hK, bD.weaken hDc (fun _ _ => trivial)⟩⟩ rfl hna hl.1 rfl (lv_room hW) hdg ⟨hcs.1, hcs.2⟩) hS (fun q _ h => hFc q h) hFc (fun u t H1 locs1 ht hvm hw hB hz1 hk1 hS1 => ?_)
  obtain ⟨hP1, hK1, hD1⟩ := hB
  rw [ht] at hP1
  exact k H1 locs1 ls (fun k9 q hq => (hP k9 q hq).kept (hk1 q.1 (hP k9 q hq).lt (fun h => h.elim (fun ⟨_, _, h⟩ => by simp at h) (fun h => absurd (hP k9 q hq).lt (Nat.not_lt.mpr h))))) hD hS1 hl
/-! the pure side's words -/
def vi (i : Int32) (n : Nat) : Bool := decide (0 ≤ i) && decide (i.toNatClampNeg < n)
theorem vi_in {i : Int32} {n : Nat} (h : vi i n = true) : vp_in i n := by
  unfold vi at h
  rw [Bool.and_eq_true, decide_eq_true_eq, decide_eq_true_eq] at h
  intro h9
  rcases h9 with h9 | h9
  · have h1 := h.1
    rw [Int32.le_iff_toInt_le] at h1
    rw [Int32.lt_iff_toInt_lt] at h9
    omega
  · omega
def grd {β : Type} (b : Bool) (k : Option β) : Option β := match b with
  | true => k
  | false => none
theorem grd_ex {β : Type} {b : Bool} {k : Option β} {r : β} (h : grd b k = some r) : b = true ∧ k = some r := by
  cases b
  · cases h
  · exact ⟨rfl, h⟩
def bnd {α β : Type} (x : α) (k : α → β) : β := k x
theorem bnd_ex {α β : Type} {x : α} {k : α → β} {r : β} (h : bnd x k = r) : ∃ y, y = x ∧ k y = r := ⟨x, rfl, h⟩
theorem bind_ex {α β : Type} {x : Option α} {k : α → Option β} {r : β} (h : x.bind k = some r) : ∃ y, x = some y ∧ k y = some r := by
  cases x with
  | none => cases h
  | some y => exact ⟨y, rfl, h⟩
theorem ite_t {α : Type} {c9 : Prop} [Decidable c9] {a b r : α} (h : (if c9 then a else b) = r) (hc : c9) : a = r := by rw [← h, if_pos hc]
theorem ite_f {α : Type} {c9 : Prop} [Decidable c9] {a b r : α} (h : (if c9 then a else b) = r) (hc : ¬ c9) : b = r := by rw [← h, if_neg hc]
theorem ite_tn {α : Type} {c9 : Prop} [Decidable c9] {a b r : α} (h : (if c9 then a else b) = r) (hc : ¬ ¬ c9) : a = r := ite_t h (Classical.not_not.mp hc)
end WAB
