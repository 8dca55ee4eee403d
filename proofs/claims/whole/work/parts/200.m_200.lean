def f_X12_thrown (v : MS) : Option (Int32) := some ((v.1 0))
set_option maxRecDepth 20000 in
theorem c_X12_thrown {l : Launch} {D : va_G} {dT : Nat → ClassId} {a : Nat → Nat} {v : MS} {res : Int32} (hf : f_X12_thrown v = some res) : CTi l yX12_thrown cX12_thrown 1 (some .int) ({ frames := 0, cells := 0, slots := 0, locals := 0 } : Room) D dT [.ref (a 0)] ([wM dT a v]) ([wM dT a v]) res := by
  refine CTi.of (by decide) (Nat.le_of_ble_eq_true rfl) rfl ?_
  intro p e s m args below meth c A C
  unfold f_X12_thrown at hf
  refine wa_aload_n C 0 1 dX12_thrown_0 rfl rfl ?_
  refine wa_get C 4 0 0 0 dX12_thrown_1 rfl iX12 q1449 rfl (Nat.le_of_ble_eq_true rfl) rfl rfl rfl ?_
  cases hf
  exact wa_iret C dX12_thrown_4 rfl rfl
def f_X12_right_J16 (z0 : MS) : Option (Int32 × MS) := (if (z0.1 0) = 0 then some ((1 : Int32), z0) else some ((0 : Int32), z0))
def f_X12_right (v : MS) (p0 : Int32) (p1 : Int32) : Option (Int32 × MS) := (if (v.1 0) = 0 then (if p0 = 0 then bnd (upd v.1 0 p1, v.2) (fun y4 => f_X12_right_J16 y4) else f_X12_right_J16 v) else f_X12_right_J16 v)
set_option maxRecDepth 20000 in
theorem w_X12_right_J16 {p : Program} {l : Launch} {e : Env} {s : State} {m : MethodId} {args : Array Value} {below : List Frame} {meth : Method} {c : Code} {D : va_G} {A : Nat → Prop} {dT : Nat → ClassId} {a : Nat → Nat} {res : Int32 × MS} (C : Cx p s m args meth c cX12_right 3 RX12 (some .boolean) D A dT) : ∀ (z0 : MS), f_X12_right_J16 z0 = some res → WA p l e ({ frames := 0, cells := 0, slots := 0, locals := 0 } : Room) s m args below meth c (MQ below (QI D dT A ([wM dT a res.2]) res.1) args s 0 0 A) D A 0 0 3 16 ([wM dT a z0]) [(0, .ref (a 0))] [] := by
  intro z0 hf
  unfold f_X12_right_J16 at hf
  refine wa_aload_n C 0 17 dX12_right_16 rfl rfl ?_
  refine wa_get C 20 0 0 0 dX12_right_17 rfl iX12 q1449 rfl (Nat.le_of_ble_eq_true rfl) rfl rfl rfl ?_
  refine wa_if_ne C 27 23 dX12_right_20 rfl rfl (fun c2 => ?_) (fun c2 => ?_)
  · replace hf := ite_f hf c2
    refine wa_iconst (v := 0) C 28 dX12_right_27 rfl rfl ?_
    cases hf
    exact wa_zret C dX12_right_28 rfl rfl rfl
  · replace hf := ite_t hf c2
    refine wa_iconst (v := 1) C 24 dX12_right_23 rfl rfl ?_
    refine wa_goto C 28 dX12_right_24 rfl ?_
    cases hf
    exact wa_zret C dX12_right_28 rfl rfl rfl
set_option maxRecDepth 20000 in
theorem c_X12_right {l : Launch} {D : va_G} {dT : Nat → ClassId} {a : Nat → Nat} {v : MS} {p0 : Int32} {p1 : Int32} {res : Int32 × MS} (hf : f_X12_right v p0 p1 = some res) : CTi l yX12_right cX12_right 3 (some .boolean) ({ frames := 0, cells := 0, slots := 0, locals := 0 } : Room) D dT [.ref (a 0), .int p0, .int p1] ([wM dT a v]) ([wM dT a res.2]) res.1 := by
  refine CTi.of (by decide) (Nat.le_of_ble_eq_true rfl) rfl ?_
  intro p e s m args below meth c A C
  unfold f_X12_right at hf
  refine wa_aload_n C 0 1 dX12_right_0 rfl rfl ?_
  refine wa_get C 4 0 0 0 dX12_right_1 rfl iX12 q1449 rfl (Nat.le_of_ble_eq_true rfl) rfl rfl rfl ?_
  refine wa_if_ne C 16 7 dX12_right_4 rfl rfl (fun c1 => ?_) (fun c1 => ?_)
  · replace hf := ite_f hf c1
    refine wa_lv (lv' := [(0, .ref (a 0))]) [0] rfl ?_
    exact w_X12_right_J16 C v hf
  · replace hf := ite_t hf c1
    refine wa_iload_n C 1 8 dX12_right_7 rfl rfl ?_
    refine wa_if_ne C 16 11 dX12_right_8 rfl rfl (fun c3 => ?_) (fun c3 => ?_)
    · replace hf := ite_f hf c3
      refine wa_lv (lv' := [(0, .ref (a 0))]) [0] rfl ?_
      exact w_X12_right_J16 C v hf
    · replace hf := ite_t hf c3
      refine wa_aload_n C 0 12 dX12_right_11 rfl rfl ?_
      refine wa_iload_n C 2 13 dX12_right_12 rfl rfl ?_
      obtain ⟨y4, ey4, hf⟩ := bnd_ex hf
      refine wa_put (ws' := [wM dT a y4]) C 16 0 0 0 tyX12 dX12_right_13 rfl iX12 tyX12_ok nmX12 q1449 rfl (Nat.le_of_ble_eq_true rfl) rfl rfl rfl rfl rfl (Nat.le_of_ble_eq_true rfl) (by rw [ey4]; rfl) ?_
      refine wa_lv (lv' := [(0, .ref (a 0))]) [0] rfl ?_
      exact w_X12_right_J16 C y4 hf
def f_X12_within (p0 : Int32) (p1 : Int32) (p2 : Int32) : Option (Int32) := (if p0 < p1 then some ((0 : Int32)) else (if p2 < p0 then some ((0 : Int32)) else some ((1 : Int32))))
set_option maxRecDepth 20000 in
theorem c_X12_within {l : Launch} {D : va_G} {dT : Nat → ClassId} {p0 : Int32} {p1 : Int32} {p2 : Int32} {res : Int32} (hf : f_X12_within p0 p1 p2 = some res) : CTi l yX12_within cX12_within 3 (some .boolean) ({ frames := 0, cells := 0, slots := 0, locals := 0 } : Room) D dT [.int p0, .int p1, .int p2] ([]) ([]) res := by
  refine CTi.of (by decide) (Nat.le_of_ble_eq_true rfl) rfl ?_
  intro p e s m args below meth c A C
  unfold f_X12_within at hf
  refine wa_iload_n C 0 1 dX12_within_0 rfl rfl ?_
  refine wa_iload_n C 1 2 dX12_within_1 rfl rfl ?_
  refine wa_icmp_lt C 14 5 dX12_within_2 rfl rfl (fun c1 => ?_) (fun c1 => ?_)
  · replace hf := ite_t hf c1
    refine wa_iconst (v := 0) C 15 dX12_within_14 rfl rfl ?_
    cases hf
    exact wa_zret C dX12_within_15 rfl rfl rfl
  · replace hf := ite_f hf c1
    refine wa_iload_n C 0 6 dX12_within_5 rfl rfl ?_
    refine wa_iload_n C 2 7 dX12_within_6 rfl rfl ?_
    refine wa_icmp_gt C 14 10 dX12_within_7 rfl rfl (fun c2 => ?_) (fun c2 => ?_)
    · replace hf := ite_t hf c2
      refine wa_iconst (v := 0) C 15 dX12_within_14 rfl rfl ?_
      cases hf
      exact wa_zret C dX12_within_15 rfl rfl rfl
    · replace hf := ite_f hf c2
      refine wa_iconst (v := 1) C 11 dX12_within_10 rfl rfl ?_
      refine wa_goto C 15 dX12_within_11 rfl ?_
      cases hf
      exact wa_zret C dX12_within_15 rfl rfl rfl
def f_X12_lesser (p0 : Int32) (p1 : Int32) : Option (Int32) := (if p1 ≤ p0 then some (p1) else some (p0))
set_option maxRecDepth 20000 in
theorem c_X12_lesser {l : Launch} {D : va_G} {dT : Nat → ClassId} {p0 : Int32} {p1 : Int32} {res : Int32} (hf : f_X12_lesser p0 p1 = some res) : CTi l yX12_lesser cX12_lesser 2 (some .int) ({ frames := 0, cells := 0, slots := 0, locals := 0 } : Room) D dT [.int p0, .int p1] ([]) ([]) res := by
  refine CTi.of (by decide) (Nat.le_of_ble_eq_true rfl) rfl ?_
  intro p e s m args below meth c A C
  unfold f_X12_lesser at hf
  refine wa_iload_n C 0 1 dX12_lesser_0 rfl rfl ?_
  refine wa_iload_n C 1 2 dX12_lesser_1 rfl rfl ?_
  refine wa_icmp_ge C 9 5 dX12_lesser_2 rfl rfl (fun c1 => ?_) (fun c1 => ?_)
  · replace hf := ite_t hf c1
    refine wa_iload_n C 1 10 dX12_lesser_9 rfl rfl ?_
    cases hf
    exact wa_iret C dX12_lesser_10 rfl rfl
  · replace hf := ite_f hf c1
    refine wa_iload_n C 0 6 dX12_lesser_5 rfl rfl ?_
    refine wa_goto C 10 dX12_lesser_6 rfl ?_
    cases hf
    exact wa_iret C dX12_lesser_10 rfl rfl
def f_X12_apart (p0 : Int32) (p1 : Int32) : Option (Int32) := (if p1 ≤ p0 then some ((p0 - p1)) else some ((p1 - p0)))
set_option maxRecDepth 20000 in
theorem c_X12_apart {l : Launch} {D : va_G} {dT : Nat → ClassId} {p0 : Int32} {p1 : Int32} {res : Int32} (hf : f_X12_apart p0 p1 = some res) : CTi l yX12_apart cX12_apart 2 (some .int) ({ frames := 0, cells := 0, slots := 0, locals := 0 } : Room) D dT [.int p0, .int p1] ([]) ([]) res := by
  refine CTi.of (by decide) (Nat.le_of_ble_eq_true rfl) rfl ?_
  intro p e s m args below meth c A C
  unfold f_X12_apart at hf
  refine wa_iload_n C 0 1 dX12_apart_0 rfl rfl ?_
  refine wa_iload_n C 1 2 dX12_apart_1 rfl rfl ?_
  refine wa_icmp_ge C 11 5 dX12_apart_2 rfl rfl (fun c1 => ?_) (fun c1 => ?_)
  · replace hf := ite_t hf c1
    refine wa_iload_n C 0 12 dX12_apart_11 rfl rfl ?_
    refine wa_iload_n C 1 13 dX12_apart_12 rfl rfl ?_
    refine wa_isub C 14 dX12_apart_13 rfl ?_
    cases hf
    exact wa_iret C dX12_apart_14 rfl rfl
  · replace hf := ite_f hf c1
    refine wa_iload_n C 1 6 dX12_apart_5 rfl rfl ?_
    refine wa_iload_n C 0 7 dX12_apart_6 rfl rfl ?_
    refine wa_isub C 8 dX12_apart_7 rfl ?_
    refine wa_goto C 14 dX12_apart_8 rfl ?_
    cases hf
    exact wa_iret C dX12_apart_14 rfl rfl
def f_X12_copies_L2 (n0 : Nat) (n1 : Nat) (z0 : (Nat → Int32)) : Nat → Int32 → (Nat → Int32) → Option ((Nat → Int32))
  | 0, _, _ => none
  | n + 1, l3, z1 => (if (Int32.ofNat n0) ≤ l3 then some (z1) else grd (vi l3 n0) (grd (vi l3 n1) (bnd (upd z1 (l3).toNatClampNeg (z0 (l3).toNatClampNeg)) (fun y4 => bnd (l3 + 1) (fun x5 => f_X12_copies_L2 n0 n1 z0 n x5 y4)))))
def f_X12_copies (u0 : (Nat → Int32)) (u1 : (Nat → Int32)) (n0 : Nat) (n1 : Nat) : Option ((Nat → Int32)) := f_X12_copies_L2 n0 n1 u0 FUEL (0 : Int32) u1
set_option maxRecDepth 20000 in
theorem w_X12_copies_L2 {p : Program} {l : Launch} {e : Env} {s : State} {m : MethodId} {args : Array Value} {below : List Frame} {meth : Method} {c : Code} {D : va_G} {A : Nat → Prop} {dT : Nat → ClassId} {b0 : Nat} {b1 : Nat} {n0 : Nat} {n1 : Nat} {res : (Nat → Int32)} {z0 : (Nat → Int32)} (C : Cx p s m args meth c cX12_copies 4 RX12 none D A dT) : ∀ (n : Nat) (l3 : Int32) (z1 : (Nat → Int32)), f_X12_copies_L2 n0 n1 z0 n l3 z1 = some res → WA p l e ({ frames := 0, cells := 0, slots := 0, locals := 0 } : Room) s m args below meth c (MQ below (QV D dT A ([[(b0, .inl (dT 0, n0, .inl z0))], [(b1, .inl (dT 0, n1, .inl res))]])) args s 0 0 A) D A 0 0 4 2 ([[(b0, .inl (dT 0, n0, .inl z0))], [(b1, .inl (dT 0, n1, .inl z1))]]) [(1, .ref b0), (2, .ref b1), (3, .int l3)] [] := by
  intro n
  induction n with
  | zero => intro l3 z1 hf; cases hf
  | succ n ih =>
    intro l3 z1 hf
    unfold f_X12_copies_L2 at hf
    refine wa_iload_n C 2 3 dX12_copies_2 rfl rfl ?_
    refine wa_aload_n C 0 4 dX12_copies_3 rfl rfl ?_
    refine wa_alen (v := (Int32.ofNat n0)) C 5 0 0 0 dX12_copies_4 rfl rfl rfl rfl rfl ?_
    refine wa_icmp_ge C 20 8 dX12_copies_5 rfl rfl (fun c1 => ?_) (fun c1 => ?_)
    · replace hf := ite_t hf c1
      cases hf
      exact wa_vret C dX12_copies_20 rfl
    · replace hf := ite_f hf c1
      refine wa_aload_n C 1 9 dX12_copies_8 rfl rfl ?_
      refine wa_iload_n C 2 10 dX12_copies_9 rfl rfl ?_
      refine wa_aload_n C 0 11 dX12_copies_10 rfl rfl ?_
      refine wa_iload_n C 2 12 dX12_copies_11 rfl rfl ?_
      obtain ⟨g2, hf⟩ := grd_ex hf
      refine wa_iald C 13 0 0 dX12_copies_12 rfl rfl rfl (vi_in g2) ?_
      obtain ⟨g3, hf⟩ := grd_ex hf
      obtain ⟨y4, ey4, hf⟩ := bnd_ex hf
      refine wa_iast (ws' := [[(b0, .inl (dT 0, n0, .inl z0))], [(b1, .inl (dT 0, n1, .inl y4))]]) C 14 1 0 dX12_copies_13 rfl rfl rfl (vi_in g3) (by rw [ey4]; rfl) ?_
      obtain ⟨x5, ex5, hf⟩ := bnd_ex hf
      refine wa_iinc (v := x5) (lv' := [(1, .ref b0), (2, .ref b1), (3, .int x5)]) C 2 [1, 2, 0] 17 dX12_copies_14 rfl rfl (by rw [ex5]; rfl) (Nat.le_of_ble_eq_true rfl) rfl ?_
      refine wa_goto C 2 dX12_copies_17 rfl ?_
      exact ih x5 y4 hf
set_option maxRecDepth 20000 in
theorem c_X12_copies {l : Launch} {D : va_G} {dT : Nat → ClassId} {b0 : Nat} {b1 : Nat} {h0 : Nat} {n0 : Nat} {n1 : Nat} {u0 : (Nat → Int32)} {u1 : (Nat → Int32)} {res : (Nat → Int32)} (hf : f_X12_copies u0 u1 n0 n1 = some res) : CTv l yX12_copies cX12_copies 4 none ({ frames := 0, cells := 0, slots := 0, locals := 0 } : Room) D dT [.ref h0, .ref b0, .ref b1] ([[(b0, .inl (dT 0, n0, .inl u0))], [(b1, .inl (dT 0, n1, .inl u1))]]) ([[(b0, .inl (dT 0, n0, .inl u0))], [(b1, .inl (dT 0, n1, .inl res))]]) := by
  refine CTv.of (by decide) (Nat.le_of_ble_eq_true rfl) rfl ?_
  intro p e s m args below meth c A C
  unfold f_X12_copies at hf
  refine wa_iconst (v := 0) C 1 dX12_copies_0 rfl rfl ?_
  refine wa_istore_n (lv' := [(0, .ref h0), (1, .ref b0), (2, .ref b1), (3, .int (0 : Int32))]) C [1, 2, 3, 0] 2 dX12_copies_1 rfl (Nat.le_of_ble_eq_true rfl) rfl ?_
  refine wa_lv (lv' := [(1, .ref b0), (2, .ref b1), (3, .int (0 : Int32))]) [1, 2, 3] rfl ?_
  exact w_X12_copies_L2 C FUEL (0 : Int32) u1 hf
def f_X12_bits_L4 (l0 : Int32) : Nat → Int32 → Int32 → Option (Int32)
  | 0, _, _ => none
  | n + 1, l1, l2 => (if (12 : Int32) < l2 then some (l1) else bnd (l1 + ((l0 >>> (l2 &&& 31)) &&& (1 : Int32))) (fun x2 => bnd (l2 + 1) (fun x3 => f_X12_bits_L4 l0 n x2 x3)))
def f_X12_bits (p0 : Int32) : Option (Int32) := f_X12_bits_L4 p0 FUEL (0 : Int32) (0 : Int32)
set_option maxRecDepth 20000 in
theorem w_X12_bits_L4 {p : Program} {l : Launch} {e : Env} {s : State} {m : MethodId} {args : Array Value} {below : List Frame} {meth : Method} {c : Code} {D : va_G} {A : Nat → Prop} {dT : Nat → ClassId} {res : Int32} {l0 : Int32} (C : Cx p s m args meth c cX12_bits 3 RX12 (some .int) D A dT) : ∀ (n : Nat) (l1 : Int32) (l2 : Int32), f_X12_bits_L4 l0 n l1 l2 = some res → WA p l e ({ frames := 0, cells := 0, slots := 0, locals := 0 } : Room) s m args below meth c (MQ below (QI D dT A ([]) res) args s 0 0 A) D A 0 0 3 4 ([]) [(0, .int l0), (1, .int l1), (2, .int l2)] [] := by
  intro n
  induction n with
  | zero => intro l1 l2 hf; cases hf
  | succ n ih =>
    intro l1 l2 hf
    unfold f_X12_bits_L4 at hf
    refine wa_iload_n C 2 5 dX12_bits_4 rfl rfl ?_
    refine wa_bipush (v := 12) C 7 dX12_bits_5 rfl rfl ?_
    refine wa_icmp_gt C 24 10 dX12_bits_7 rfl rfl (fun c1 => ?_) (fun c1 => ?_)
    · replace hf := ite_t hf c1
      refine wa_iload_n C 1 25 dX12_bits_24 rfl rfl ?_
      cases hf
      exact wa_iret C dX12_bits_25 rfl rfl
    · replace hf := ite_f hf c1
      refine wa_iload_n C 1 11 dX12_bits_10 rfl rfl ?_
      refine wa_iload_n C 0 12 dX12_bits_11 rfl rfl ?_
      refine wa_iload_n C 2 13 dX12_bits_12 rfl rfl ?_
      refine wa_ishr C 14 dX12_bits_13 rfl ?_
      refine wa_iconst (v := 1) C 15 dX12_bits_14 rfl rfl ?_
      refine wa_iand C 16 dX12_bits_15 rfl ?_
      refine wa_iadd C 17 dX12_bits_16 rfl ?_
      obtain ⟨x2, ex2, hf⟩ := bnd_ex hf
      refine wa_topi ex2 ?_
      refine wa_istore_n (lv' := [(0, .int l0), (1, .int x2), (2, .int l2)]) C [1, 0, 2] 18 dX12_bits_17 rfl (Nat.le_of_ble_eq_true rfl) rfl ?_
      obtain ⟨x3, ex3, hf⟩ := bnd_ex hf
      refine wa_iinc (v := x3) (lv' := [(0, .int l0), (1, .int x2), (2, .int x3)]) C 2 [1, 2, 0] 21 dX12_bits_18 rfl rfl (by rw [ex3]; rfl) (Nat.le_of_ble_eq_true rfl) rfl ?_
      refine wa_goto C 4 dX12_bits_21 rfl ?_
      exact ih x2 x3 hf
set_option maxRecDepth 20000 in
theorem c_X12_bits {l : Launch} {D : va_G} {dT : Nat → ClassId} {p0 : Int32} {res : Int32} (hf : f_X12_bits p0 = some res) : CTi l yX12_bits cX12_bits 3 (some .int) ({ frames := 0, cells := 0, slots := 0, locals := 0 } : Room) D dT [.int p0] ([]) ([]) res := by
  refine CTi.of (by decide) (Nat.le_of_ble_eq_true rfl) rfl ?_
  intro p e s m args below meth c A C
  unfold f_X12_bits at hf
  refine wa_iconst (v := 0) C 1 dX12_bits_0 rfl rfl ?_
  refine wa_istore_n (lv' := [(0, .int p0), (1, .int (0 : Int32))]) C [1, 0] 2 dX12_bits_1 rfl (Nat.le_of_ble_eq_true rfl) rfl ?_
  refine wa_iconst (v := 0) C 3 dX12_bits_2 rfl rfl ?_
  refine wa_istore_n (lv' := [(0, .int p0), (1, .int (0 : Int32)), (2, .int (0 : Int32))]) C [1, 2, 0] 4 dX12_bits_3 rfl (Nat.le_of_ble_eq_true rfl) rfl ?_
  exact w_X12_bits_L4 C FUEL (0 : Int32) (0 : Int32) hf
def f_X12_lays_L3 (l1 : Int32) : Nat → Int32 → MS → Option (MS)
  | 0, _, _ => none
  | n + 1, l2, z0 => (if l2 < 0 then some (z0) else grd (vi (z0.1 8) 700) (bnd (z0.1, z0.2.1, uA z0.2.2 3 ((z0.1 8)).toNatClampNeg ((l1 >>> (l2 &&& 31)) &&& (255 : Int32))) (fun y3 => bnd (upd y3.1 8 ((y3.1 8) + (1 : Int32)), y3.2) (fun y4 => bnd (l2 + (-8)) (fun x5 => f_X12_lays_L3 l1 n x5 y4)))))
def f_X12_lays (v : MS) (p0 : Int32) : Option (MS) := f_X12_lays_L3 p0 FUEL (24 : Int32) v
set_option maxRecDepth 20000 in
theorem w_X12_lays_L3 {p : Program} {l : Launch} {e : Env} {s : State} {m : MethodId} {args : Array Value} {below : List Frame} {meth : Method} {c : Code} {D : va_G} {A : Nat → Prop} {dT : Nat → ClassId} {a : Nat → Nat} {res : MS} {l1 : Int32} (C : Cx p s m args meth c cX12_lays 3 RX12 none D A dT) : ∀ (n : Nat) (l2 : Int32) (z0 : MS), f_X12_lays_L3 l1 n l2 z0 = some res → WA p l e ({ frames := 0, cells := 0, slots := 0, locals := 0 } : Room) s m args below meth c (MQ below (QV D dT A ([wM dT a res])) args s 0 0 A) D A 0 0 3 3 ([wM dT a z0]) [(0, .ref (a 0)), (1, .int l1), (2, .int l2)] [] := by
  intro n
  induction n with
  | zero => intro l2 z0 hf; cases hf
  | succ n ih =>
    intro l2 z0 hf
    unfold f_X12_lays_L3 at hf
    refine wa_iload_n C 2 4 dX12_lays_3 rfl rfl ?_
    refine wa_if_lt C 39 7 dX12_lays_4 rfl rfl (fun c1 => ?_) (fun c1 => ?_)
    · replace hf := ite_t hf c1
      cases hf
      exact wa_vret C dX12_lays_39 rfl
    · replace hf := ite_f hf c1
      refine wa_aload_n C 0 8 dX12_lays_7 rfl rfl ?_
      refine wa_get C 11 0 0 7 dX12_lays_8 rfl iX12 q1456 rfl (Nat.le_of_ble_eq_true rfl) rfl rfl rfl ?_
      refine wa_aload_n C 0 12 dX12_lays_11 rfl rfl ?_
      refine wa_get C 15 0 0 8 dX12_lays_12 rfl iX12 q1457 rfl (Nat.le_of_ble_eq_true rfl) rfl rfl rfl ?_
      refine wa_iload_n C 1 16 dX12_lays_15 rfl rfl ?_
      refine wa_iload_n C 2 17 dX12_lays_16 rfl rfl ?_
      refine wa_ishr C 18 dX12_lays_17 rfl ?_
      refine wa_sipush (v := 255) C 21 dX12_lays_18 rfl rfl ?_
      refine wa_iand C 22 dX12_lays_21 rfl ?_
      obtain ⟨g2, hf⟩ := grd_ex hf
      obtain ⟨y3, ey3, hf⟩ := bnd_ex hf
      refine wa_iast (ws' := [wM dT a y3]) C 23 0 3 dX12_lays_22 rfl rfl rfl (vi_in g2) (by rw [ey3]; rfl) ?_
      refine wa_aload_n C 0 24 dX12_lays_23 rfl rfl ?_
      refine wa_dup C 25 dX12_lays_24 rfl rfl ?_
      refine wa_get C 28 0 0 8 dX12_lays_25 rfl iX12 q1457 rfl (Nat.le_of_ble_eq_true rfl) rfl rfl rfl ?_
      refine wa_iconst (v := 1) C 29 dX12_lays_28 rfl rfl ?_
      refine wa_iadd C 30 dX12_lays_29 rfl ?_
      obtain ⟨y4, ey4, hf⟩ := bnd_ex hf
      refine wa_put (ws' := [wM dT a y4]) C 33 0 0 8 tyX12 dX12_lays_30 rfl iX12 tyX12_ok nmX12 q1457 rfl (Nat.le_of_ble_eq_true rfl) rfl rfl rfl rfl rfl (Nat.le_of_ble_eq_true rfl) (by rw [ey4]; rfl) ?_
      obtain ⟨x5, ex5, hf⟩ := bnd_ex hf
      refine wa_iinc (v := x5) (lv' := [(0, .ref (a 0)), (1, .int l1), (2, .int x5)]) C 2 [1, 2, 0] 36 dX12_lays_33 rfl rfl (by rw [ex5]; rfl) (Nat.le_of_ble_eq_true rfl) rfl ?_
      refine wa_goto C 3 dX12_lays_36 rfl ?_
      exact ih x5 y4 hf
set_option maxRecDepth 20000 in
theorem c_X12_lays {l : Launch} {D : va_G} {dT : Nat → ClassId} {a : Nat → Nat} {v : MS} {p0 : Int32} {res : MS} (hf : f_X12_lays v p0 = some res) : CTv l yX12_lays cX12_lays 3 none ({ frames := 0, cells := 0, slots := 0, locals := 0 } : Room) D dT [.ref (a 0), .int p0] ([wM dT a v]) ([wM dT a res]) := by
  refine CTv.of (by decide) (Nat.le_of_ble_eq_true rfl) rfl ?_
  intro p e s m args below meth c A C
  unfold f_X12_lays at hf
  refine wa_bipush (v := 24) C 2 dX12_lays_0 rfl rfl ?_
  refine wa_istore_n (lv' := [(0, .ref (a 0)), (1, .int p0), (2, .int (24 : Int32))]) C [1, 2, 0] 3 dX12_lays_2 rfl (Nat.le_of_ble_eq_true rfl) rfl ?_
  exact w_X12_lays_L3 C FUEL (24 : Int32) v hf
theorem kv_X12_102 : KV RX12 102 yX12_lays cX12_lays 3 none 1 := KV.mk q1636 q1638 qs46 q13 q1639 ⟨by decide, by decide, by decide +kernel⟩
def f_X12_feed (v : MS) (p0 : Int32) (p1 : Int32) (p2 : Int32) (p3 : Int32) (p4 : Int32) : Option (Int32 × MS) := bnd (upd v.1 0 (0 : Int32), v.2) (fun y1 => (if ((y1.1 8) + (20 : Int32)) ≤ (700 : Int32) then (f_X12_lays y1 p0).bind (fun q3 => (f_X12_lays q3 p1).bind (fun q4 => (f_X12_lays q4 p2).bind (fun q5 => (f_X12_lays q5 p3).bind (fun q6 => (f_X12_lays q6 p4).bind (fun q7 => some ((q7.1 8), q7)))))) else some ((-1 : Int32), y1)))
set_option maxRecDepth 20000 in
theorem c_X12_feed {l : Launch} {D : va_G} {dT : Nat → ClassId} {a : Nat → Nat} {v : MS} {p0 : Int32} {p1 : Int32} {p2 : Int32} {p3 : Int32} {p4 : Int32} {res : Int32 × MS} (hf : f_X12_feed v p0 p1 p2 p3 p4 = some res) : CTi l yX12_feed cX12_feed 6 (some .int) ({ frames := 1, cells := 0, slots := 0, locals := 22 } : Room) D dT [.ref (a 0), .int p0, .int p1, .int p2, .int p3, .int p4] ([wM dT a v]) ([wM dT a res.2]) res.1 := by
  refine CTi.of (by decide) (Nat.le_of_ble_eq_true rfl) rfl ?_
  intro p e s m args below meth c A C
  unfold f_X12_feed at hf
  refine wa_aload_n C 0 1 dX12_feed_0 rfl rfl ?_
  refine wa_iconst (v := 0) C 2 dX12_feed_1 rfl rfl ?_
  obtain ⟨y1, ey1, hf⟩ := bnd_ex hf
  refine wa_put (ws' := [wM dT a y1]) C 5 0 0 0 tyX12 dX12_feed_2 rfl iX12 tyX12_ok nmX12 q1449 rfl (Nat.le_of_ble_eq_true rfl) rfl rfl rfl rfl rfl (Nat.le_of_ble_eq_true rfl) (by rw [ey1]; rfl) ?_
  refine wa_aload_n C 0 6 dX12_feed_5 rfl rfl ?_
  refine wa_get C 9 0 0 8 dX12_feed_6 rfl iX12 q1457 rfl (Nat.le_of_ble_eq_true rfl) rfl rfl rfl ?_
  refine wa_bipush (v := 20) C 11 dX12_feed_9 rfl rfl ?_
  refine wa_iadd C 12 dX12_feed_11 rfl ?_
  refine wa_sipush (v := 700) C 15 dX12_feed_12 rfl rfl ?_
  refine wa_icmp_le C 20 18 dX12_feed_15 rfl rfl (fun c2 => ?_) (fun c2 => ?_)
  · replace hf := ite_t hf c2
    refine wa_aload_n C 0 21 dX12_feed_20 rfl rfl ?_
    refine wa_iload_n C 1 22 dX12_feed_21 rfl rfl ?_
    obtain ⟨q3, hq3, hf⟩ := bind_ex hf
    refine wa_callVAv (b1 := 0) (q1 := 0) (ci := 12) (As := [.int p0]) C 25 dX12_feed_22 rfl kv_X12_102 (c_X12_lays hq3) ⟨rfl, rfl⟩ ⟨Nat.le_of_ble_eq_true rfl, Nat.le_of_ble_eq_true rfl⟩ rfl rfl rfl rfl rfl ⟨Nat.zero_le _, Nat.zero_le _⟩ (Nat.le_of_ble_eq_true rfl) ?_
    refine wa_aload_n C 0 26 dX12_feed_25 rfl rfl ?_
    refine wa_iload_n C 2 27 dX12_feed_26 rfl rfl ?_
    obtain ⟨q4, hq4, hf⟩ := bind_ex hf
    refine wa_callVAv (b1 := 0) (q1 := 0) (ci := 12) (As := [.int p1]) C 30 dX12_feed_27 rfl kv_X12_102 (c_X12_lays hq4) ⟨rfl, rfl⟩ ⟨Nat.le_of_ble_eq_true rfl, Nat.le_of_ble_eq_true rfl⟩ rfl rfl rfl rfl rfl ⟨Nat.zero_le _, Nat.zero_le _⟩ (Nat.le_of_ble_eq_true rfl) ?_
    refine wa_aload_n C 0 31 dX12_feed_30 rfl rfl ?_
    refine wa_iload_n C 3 32 dX12_feed_31 rfl rfl ?_
    obtain ⟨q5, hq5, hf⟩ := bind_ex hf
    refine wa_callVAv (b1 := 0) (q1 := 0) (ci := 12) (As := [.int p2]) C 35 dX12_feed_32 rfl kv_X12_102 (c_X12_lays hq5) ⟨rfl, rfl⟩ ⟨Nat.le_of_ble_eq_true rfl, Nat.le_of_ble_eq_true rfl⟩ rfl rfl rfl rfl rfl ⟨Nat.zero_le _, Nat.zero_le _⟩ (Nat.le_of_ble_eq_true rfl) ?_
    refine wa_aload_n C 0 36 dX12_feed_35 rfl rfl ?_
    refine wa_iload C 4 38 dX12_feed_36 rfl rfl ?_
    obtain ⟨q6, hq6, hf⟩ := bind_ex hf
    refine wa_callVAv (b1 := 0) (q1 := 0) (ci := 12) (As := [.int p3]) C 41 dX12_feed_38 rfl kv_X12_102 (c_X12_lays hq6) ⟨rfl, rfl⟩ ⟨Nat.le_of_ble_eq_true rfl, Nat.le_of_ble_eq_true rfl⟩ rfl rfl rfl rfl rfl ⟨Nat.zero_le _, Nat.zero_le _⟩ (Nat.le_of_ble_eq_true rfl) ?_
    refine wa_aload_n C 0 42 dX12_feed_41 rfl rfl ?_
    refine wa_iload C 5 44 dX12_feed_42 rfl rfl ?_
    obtain ⟨q7, hq7, hf⟩ := bind_ex hf
    refine wa_callVAv (b1 := 0) (q1 := 0) (ci := 12) (As := [.int p4]) C 47 dX12_feed_44 rfl kv_X12_102 (c_X12_lays hq7) ⟨rfl, rfl⟩ ⟨Nat.le_of_ble_eq_true rfl, Nat.le_of_ble_eq_true rfl⟩ rfl rfl rfl rfl rfl ⟨Nat.zero_le _, Nat.zero_le _⟩ (Nat.le_of_ble_eq_true rfl) ?_
    refine wa_aload_n C 0 48 dX12_feed_47 rfl rfl ?_
    refine wa_get C 51 0 0 8 dX12_feed_48 rfl iX12 q1457 rfl (Nat.le_of_ble_eq_true rfl) rfl rfl rfl ?_
    cases hf
    exact wa_iret C dX12_feed_51 rfl rfl
  · replace hf := ite_f hf c2
    refine wa_iconst (v := (-1)) C 19 dX12_feed_18 rfl rfl ?_
    cases hf
    exact wa_iret C dX12_feed_19 rfl rfl
def f_X12_byteAt (v : MS) (p0 : Int32) : Option (Int32) := (if (v.1 12) ≤ p0 then some ((0 : Int32)) else grd (vi p0 700) (some ((v.2.2 3 (p0).toNatClampNeg))))
set_option maxRecDepth 20000 in
theorem c_X12_byteAt {l : Launch} {D : va_G} {dT : Nat → ClassId} {a : Nat → Nat} {v : MS} {p0 : Int32} {res : Int32} (hf : f_X12_byteAt v p0 = some res) : CTi l yX12_byteAt cX12_byteAt 2 (some .int) ({ frames := 0, cells := 0, slots := 0, locals := 0 } : Room) D dT [.ref (a 0), .int p0] ([wM dT a v]) ([wM dT a v]) res := by
  refine CTi.of (by decide) (Nat.le_of_ble_eq_true rfl) rfl ?_
  intro p e s m args below meth c A C
  unfold f_X12_byteAt at hf
  refine wa_iload_n C 1 1 dX12_byteAt_0 rfl rfl ?_
  refine wa_aload_n C 0 2 dX12_byteAt_1 rfl rfl ?_
  refine wa_get C 5 0 0 12 dX12_byteAt_2 rfl iX12 q1461 rfl (Nat.le_of_ble_eq_true rfl) rfl rfl rfl ?_
  refine wa_icmp_ge C 17 8 dX12_byteAt_5 rfl rfl (fun c1 => ?_) (fun c1 => ?_)
  · replace hf := ite_t hf c1
    refine wa_iconst (v := 0) C 18 dX12_byteAt_17 rfl rfl ?_
    cases hf
    exact wa_iret C dX12_byteAt_18 rfl rfl
  · replace hf := ite_f hf c1
    refine wa_aload_n C 0 9 dX12_byteAt_8 rfl rfl ?_
    refine wa_get C 12 0 0 7 dX12_byteAt_9 rfl iX12 q1456 rfl (Nat.le_of_ble_eq_true rfl) rfl rfl rfl ?_
    refine wa_iload_n C 1 13 dX12_byteAt_12 rfl rfl ?_
    obtain ⟨g2, hf⟩ := grd_ex hf
    refine wa_iald C 14 0 3 dX12_byteAt_13 rfl rfl rfl (vi_in g2) ?_
    refine wa_goto C 18 dX12_byteAt_14 rfl ?_
    cases hf
    exact wa_iret C dX12_byteAt_18 rfl rfl
def f_X12_isLetter (p0 : Int32) : Option (Int32) := (if p0 < (97 : Int32) then some ((0 : Int32)) else (if (122 : Int32) < p0 then some ((0 : Int32)) else some ((1 : Int32))))
set_option maxRecDepth 20000 in
theorem c_X12_isLetter {l : Launch} {D : va_G} {dT : Nat → ClassId} {p0 : Int32} {res : Int32} (hf : f_X12_isLetter p0 = some res) : CTi l yX12_isLetter cX12_isLetter 1 (some .boolean) ({ frames := 0, cells := 0, slots := 0, locals := 0 } : Room) D dT [.int p0] ([]) ([]) res := by
  refine CTi.of (by decide) (Nat.le_of_ble_eq_true rfl) rfl ?_
  intro p e s m args below meth c A C
  unfold f_X12_isLetter at hf
  refine wa_iload_n C 0 1 dX12_isLetter_0 rfl rfl ?_
  refine wa_bipush (v := 97) C 3 dX12_isLetter_1 rfl rfl ?_
  refine wa_icmp_lt C 16 6 dX12_isLetter_3 rfl rfl (fun c1 => ?_) (fun c1 => ?_)
  · replace hf := ite_t hf c1
    refine wa_iconst (v := 0) C 17 dX12_isLetter_16 rfl rfl ?_
    cases hf
    exact wa_zret C dX12_isLetter_17 rfl rfl rfl
  · replace hf := ite_f hf c1
    refine wa_iload_n C 0 7 dX12_isLetter_6 rfl rfl ?_
    refine wa_bipush (v := 122) C 9 dX12_isLetter_7 rfl rfl ?_
    refine wa_icmp_gt C 16 12 dX12_isLetter_9 rfl rfl (fun c2 => ?_) (fun c2 => ?_)
    · replace hf := ite_t hf c2
      refine wa_iconst (v := 0) C 17 dX12_isLetter_16 rfl rfl ?_
      cases hf
      exact wa_zret C dX12_isLetter_17 rfl rfl rfl
    · replace hf := ite_f hf c2
      refine wa_iconst (v := 1) C 13 dX12_isLetter_12 rfl rfl ?_
      refine wa_goto C 17 dX12_isLetter_13 rfl ?_
      cases hf
      exact wa_zret C dX12_isLetter_17 rfl rfl rfl
def f_X12_isDigit (p0 : Int32) : Option (Int32) := (if p0 < (48 : Int32) then some ((0 : Int32)) else (if (57 : Int32) < p0 then some ((0 : Int32)) else some ((1 : Int32))))
set_option maxRecDepth 20000 in
theorem c_X12_isDigit {l : Launch} {D : va_G} {dT : Nat → ClassId} {p0 : Int32} {res : Int32} (hf : f_X12_isDigit p0 = some res) : CTi l yX12_isDigit cX12_isDigit 1 (some .boolean) ({ frames := 0, cells := 0, slots := 0, locals := 0 } : Room) D dT [.int p0] ([]) ([]) res := by
  refine CTi.of (by decide) (Nat.le_of_ble_eq_true rfl) rfl ?_
  intro p e s m args below meth c A C
  unfold f_X12_isDigit at hf
  refine wa_iload_n C 0 1 dX12_isDigit_0 rfl rfl ?_
  refine wa_bipush (v := 48) C 3 dX12_isDigit_1 rfl rfl ?_
  refine wa_icmp_lt C 16 6 dX12_isDigit_3 rfl rfl (fun c1 => ?_) (fun c1 => ?_)
  · replace hf := ite_t hf c1
    refine wa_iconst (v := 0) C 17 dX12_isDigit_16 rfl rfl ?_
    cases hf
    exact wa_zret C dX12_isDigit_17 rfl rfl rfl
  · replace hf := ite_f hf c1
    refine wa_iload_n C 0 7 dX12_isDigit_6 rfl rfl ?_
    refine wa_bipush (v := 57) C 9 dX12_isDigit_7 rfl rfl ?_
    refine wa_icmp_gt C 16 12 dX12_isDigit_9 rfl rfl (fun c2 => ?_) (fun c2 => ?_)
    · replace hf := ite_t hf c2
      refine wa_iconst (v := 0) C 17 dX12_isDigit_16 rfl rfl ?_
      cases hf
      exact wa_zret C dX12_isDigit_17 rfl rfl rfl
    · replace hf := ite_f hf c2
      refine wa_iconst (v := 1) C 13 dX12_isDigit_12 rfl rfl ?_
      refine wa_goto C 17 dX12_isDigit_13 rfl ?_
      cases hf
      exact wa_zret C dX12_isDigit_17 rfl rfl rfl
theorem ks_X12_132 : KS RX12 132 yX12_isLetter cX12_isLetter 1 (some .boolean) 1 := KS.mk q1656 q1657 q13 q1658 ⟨by decide, by decide, by decide +kernel⟩
theorem ks_X12_136 : KS RX12 136 yX12_isDigit cX12_isDigit 1 (some .boolean) 1 := KS.mk q1659 q1660 q13 q1661 ⟨by decide, by decide, by decide +kernel⟩
theorem kv_X12_112 : KV RX12 112 yX12_byteAt cX12_byteAt 2 (some .int) 1 := KV.mk q1652 q1654 qs49 q13 q1655 ⟨by decide, by decide, by decide +kernel⟩
def f_X12_takes_L187 : Nat → MS → Option (MS)
  | 0, _ => none
  | n + 1, z0 => (f_X12_byteAt z0 (z0.1 13)).bind (fun q42 => (f_X12_isDigit q42).bind (fun q43 => (if q43 = 0 then bnd (upd z0.1 14 (2 : Int32), z0.2) (fun y45 => bnd (upd y45.1 16 ((y45.1 13) - (y45.1 15)), y45.2) (fun y46 => some (y46))) else (if (4 : Int32) ≤ ((z0.1 13) - (z0.1 15)) then bnd (upd z0.1 13 ((z0.1 13) + (1 : Int32)), z0.2) (fun y48 => f_X12_takes_L187 n y48) else (f_X12_byteAt z0 (z0.1 13)).bind (fun q49 => bnd (upd z0.1 17 ((((10 : Int32) * (z0.1 17)) + q49) - (48 : Int32)), z0.2) (fun y50 => bnd (upd y50.1 13 ((y50.1 13) + (1 : Int32)), y50.2) (fun y51 => f_X12_takes_L187 n y51)))))))
def f_X12_takes_L108 : Nat → MS → Option (MS)
  | 0, _ => none
  | n + 1, z0 => (f_X12_byteAt z0 (z0.1 13)).bind (fun q52 => (f_X12_isLetter q52).bind (fun q53 => (if q53 = 0 then bnd (upd z0.1 14 (1 : Int32), z0.2) (fun y55 => bnd (upd y55.1 16 ((y55.1 13) - (y55.1 15)), y55.2) (fun y56 => some (y56))) else (if (7 : Int32) ≤ ((z0.1 13) - (z0.1 15)) then bnd (upd z0.1 13 ((z0.1 13) + (1 : Int32)), z0.2) (fun y58 => f_X12_takes_L108 n y58) else (f_X12_byteAt z0 (z0.1 13)).bind (fun q59 => bnd (z0.1, ((z0.2.1 <<< ((5 : Int32).toInt64 &&& 63)) ||| (q59 - (96 : Int32)).toInt64), z0.2.2) (fun y60 => bnd (upd y60.1 13 ((y60.1 13) + (1 : Int32)), y60.2) (fun y61 => f_X12_takes_L108 n y61)))))))
def f_X12_takes_J50 (z0 : MS) : Option (MS) := bnd (upd z0.1 15 (z0.1 13), z0.2) (fun y2 => bnd (y2.1, (0 : Int64), y2.2.2) (fun y3 => bnd (upd y3.1 17 (0 : Int32), y3.2) (fun y4 => (f_X12_byteAt y4 (y4.1 13)).bind (fun q5 => bnd (upd y4.1 18 q5, y4.2) (fun y6 => (if (y6.1 13) < (y6.1 12) then (f_X12_isLetter q5).bind (fun q8 => (if q8 = 0 then (f_X12_isDigit q5).bind (fun q10 => (if q10 = 0 then bnd (upd y6.1 13 ((y6.1 13) + (1 : Int32)), y6.2) (fun y12 => (if q5 = (59 : Int32) then bnd (upd y12.1 14 (3 : Int32), y12.2) (fun y14 => bnd (upd y14.1 16 ((y14.1 13) - (y14.1 15)), y14.2) (fun y15 => some (y15))) else (if q5 = (40 : Int32) then bnd (upd y12.1 14 (3 : Int32), y12.2) (fun y17 => bnd (upd y17.1 16 ((y17.1 13) - (y17.1 15)), y17.2) (fun y18 => some (y18))) else (if q5 = (41 : Int32) then bnd (upd y12.1 14 (3 : Int32), y12.2) (fun y20 => bnd (upd y20.1 16 ((y20.1 13) - (y20.1 15)), y20.2) (fun y21 => some (y21))) else (if q5 = (43 : Int32) then bnd (upd y12.1 14 (3 : Int32), y12.2) (fun y23 => bnd (upd y23.1 16 ((y23.1 13) - (y23.1 15)), y23.2) (fun y24 => some (y24))) else (if q5 = (45 : Int32) then bnd (upd y12.1 14 (3 : Int32), y12.2) (fun y26 => bnd (upd y26.1 16 ((y26.1 13) - (y26.1 15)), y26.2) (fun y27 => some (y27))) else (if q5 = (42 : Int32) then bnd (upd y12.1 14 (3 : Int32), y12.2) (fun y29 => bnd (upd y29.1 16 ((y29.1 13) - (y29.1 15)), y29.2) (fun y30 => some (y30))) else (if q5 = (47 : Int32) then bnd (upd y12.1 14 (3 : Int32), y12.2) (fun y32 => bnd (upd y32.1 16 ((y32.1 13) - (y32.1 15)), y32.2) (fun y33 => some (y33))) else (if q5 = (60 : Int32) then bnd (upd y12.1 14 (3 : Int32), y12.2) (fun y35 => bnd (upd y35.1 16 ((y35.1 13) - (y35.1 15)), y35.2) (fun y36 => some (y36))) else (if q5 = (61 : Int32) then bnd (upd y12.1 14 (3 : Int32), y12.2) (fun y40 => bnd (upd y40.1 16 ((y40.1 13) - (y40.1 15)), y40.2) (fun y41 => some (y41))) else bnd (upd y12.1 14 (4 : Int32), y12.2) (fun y38 => bnd (upd y38.1 16 ((y38.1 13) - (y38.1 15)), y38.2) (fun y39 => some (y39))))))))))))) else f_X12_takes_L187 FUEL y6)) else f_X12_takes_L108 FUEL y6)) else bnd (upd y6.1 14 (0 : Int32), y6.2) (fun y62 => bnd (upd y62.1 16 ((y62.1 13) - (y62.1 15)), y62.2) (fun y63 => some (y63)))))))))
def f_X12_takes_L0 : Nat → MS → Option (MS)
  | 0, _ => none
  | n + 1, z0 => (if (z0.1 12) ≤ (z0.1 13) then f_X12_takes_J50 z0 else (f_X12_byteAt z0 (z0.1 13)).bind (fun q64 => (if q64 = (32 : Int32) then bnd (upd z0.1 13 ((z0.1 13) + (1 : Int32)), z0.2) (fun y66 => f_X12_takes_L0 n y66) else (f_X12_byteAt z0 (z0.1 13)).bind (fun q67 => (if q67 = (10 : Int32) then bnd (upd z0.1 13 ((z0.1 13) + (1 : Int32)), z0.2) (fun y69 => f_X12_takes_L0 n y69) else f_X12_takes_J50 z0)))))
def f_X12_takes (v : MS) : Option (MS) := f_X12_takes_L0 FUEL v
set_option maxRecDepth 20000 in
theorem w_X12_takes_L187 {p : Program} {l : Launch} {e : Env} {s : State} {m : MethodId} {args : Array Value} {below : List Frame} {meth : Method} {c : Code} {D : va_G} {A : Nat → Prop} {dT : Nat → ClassId} {a : Nat → Nat} {res : MS} (C : Cx p s m args meth c cX12_takes 2 RX12 none D A dT) : ∀ (n : Nat) (z0 : MS), f_X12_takes_L187 n z0 = some res → WA p l e ({ frames := 1, cells := 0, slots := 0, locals := 21 } : Room) s m args below meth c (MQ below (QV D dT A ([wM dT a res])) args s 0 0 A) D A 0 0 2 187 ([wM dT a z0]) [(0, .ref (a 0))] [] := by
  intro n
  induction n with
  | zero => intro z0 hf; cases hf
  | succ n ih =>
    intro z0 hf
    unfold f_X12_takes_L187 at hf
    refine wa_aload_n C 0 188 dX12_takes_187 rfl rfl ?_
    refine wa_aload_n C 0 189 dX12_takes_188 rfl rfl ?_
    refine wa_get C 192 0 0 13 dX12_takes_189 rfl iX12 q1462 rfl (Nat.le_of_ble_eq_true rfl) rfl rfl rfl ?_
    obtain ⟨q42, hq42, hf⟩ := bind_ex hf
    refine wa_callVAi (b1 := 0) (q1 := 0) (ci := 12) (As := [.int (z0.1 13)]) C 195 dX12_takes_192 rfl kv_X12_112 (c_X12_byteAt hq42) ⟨rfl, rfl⟩ ⟨Nat.le_of_ble_eq_true rfl, Nat.le_of_ble_eq_true rfl⟩ rfl rfl rfl rfl rfl ⟨Nat.zero_le _, Nat.zero_le _⟩ (Nat.le_of_ble_eq_true rfl) ?_
    obtain ⟨q43, hq43, hf⟩ := bind_ex hf
    refine wa_callS0i (As := [.int q42]) C 198 dX12_takes_195 rfl ks_X12_136 (c_X12_isDigit hq43) ⟨rfl, rfl⟩ ⟨Nat.le_of_ble_eq_true rfl, Nat.le_of_ble_eq_true rfl⟩ rfl rfl ⟨Nat.zero_le _, Nat.zero_le _⟩ (Nat.le_of_ble_eq_true rfl) ?_
    refine wa_if_eq C 250 201 dX12_takes_198 rfl rfl (fun c44 => ?_) (fun c44 => ?_)
    · replace hf := ite_t hf c44
      refine wa_aload_n C 0 251 dX12_takes_250 rfl rfl ?_
      refine wa_iconst (v := 2) C 252 dX12_takes_251 rfl rfl ?_
      obtain ⟨y45, ey45, hf⟩ := bnd_ex hf
      refine wa_put (ws' := [wM dT a y45]) C 255 0 0 14 tyX12 dX12_takes_252 rfl iX12 tyX12_ok nmX12 q1463 rfl (Nat.le_of_ble_eq_true rfl) rfl rfl rfl rfl rfl (Nat.le_of_ble_eq_true rfl) (by rw [ey45]; rfl) ?_
      refine wa_goto C 331 dX12_takes_255 rfl ?_
      refine wa_aload_n C 0 332 dX12_takes_331 rfl rfl ?_
      refine wa_aload_n C 0 333 dX12_takes_332 rfl rfl ?_
      refine wa_get C 336 0 0 13 dX12_takes_333 rfl iX12 q1462 rfl (Nat.le_of_ble_eq_true rfl) rfl rfl rfl ?_
      refine wa_aload_n C 0 337 dX12_takes_336 rfl rfl ?_
      refine wa_get C 340 0 0 15 dX12_takes_337 rfl iX12 q1464 rfl (Nat.le_of_ble_eq_true rfl) rfl rfl rfl ?_
      refine wa_isub C 341 dX12_takes_340 rfl ?_
      obtain ⟨y46, ey46, hf⟩ := bnd_ex hf
      refine wa_put (ws' := [wM dT a y46]) C 344 0 0 16 tyX12 dX12_takes_341 rfl iX12 tyX12_ok nmX12 q1465 rfl (Nat.le_of_ble_eq_true rfl) rfl rfl rfl rfl rfl (Nat.le_of_ble_eq_true rfl) (by rw [ey46]; rfl) ?_
      cases hf
      exact wa_vret C dX12_takes_344 rfl
    · replace hf := ite_f hf c44
      refine wa_aload_n C 0 202 dX12_takes_201 rfl rfl ?_
      refine wa_get C 205 0 0 13 dX12_takes_202 rfl iX12 q1462 rfl (Nat.le_of_ble_eq_true rfl) rfl rfl rfl ?_
      refine wa_aload_n C 0 206 dX12_takes_205 rfl rfl ?_
      refine wa_get C 209 0 0 15 dX12_takes_206 rfl iX12 q1464 rfl (Nat.le_of_ble_eq_true rfl) rfl rfl rfl ?_
      refine wa_isub C 210 dX12_takes_209 rfl ?_
      refine wa_iconst (v := 4) C 211 dX12_takes_210 rfl rfl ?_
      refine wa_icmp_ge C 237 214 dX12_takes_211 rfl rfl (fun c47 => ?_) (fun c47 => ?_)
      · replace hf := ite_t hf c47
        refine wa_aload_n C 0 238 dX12_takes_237 rfl rfl ?_
        refine wa_dup C 239 dX12_takes_238 rfl rfl ?_
        refine wa_get C 242 0 0 13 dX12_takes_239 rfl iX12 q1462 rfl (Nat.le_of_ble_eq_true rfl) rfl rfl rfl ?_
        refine wa_iconst (v := 1) C 243 dX12_takes_242 rfl rfl ?_
        refine wa_iadd C 244 dX12_takes_243 rfl ?_
        obtain ⟨y48, ey48, hf⟩ := bnd_ex hf
        refine wa_put (ws' := [wM dT a y48]) C 247 0 0 13 tyX12 dX12_takes_244 rfl iX12 tyX12_ok nmX12 q1462 rfl (Nat.le_of_ble_eq_true rfl) rfl rfl rfl rfl rfl (Nat.le_of_ble_eq_true rfl) (by rw [ey48]; rfl) ?_
        refine wa_goto C 187 dX12_takes_247 rfl ?_
        exact ih y48 hf
      · replace hf := ite_f hf c47
        refine wa_aload_n C 0 215 dX12_takes_214 rfl rfl ?_
        refine wa_bipush (v := 10) C 217 dX12_takes_215 rfl rfl ?_
        refine wa_aload_n C 0 218 dX12_takes_217 rfl rfl ?_
        refine wa_get C 221 0 0 17 dX12_takes_218 rfl iX12 q1466 rfl (Nat.le_of_ble_eq_true rfl) rfl rfl rfl ?_
        refine wa_imul C 222 dX12_takes_221 rfl ?_
        refine wa_aload_n C 0 223 dX12_takes_222 rfl rfl ?_
        refine wa_aload_n C 0 224 dX12_takes_223 rfl rfl ?_
        refine wa_get C 227 0 0 13 dX12_takes_224 rfl iX12 q1462 rfl (Nat.le_of_ble_eq_true rfl) rfl rfl rfl ?_
        obtain ⟨q49, hq49, hf⟩ := bind_ex hf
        refine wa_callVAi (b1 := 0) (q1 := 0) (ci := 12) (As := [.int (z0.1 13)]) C 230 dX12_takes_227 rfl kv_X12_112 (c_X12_byteAt hq49) ⟨rfl, rfl⟩ ⟨Nat.le_of_ble_eq_true rfl, Nat.le_of_ble_eq_true rfl⟩ rfl rfl rfl rfl rfl ⟨Nat.zero_le _, Nat.zero_le _⟩ (Nat.le_of_ble_eq_true rfl) ?_
        refine wa_iadd C 231 dX12_takes_230 rfl ?_
        refine wa_bipush (v := 48) C 233 dX12_takes_231 rfl rfl ?_
        refine wa_isub C 234 dX12_takes_233 rfl ?_
        obtain ⟨y50, ey50, hf⟩ := bnd_ex hf
        refine wa_put (ws' := [wM dT a y50]) C 237 0 0 17 tyX12 dX12_takes_234 rfl iX12 tyX12_ok nmX12 q1466 rfl (Nat.le_of_ble_eq_true rfl) rfl rfl rfl rfl rfl (Nat.le_of_ble_eq_true rfl) (by rw [ey50]; rfl) ?_
        refine wa_aload_n C 0 238 dX12_takes_237 rfl rfl ?_
        refine wa_dup C 239 dX12_takes_238 rfl rfl ?_
        refine wa_get C 242 0 0 13 dX12_takes_239 rfl iX12 q1462 rfl (Nat.le_of_ble_eq_true rfl) rfl rfl rfl ?_
        refine wa_iconst (v := 1) C 243 dX12_takes_242 rfl rfl ?_
        refine wa_iadd C 244 dX12_takes_243 rfl ?_
        obtain ⟨y51, ey51, hf⟩ := bnd_ex hf
        refine wa_put (ws' := [wM dT a y51]) C 247 0 0 13 tyX12 dX12_takes_244 rfl iX12 tyX12_ok nmX12 q1462 rfl (Nat.le_of_ble_eq_true rfl) rfl rfl rfl rfl rfl (Nat.le_of_ble_eq_true rfl) (by rw [ey51]; rfl) ?_
        refine wa_goto C 187 dX12_takes_247 rfl ?_
        exact ih y51 hf
set_option maxRecDepth 20000 in
theorem w_X12_takes_L108 {p : Program} {l : Launch} {e : Env} {s : State} {m : MethodId} {args : Array Value} {below : List Frame} {meth : Method} {c : Code} {D : va_G} {A : Nat → Prop} {dT : Nat → ClassId} {a : Nat → Nat} {res : MS} (C : Cx p s m args meth c cX12_takes 2 RX12 none D A dT) : ∀ (n : Nat) (z0 : MS), f_X12_takes_L108 n z0 = some res → WA p l e ({ frames := 1, cells := 0, slots := 0, locals := 21 } : Room) s m args below meth c (MQ below (QV D dT A ([wM dT a res])) args s 0 0 A) D A 0 0 2 108 ([wM dT a z0]) [(0, .ref (a 0))] [] := by
  intro n
  induction n with
  | zero => intro z0 hf; cases hf
  | succ n ih =>
    intro z0 hf
    unfold f_X12_takes_L108 at hf
    refine wa_aload_n C 0 109 dX12_takes_108 rfl rfl ?_
    refine wa_aload_n C 0 110 dX12_takes_109 rfl rfl ?_
    refine wa_get C 113 0 0 13 dX12_takes_110 rfl iX12 q1462 rfl (Nat.le_of_ble_eq_true rfl) rfl rfl rfl ?_
    obtain ⟨q52, hq52, hf⟩ := bind_ex hf
    refine wa_callVAi (b1 := 0) (q1 := 0) (ci := 12) (As := [.int (z0.1 13)]) C 116 dX12_takes_113 rfl kv_X12_112 (c_X12_byteAt hq52) ⟨rfl, rfl⟩ ⟨Nat.le_of_ble_eq_true rfl, Nat.le_of_ble_eq_true rfl⟩ rfl rfl rfl rfl rfl ⟨Nat.zero_le _, Nat.zero_le _⟩ (Nat.le_of_ble_eq_true rfl) ?_
    obtain ⟨q53, hq53, hf⟩ := bind_ex hf
    refine wa_callS0i (As := [.int q52]) C 119 dX12_takes_116 rfl ks_X12_132 (c_X12_isLetter hq53) ⟨rfl, rfl⟩ ⟨Nat.le_of_ble_eq_true rfl, Nat.le_of_ble_eq_true rfl⟩ rfl rfl ⟨Nat.zero_le _, Nat.zero_le _⟩ (Nat.le_of_ble_eq_true rfl) ?_
    refine wa_if_eq C 172 122 dX12_takes_119 rfl rfl (fun c54 => ?_) (fun c54 => ?_)
    · replace hf := ite_t hf c54
      refine wa_aload_n C 0 173 dX12_takes_172 rfl rfl ?_
      refine wa_iconst (v := 1) C 174 dX12_takes_173 rfl rfl ?_
      obtain ⟨y55, ey55, hf⟩ := bnd_ex hf
      refine wa_put (ws' := [wM dT a y55]) C 177 0 0 14 tyX12 dX12_takes_174 rfl iX12 tyX12_ok nmX12 q1463 rfl (Nat.le_of_ble_eq_true rfl) rfl rfl rfl rfl rfl (Nat.le_of_ble_eq_true rfl) (by rw [ey55]; rfl) ?_
      refine wa_goto C 331 dX12_takes_177 rfl ?_
      refine wa_aload_n C 0 332 dX12_takes_331 rfl rfl ?_
      refine wa_aload_n C 0 333 dX12_takes_332 rfl rfl ?_
      refine wa_get C 336 0 0 13 dX12_takes_333 rfl iX12 q1462 rfl (Nat.le_of_ble_eq_true rfl) rfl rfl rfl ?_
      refine wa_aload_n C 0 337 dX12_takes_336 rfl rfl ?_
      refine wa_get C 340 0 0 15 dX12_takes_337 rfl iX12 q1464 rfl (Nat.le_of_ble_eq_true rfl) rfl rfl rfl ?_
      refine wa_isub C 341 dX12_takes_340 rfl ?_
      obtain ⟨y56, ey56, hf⟩ := bnd_ex hf
      refine wa_put (ws' := [wM dT a y56]) C 344 0 0 16 tyX12 dX12_takes_341 rfl iX12 tyX12_ok nmX12 q1465 rfl (Nat.le_of_ble_eq_true rfl) rfl rfl rfl rfl rfl (Nat.le_of_ble_eq_true rfl) (by rw [ey56]; rfl) ?_
      cases hf
      exact wa_vret C dX12_takes_344 rfl
    · replace hf := ite_f hf c54
      refine wa_aload_n C 0 123 dX12_takes_122 rfl rfl ?_
      refine wa_get C 126 0 0 13 dX12_takes_123 rfl iX12 q1462 rfl (Nat.le_of_ble_eq_true rfl) rfl rfl rfl ?_
      refine wa_aload_n C 0 127 dX12_takes_126 rfl rfl ?_
      refine wa_get C 130 0 0 15 dX12_takes_127 rfl iX12 q1464 rfl (Nat.le_of_ble_eq_true rfl) rfl rfl rfl ?_
      refine wa_isub C 131 dX12_takes_130 rfl ?_
      refine wa_bipush (v := 7) C 133 dX12_takes_131 rfl rfl ?_
      refine wa_icmp_ge C 159 136 dX12_takes_133 rfl rfl (fun c57 => ?_) (fun c57 => ?_)
      · replace hf := ite_t hf c57
        refine wa_aload_n C 0 160 dX12_takes_159 rfl rfl ?_
        refine wa_dup C 161 dX12_takes_160 rfl rfl ?_
        refine wa_get C 164 0 0 13 dX12_takes_161 rfl iX12 q1462 rfl (Nat.le_of_ble_eq_true rfl) rfl rfl rfl ?_
        refine wa_iconst (v := 1) C 165 dX12_takes_164 rfl rfl ?_
        refine wa_iadd C 166 dX12_takes_165 rfl ?_
        obtain ⟨y58, ey58, hf⟩ := bnd_ex hf
        refine wa_put (ws' := [wM dT a y58]) C 169 0 0 13 tyX12 dX12_takes_166 rfl iX12 tyX12_ok nmX12 q1462 rfl (Nat.le_of_ble_eq_true rfl) rfl rfl rfl rfl rfl (Nat.le_of_ble_eq_true rfl) (by rw [ey58]; rfl) ?_
        refine wa_goto C 108 dX12_takes_169 rfl ?_
        exact ih y58 hf
      · replace hf := ite_f hf c57
        refine wa_aload_n C 0 137 dX12_takes_136 rfl rfl ?_
        refine wa_aload_n C 0 138 dX12_takes_137 rfl rfl ?_
        refine wa_get C 141 0 0 19 dX12_takes_138 rfl iX12 q1468 rfl (Nat.le_of_ble_eq_true rfl) rfl rfl rfl ?_
        refine wa_iconst (v := 5) C 142 dX12_takes_141 rfl rfl ?_
        refine wa_lshl C 143 dX12_takes_142 rfl ?_
        refine wa_aload_n C 0 144 dX12_takes_143 rfl rfl ?_
        refine wa_aload_n C 0 145 dX12_takes_144 rfl rfl ?_
        refine wa_get C 148 0 0 13 dX12_takes_145 rfl iX12 q1462 rfl (Nat.le_of_ble_eq_true rfl) rfl rfl rfl ?_
        obtain ⟨q59, hq59, hf⟩ := bind_ex hf
        refine wa_callVAi (b1 := 0) (q1 := 0) (ci := 12) (As := [.int (z0.1 13)]) C 151 dX12_takes_148 rfl kv_X12_112 (c_X12_byteAt hq59) ⟨rfl, rfl⟩ ⟨Nat.le_of_ble_eq_true rfl, Nat.le_of_ble_eq_true rfl⟩ rfl rfl rfl rfl rfl ⟨Nat.zero_le _, Nat.zero_le _⟩ (Nat.le_of_ble_eq_true rfl) ?_
        refine wa_bipush (v := 96) C 153 dX12_takes_151 rfl rfl ?_
        refine wa_isub C 154 dX12_takes_153 rfl ?_
        refine wa_i2l C 155 dX12_takes_154 rfl ?_
        refine wa_lor C 156 dX12_takes_155 rfl ?_
        obtain ⟨y60, ey60, hf⟩ := bnd_ex hf
        refine wa_put (ws' := [wM dT a y60]) C 159 0 0 19 tyX12 dX12_takes_156 rfl iX12 tyX12_ok nmX12 q1468 rfl (Nat.le_of_ble_eq_true rfl) rfl rfl rfl rfl rfl (Nat.le_of_ble_eq_true rfl) (by rw [ey60]; rfl) ?_
        refine wa_aload_n C 0 160 dX12_takes_159 rfl rfl ?_
        refine wa_dup C 161 dX12_takes_160 rfl rfl ?_
        refine wa_get C 164 0 0 13 dX12_takes_161 rfl iX12 q1462 rfl (Nat.le_of_ble_eq_true rfl) rfl rfl rfl ?_
        refine wa_iconst (v := 1) C 165 dX12_takes_164 rfl rfl ?_
        refine wa_iadd C 166 dX12_takes_165 rfl ?_
        obtain ⟨y61, ey61, hf⟩ := bnd_ex hf
        refine wa_put (ws' := [wM dT a y61]) C 169 0 0 13 tyX12 dX12_takes_166 rfl iX12 tyX12_ok nmX12 q1462 rfl (Nat.le_of_ble_eq_true rfl) rfl rfl rfl rfl rfl (Nat.le_of_ble_eq_true rfl) (by rw [ey61]; rfl) ?_
        refine wa_goto C 108 dX12_takes_169 rfl ?_
        exact ih y61 hf
set_option maxRecDepth 20000 in
theorem w_X12_takes_J50 {p : Program} {l : Launch} {e : Env} {s : State} {m : MethodId} {args : Array Value} {below : List Frame} {meth : Method} {c : Code} {D : va_G} {A : Nat → Prop} {dT : Nat → ClassId} {a : Nat → Nat} {res : MS} (C : Cx p s m args meth c cX12_takes 2 RX12 none D A dT) : ∀ (z0 : MS), f_X12_takes_J50 z0 = some res → WA p l e ({ frames := 1, cells := 0, slots := 0, locals := 21 } : Room) s m args below meth c (MQ below (QV D dT A ([wM dT a res])) args s 0 0 A) D A 0 0 2 50 ([wM dT a z0]) [(0, .ref (a 0))] [] := by
  intro z0 hf
  unfold f_X12_takes_J50 at hf
  refine wa_aload_n C 0 51 dX12_takes_50 rfl rfl ?_
  refine wa_aload_n C 0 52 dX12_takes_51 rfl rfl ?_
  refine wa_get C 55 0 0 13 dX12_takes_52 rfl iX12 q1462 rfl (Nat.le_of_ble_eq_true rfl) rfl rfl rfl ?_
  obtain ⟨y2, ey2, hf⟩ := bnd_ex hf
  refine wa_put (ws' := [wM dT a y2]) C 58 0 0 15 tyX12 dX12_takes_55 rfl iX12 tyX12_ok nmX12 q1464 rfl (Nat.le_of_ble_eq_true rfl) rfl rfl rfl rfl rfl (Nat.le_of_ble_eq_true rfl) (by rw [ey2]; rfl) ?_
  refine wa_aload_n C 0 59 dX12_takes_58 rfl rfl ?_
  refine wa_lconst (v := 0) C 60 dX12_takes_59 rfl rfl ?_
  obtain ⟨y3, ey3, hf⟩ := bnd_ex hf
  refine wa_put (ws' := [wM dT a y3]) C 63 0 0 19 tyX12 dX12_takes_60 rfl iX12 tyX12_ok nmX12 q1468 rfl (Nat.le_of_ble_eq_true rfl) rfl rfl rfl rfl rfl (Nat.le_of_ble_eq_true rfl) (by rw [ey3]; rfl) ?_
  refine wa_aload_n C 0 64 dX12_takes_63 rfl rfl ?_
  refine wa_iconst (v := 0) C 65 dX12_takes_64 rfl rfl ?_
  obtain ⟨y4, ey4, hf⟩ := bnd_ex hf
  refine wa_put (ws' := [wM dT a y4]) C 68 0 0 17 tyX12 dX12_takes_65 rfl iX12 tyX12_ok nmX12 q1466 rfl (Nat.le_of_ble_eq_true rfl) rfl rfl rfl rfl rfl (Nat.le_of_ble_eq_true rfl) (by rw [ey4]; rfl) ?_
  refine wa_aload_n C 0 69 dX12_takes_68 rfl rfl ?_
  refine wa_aload_n C 0 70 dX12_takes_69 rfl rfl ?_
  refine wa_get C 73 0 0 13 dX12_takes_70 rfl iX12 q1462 rfl (Nat.le_of_ble_eq_true rfl) rfl rfl rfl ?_
  obtain ⟨q5, hq5, hf⟩ := bind_ex hf
  refine wa_callVAi (b1 := 0) (q1 := 0) (ci := 12) (As := [.int (y4.1 13)]) C 76 dX12_takes_73 rfl kv_X12_112 (c_X12_byteAt hq5) ⟨rfl, rfl⟩ ⟨Nat.le_of_ble_eq_true rfl, Nat.le_of_ble_eq_true rfl⟩ rfl rfl rfl rfl rfl ⟨Nat.zero_le _, Nat.zero_le _⟩ (Nat.le_of_ble_eq_true rfl) ?_
  refine wa_istore_n (lv' := [(0, .ref (a 0)), (1, .int q5)]) C [1, 0] 77 dX12_takes_76 rfl (Nat.le_of_ble_eq_true rfl) rfl ?_
  refine wa_aload_n C 0 78 dX12_takes_77 rfl rfl ?_
  refine wa_iload_n C 1 79 dX12_takes_78 rfl rfl ?_
  obtain ⟨y6, ey6, hf⟩ := bnd_ex hf
  refine wa_put (ws' := [wM dT a y6]) C 82 0 0 18 tyX12 dX12_takes_79 rfl iX12 tyX12_ok nmX12 q1467 rfl (Nat.le_of_ble_eq_true rfl) rfl rfl rfl rfl rfl (Nat.le_of_ble_eq_true rfl) (by rw [ey6]; rfl) ?_
  refine wa_aload_n C 0 83 dX12_takes_82 rfl rfl ?_
  refine wa_get C 86 0 0 13 dX12_takes_83 rfl iX12 q1462 rfl (Nat.le_of_ble_eq_true rfl) rfl rfl rfl ?_
  refine wa_aload_n C 0 87 dX12_takes_86 rfl rfl ?_
  refine wa_get C 90 0 0 12 dX12_takes_87 rfl iX12 q1461 rfl (Nat.le_of_ble_eq_true rfl) rfl rfl rfl ?_
  refine wa_icmp_lt C 101 93 dX12_takes_90 rfl rfl (fun c7 => ?_) (fun c7 => ?_)
  · replace hf := ite_t hf c7
    refine wa_iload_n C 1 102 dX12_takes_101 rfl rfl ?_
    obtain ⟨q8, hq8, hf⟩ := bind_ex hf
    refine wa_callS0i (As := [.int q5]) C 105 dX12_takes_102 rfl ks_X12_132 (c_X12_isLetter hq8) ⟨rfl, rfl⟩ ⟨Nat.le_of_ble_eq_true rfl, Nat.le_of_ble_eq_true rfl⟩ rfl rfl ⟨Nat.zero_le _, Nat.zero_le _⟩ (Nat.le_of_ble_eq_true rfl) ?_
    refine wa_if_eq C 180 108 dX12_takes_105 rfl rfl (fun c9 => ?_) (fun c9 => ?_)
    · replace hf := ite_t hf c9
      refine wa_iload_n C 1 181 dX12_takes_180 rfl rfl ?_
      obtain ⟨q10, hq10, hf⟩ := bind_ex hf
      refine wa_callS0i (As := [.int q5]) C 184 dX12_takes_181 rfl ks_X12_136 (c_X12_isDigit hq10) ⟨rfl, rfl⟩ ⟨Nat.le_of_ble_eq_true rfl, Nat.le_of_ble_eq_true rfl⟩ rfl rfl ⟨Nat.zero_le _, Nat.zero_le _⟩ (Nat.le_of_ble_eq_true rfl) ?_
      refine wa_if_eq C 258 187 dX12_takes_184 rfl rfl (fun c11 => ?_) (fun c11 => ?_)
      · replace hf := ite_t hf c11
        refine wa_aload_n C 0 259 dX12_takes_258 rfl rfl ?_
        refine wa_dup C 260 dX12_takes_259 rfl rfl ?_
        refine wa_get C 263 0 0 13 dX12_takes_260 rfl iX12 q1462 rfl (Nat.le_of_ble_eq_true rfl) rfl rfl rfl ?_
        refine wa_iconst (v := 1) C 264 dX12_takes_263 rfl rfl ?_
        refine wa_iadd C 265 dX12_takes_264 rfl ?_
        obtain ⟨y12, ey12, hf⟩ := bnd_ex hf
        refine wa_put (ws' := [wM dT a y12]) C 268 0 0 13 tyX12 dX12_takes_265 rfl iX12 tyX12_ok nmX12 q1462 rfl (Nat.le_of_ble_eq_true rfl) rfl rfl rfl rfl rfl (Nat.le_of_ble_eq_true rfl) (by rw [ey12]; rfl) ?_
        refine wa_aload_n C 0 269 dX12_takes_268 rfl rfl ?_
        refine wa_iload_n C 1 270 dX12_takes_269 rfl rfl ?_
        refine wa_bipush (v := 59) C 272 dX12_takes_270 rfl rfl ?_
        refine wa_icmp_eq C 323 275 dX12_takes_272 rfl rfl (fun c13 => ?_) (fun c13 => ?_)
        · replace hf := ite_t hf c13
          refine wa_iconst (v := 3) C 324 dX12_takes_323 rfl rfl ?_
          refine wa_goto C 328 dX12_takes_324 rfl ?_
          obtain ⟨y14, ey14, hf⟩ := bnd_ex hf
          refine wa_put (ws' := [wM dT a y14]) C 331 0 0 14 tyX12 dX12_takes_328 rfl iX12 tyX12_ok nmX12 q1463 rfl (Nat.le_of_ble_eq_true rfl) rfl rfl rfl rfl rfl (Nat.le_of_ble_eq_true rfl) (by rw [ey14]; rfl) ?_
          refine wa_aload_n C 0 332 dX12_takes_331 rfl rfl ?_
          refine wa_aload_n C 0 333 dX12_takes_332 rfl rfl ?_
          refine wa_get C 336 0 0 13 dX12_takes_333 rfl iX12 q1462 rfl (Nat.le_of_ble_eq_true rfl) rfl rfl rfl ?_
          refine wa_aload_n C 0 337 dX12_takes_336 rfl rfl ?_
          refine wa_get C 340 0 0 15 dX12_takes_337 rfl iX12 q1464 rfl (Nat.le_of_ble_eq_true rfl) rfl rfl rfl ?_
          refine wa_isub C 341 dX12_takes_340 rfl ?_
          obtain ⟨y15, ey15, hf⟩ := bnd_ex hf
          refine wa_put (ws' := [wM dT a y15]) C 344 0 0 16 tyX12 dX12_takes_341 rfl iX12 tyX12_ok nmX12 q1465 rfl (Nat.le_of_ble_eq_true rfl) rfl rfl rfl rfl rfl (Nat.le_of_ble_eq_true rfl) (by rw [ey15]; rfl) ?_
          cases hf
          exact wa_vret C dX12_takes_344 rfl
        · replace hf := ite_f hf c13
          refine wa_iload_n C 1 276 dX12_takes_275 rfl rfl ?_
          refine wa_bipush (v := 40) C 278 dX12_takes_276 rfl rfl ?_
          refine wa_icmp_eq C 323 281 dX12_takes_278 rfl rfl (fun c16 => ?_) (fun c16 => ?_)
          · replace hf := ite_t hf c16
            refine wa_iconst (v := 3) C 324 dX12_takes_323 rfl rfl ?_
            refine wa_goto C 328 dX12_takes_324 rfl ?_
            obtain ⟨y17, ey17, hf⟩ := bnd_ex hf
            refine wa_put (ws' := [wM dT a y17]) C 331 0 0 14 tyX12 dX12_takes_328 rfl iX12 tyX12_ok nmX12 q1463 rfl (Nat.le_of_ble_eq_true rfl) rfl rfl rfl rfl rfl (Nat.le_of_ble_eq_true rfl) (by rw [ey17]; rfl) ?_
            refine wa_aload_n C 0 332 dX12_takes_331 rfl rfl ?_
            refine wa_aload_n C 0 333 dX12_takes_332 rfl rfl ?_
            refine wa_get C 336 0 0 13 dX12_takes_333 rfl iX12 q1462 rfl (Nat.le_of_ble_eq_true rfl) rfl rfl rfl ?_
            refine wa_aload_n C 0 337 dX12_takes_336 rfl rfl ?_
            refine wa_get C 340 0 0 15 dX12_takes_337 rfl iX12 q1464 rfl (Nat.le_of_ble_eq_true rfl) rfl rfl rfl ?_
            refine wa_isub C 341 dX12_takes_340 rfl ?_
            obtain ⟨y18, ey18, hf⟩ := bnd_ex hf
            refine wa_put (ws' := [wM dT a y18]) C 344 0 0 16 tyX12 dX12_takes_341 rfl iX12 tyX12_ok nmX12 q1465 rfl (Nat.le_of_ble_eq_true rfl) rfl rfl rfl rfl rfl (Nat.le_of_ble_eq_true rfl) (by rw [ey18]; rfl) ?_
            cases hf
            exact wa_vret C dX12_takes_344 rfl
          · replace hf := ite_f hf c16
            refine wa_iload_n C 1 282 dX12_takes_281 rfl rfl ?_
            refine wa_bipush (v := 41) C 284 dX12_takes_282 rfl rfl ?_
            refine wa_icmp_eq C 323 287 dX12_takes_284 rfl rfl (fun c19 => ?_) (fun c19 => ?_)
            · replace hf := ite_t hf c19
              refine wa_iconst (v := 3) C 324 dX12_takes_323 rfl rfl ?_
              refine wa_goto C 328 dX12_takes_324 rfl ?_
              obtain ⟨y20, ey20, hf⟩ := bnd_ex hf
              refine wa_put (ws' := [wM dT a y20]) C 331 0 0 14 tyX12 dX12_takes_328 rfl iX12 tyX12_ok nmX12 q1463 rfl (Nat.le_of_ble_eq_true rfl) rfl rfl rfl rfl rfl (Nat.le_of_ble_eq_true rfl) (by rw [ey20]; rfl) ?_
              refine wa_aload_n C 0 332 dX12_takes_331 rfl rfl ?_
              refine wa_aload_n C 0 333 dX12_takes_332 rfl rfl ?_
              refine wa_get C 336 0 0 13 dX12_takes_333 rfl iX12 q1462 rfl (Nat.le_of_ble_eq_true rfl) rfl rfl rfl ?_
              refine wa_aload_n C 0 337 dX12_takes_336 rfl rfl ?_
              refine wa_get C 340 0 0 15 dX12_takes_337 rfl iX12 q1464 rfl (Nat.le_of_ble_eq_true rfl) rfl rfl rfl ?_
              refine wa_isub C 341 dX12_takes_340 rfl ?_
              obtain ⟨y21, ey21, hf⟩ := bnd_ex hf
              refine wa_put (ws' := [wM dT a y21]) C 344 0 0 16 tyX12 dX12_takes_341 rfl iX12 tyX12_ok nmX12 q1465 rfl (Nat.le_of_ble_eq_true rfl) rfl rfl rfl rfl rfl (Nat.le_of_ble_eq_true rfl) (by rw [ey21]; rfl) ?_
              cases hf
              exact wa_vret C dX12_takes_344 rfl
            · replace hf := ite_f hf c19
              refine wa_iload_n C 1 288 dX12_takes_287 rfl rfl ?_
              refine wa_bipush (v := 43) C 290 dX12_takes_288 rfl rfl ?_
              refine wa_icmp_eq C 323 293 dX12_takes_290 rfl rfl (fun c22 => ?_) (fun c22 => ?_)
              · replace hf := ite_t hf c22
                refine wa_iconst (v := 3) C 324 dX12_takes_323 rfl rfl ?_
                refine wa_goto C 328 dX12_takes_324 rfl ?_
                obtain ⟨y23, ey23, hf⟩ := bnd_ex hf
                refine wa_put (ws' := [wM dT a y23]) C 331 0 0 14 tyX12 dX12_takes_328 rfl iX12 tyX12_ok nmX12 q1463 rfl (Nat.le_of_ble_eq_true rfl) rfl rfl rfl rfl rfl (Nat.le_of_ble_eq_true rfl) (by rw [ey23]; rfl) ?_
                refine wa_aload_n C 0 332 dX12_takes_331 rfl rfl ?_
                refine wa_aload_n C 0 333 dX12_takes_332 rfl rfl ?_
                refine wa_get C 336 0 0 13 dX12_takes_333 rfl iX12 q1462 rfl (Nat.le_of_ble_eq_true rfl) rfl rfl rfl ?_
                refine wa_aload_n C 0 337 dX12_takes_336 rfl rfl ?_
                refine wa_get C 340 0 0 15 dX12_takes_337 rfl iX12 q1464 rfl (Nat.le_of_ble_eq_true rfl) rfl rfl rfl ?_
                refine wa_isub C 341 dX12_takes_340 rfl ?_
                obtain ⟨y24, ey24, hf⟩ := bnd_ex hf
                refine wa_put (ws' := [wM dT a y24]) C 344 0 0 16 tyX12 dX12_takes_341 rfl iX12 tyX12_ok nmX12 q1465 rfl (Nat.le_of_ble_eq_true rfl) rfl rfl rfl rfl rfl (Nat.le_of_ble_eq_true rfl) (by rw [ey24]; rfl) ?_
                cases hf
                exact wa_vret C dX12_takes_344 rfl
              · replace hf := ite_f hf c22
                refine wa_iload_n C 1 294 dX12_takes_293 rfl rfl ?_
                refine wa_bipush (v := 45) C 296 dX12_takes_294 rfl rfl ?_
                refine wa_icmp_eq C 323 299 dX12_takes_296 rfl rfl (fun c25 => ?_) (fun c25 => ?_)
                · replace hf := ite_t hf c25
                  refine wa_iconst (v := 3) C 324 dX12_takes_323 rfl rfl ?_
                  refine wa_goto C 328 dX12_takes_324 rfl ?_
                  obtain ⟨y26, ey26, hf⟩ := bnd_ex hf
                  refine wa_put (ws' := [wM dT a y26]) C 331 0 0 14 tyX12 dX12_takes_328 rfl iX12 tyX12_ok nmX12 q1463 rfl (Nat.le_of_ble_eq_true rfl) rfl rfl rfl rfl rfl (Nat.le_of_ble_eq_true rfl) (by rw [ey26]; rfl) ?_
                  refine wa_aload_n C 0 332 dX12_takes_331 rfl rfl ?_
                  refine wa_aload_n C 0 333 dX12_takes_332 rfl rfl ?_
                  refine wa_get C 336 0 0 13 dX12_takes_333 rfl iX12 q1462 rfl (Nat.le_of_ble_eq_true rfl) rfl rfl rfl ?_
                  refine wa_aload_n C 0 337 dX12_takes_336 rfl rfl ?_
                  refine wa_get C 340 0 0 15 dX12_takes_337 rfl iX12 q1464 rfl (Nat.le_of_ble_eq_true rfl) rfl rfl rfl ?_
                  refine wa_isub C 341 dX12_takes_340 rfl ?_
                  obtain ⟨y27, ey27, hf⟩ := bnd_ex hf
                  refine wa_put (ws' := [wM dT a y27]) C 344 0 0 16 tyX12 dX12_takes_341 rfl iX12 tyX12_ok nmX12 q1465 rfl (Nat.le_of_ble_eq_true rfl) rfl rfl rfl rfl rfl (Nat.le_of_ble_eq_true rfl) (by rw [ey27]; rfl) ?_
                  cases hf
                  exact wa_vret C dX12_takes_344 rfl
                · replace hf := ite_f hf c25
                  refine wa_iload_n C 1 300 dX12_takes_299 rfl rfl ?_
                  refine wa_bipush (v := 42) C 302 dX12_takes_300 rfl rfl ?_
                  refine wa_icmp_eq C 323 305 dX12_takes_302 rfl rfl (fun c28 => ?_) (fun c28 => ?_)
                  · replace hf := ite_t hf c28
                    refine wa_iconst (v := 3) C 324 dX12_takes_323 rfl rfl ?_
                    refine wa_goto C 328 dX12_takes_324 rfl ?_
                    obtain ⟨y29, ey29, hf⟩ := bnd_ex hf
                    refine wa_put (ws' := [wM dT a y29]) C 331 0 0 14 tyX12 dX12_takes_328 rfl iX12 tyX12_ok nmX12 q1463 rfl (Nat.le_of_ble_eq_true rfl) rfl rfl rfl rfl rfl (Nat.le_of_ble_eq_true rfl) (by rw [ey29]; rfl) ?_
                    refine wa_aload_n C 0 332 dX12_takes_331 rfl rfl ?_
                    refine wa_aload_n C 0 333 dX12_takes_332 rfl rfl ?_
                    refine wa_get C 336 0 0 13 dX12_takes_333 rfl iX12 q1462 rfl (Nat.le_of_ble_eq_true rfl) rfl rfl rfl ?_
                    refine wa_aload_n C 0 337 dX12_takes_336 rfl rfl ?_
                    refine wa_get C 340 0 0 15 dX12_takes_337 rfl iX12 q1464 rfl (Nat.le_of_ble_eq_true rfl) rfl rfl rfl ?_
                    refine wa_isub C 341 dX12_takes_340 rfl ?_
                    obtain ⟨y30, ey30, hf⟩ := bnd_ex hf
                    refine wa_put (ws' := [wM dT a y30]) C 344 0 0 16 tyX12 dX12_takes_341 rfl iX12 tyX12_ok nmX12 q1465 rfl (Nat.le_of_ble_eq_true rfl) rfl rfl rfl rfl rfl (Nat.le_of_ble_eq_true rfl) (by rw [ey30]; rfl) ?_
                    cases hf
                    exact wa_vret C dX12_takes_344 rfl
                  · replace hf := ite_f hf c28
                    refine wa_iload_n C 1 306 dX12_takes_305 rfl rfl ?_
                    refine wa_bipush (v := 47) C 308 dX12_takes_306 rfl rfl ?_
                    refine wa_icmp_eq C 323 311 dX12_takes_308 rfl rfl (fun c31 => ?_) (fun c31 => ?_)
                    · replace hf := ite_t hf c31
                      refine wa_iconst (v := 3) C 324 dX12_takes_323 rfl rfl ?_
                      refine wa_goto C 328 dX12_takes_324 rfl ?_
                      obtain ⟨y32, ey32, hf⟩ := bnd_ex hf
                      refine wa_put (ws' := [wM dT a y32]) C 331 0 0 14 tyX12 dX12_takes_328 rfl iX12 tyX12_ok nmX12 q1463 rfl (Nat.le_of_ble_eq_true rfl) rfl rfl rfl rfl rfl (Nat.le_of_ble_eq_true rfl) (by rw [ey32]; rfl) ?_
                      refine wa_aload_n C 0 332 dX12_takes_331 rfl rfl ?_
                      refine wa_aload_n C 0 333 dX12_takes_332 rfl rfl ?_
                      refine wa_get C 336 0 0 13 dX12_takes_333 rfl iX12 q1462 rfl (Nat.le_of_ble_eq_true rfl) rfl rfl rfl ?_
                      refine wa_aload_n C 0 337 dX12_takes_336 rfl rfl ?_
                      refine wa_get C 340 0 0 15 dX12_takes_337 rfl iX12 q1464 rfl (Nat.le_of_ble_eq_true rfl) rfl rfl rfl ?_
                      refine wa_isub C 341 dX12_takes_340 rfl ?_
                      obtain ⟨y33, ey33, hf⟩ := bnd_ex hf
                      refine wa_put (ws' := [wM dT a y33]) C 344 0 0 16 tyX12 dX12_takes_341 rfl iX12 tyX12_ok nmX12 q1465 rfl (Nat.le_of_ble_eq_true rfl) rfl rfl rfl rfl rfl (Nat.le_of_ble_eq_true rfl) (by rw [ey33]; rfl) ?_
                      cases hf
                      exact wa_vret C dX12_takes_344 rfl
                    · replace hf := ite_f hf c31
                      refine wa_iload_n C 1 312 dX12_takes_311 rfl rfl ?_
                      refine wa_bipush (v := 60) C 314 dX12_takes_312 rfl rfl ?_
                      refine wa_icmp_eq C 323 317 dX12_takes_314 rfl rfl (fun c34 => ?_) (fun c34 => ?_)
                      · replace hf := ite_t hf c34
                        refine wa_iconst (v := 3) C 324 dX12_takes_323 rfl rfl ?_
                        refine wa_goto C 328 dX12_takes_324 rfl ?_
                        obtain ⟨y35, ey35, hf⟩ := bnd_ex hf
                        refine wa_put (ws' := [wM dT a y35]) C 331 0 0 14 tyX12 dX12_takes_328 rfl iX12 tyX12_ok nmX12 q1463 rfl (Nat.le_of_ble_eq_true rfl) rfl rfl rfl rfl rfl (Nat.le_of_ble_eq_true rfl) (by rw [ey35]; rfl) ?_
                        refine wa_aload_n C 0 332 dX12_takes_331 rfl rfl ?_
                        refine wa_aload_n C 0 333 dX12_takes_332 rfl rfl ?_
                        refine wa_get C 336 0 0 13 dX12_takes_333 rfl iX12 q1462 rfl (Nat.le_of_ble_eq_true rfl) rfl rfl rfl ?_
                        refine wa_aload_n C 0 337 dX12_takes_336 rfl rfl ?_
                        refine wa_get C 340 0 0 15 dX12_takes_337 rfl iX12 q1464 rfl (Nat.le_of_ble_eq_true rfl) rfl rfl rfl ?_
                        refine wa_isub C 341 dX12_takes_340 rfl ?_
                        obtain ⟨y36, ey36, hf⟩ := bnd_ex hf
                        refine wa_put (ws' := [wM dT a y36]) C 344 0 0 16 tyX12 dX12_takes_341 rfl iX12 tyX12_ok nmX12 q1465 rfl (Nat.le_of_ble_eq_true rfl) rfl rfl rfl rfl rfl (Nat.le_of_ble_eq_true rfl) (by rw [ey36]; rfl) ?_
                        cases hf
                        exact wa_vret C dX12_takes_344 rfl
                      · replace hf := ite_f hf c34
                        refine wa_iload_n C 1 318 dX12_takes_317 rfl rfl ?_
                        refine wa_bipush (v := 61) C 320 dX12_takes_318 rfl rfl ?_
                        refine wa_icmp_ne C 327 323 dX12_takes_320 rfl rfl (fun c37 => ?_) (fun c37 => ?_)
                        · replace hf := ite_f hf c37
                          refine wa_iconst (v := 4) C 328 dX12_takes_327 rfl rfl ?_
                          obtain ⟨y38, ey38, hf⟩ := bnd_ex hf
                          refine wa_put (ws' := [wM dT a y38]) C 331 0 0 14 tyX12 dX12_takes_328 rfl iX12 tyX12_ok nmX12 q1463 rfl (Nat.le_of_ble_eq_true rfl) rfl rfl rfl rfl rfl (Nat.le_of_ble_eq_true rfl) (by rw [ey38]; rfl) ?_
                          refine wa_aload_n C 0 332 dX12_takes_331 rfl rfl ?_
                          refine wa_aload_n C 0 333 dX12_takes_332 rfl rfl ?_
                          refine wa_get C 336 0 0 13 dX12_takes_333 rfl iX12 q1462 rfl (Nat.le_of_ble_eq_true rfl) rfl rfl rfl ?_
                          refine wa_aload_n C 0 337 dX12_takes_336 rfl rfl ?_
                          refine wa_get C 340 0 0 15 dX12_takes_337 rfl iX12 q1464 rfl (Nat.le_of_ble_eq_true rfl) rfl rfl rfl ?_
                          refine wa_isub C 341 dX12_takes_340 rfl ?_
                          obtain ⟨y39, ey39, hf⟩ := bnd_ex hf
                          refine wa_put (ws' := [wM dT a y39]) C 344 0 0 16 tyX12 dX12_takes_341 rfl iX12 tyX12_ok nmX12 q1465 rfl (Nat.le_of_ble_eq_true rfl) rfl rfl rfl rfl rfl (Nat.le_of_ble_eq_true rfl) (by rw [ey39]; rfl) ?_
                          cases hf
                          exact wa_vret C dX12_takes_344 rfl
                        · replace hf := ite_t hf c37
                          refine wa_iconst (v := 3) C 324 dX12_takes_323 rfl rfl ?_
                          refine wa_goto C 328 dX12_takes_324 rfl ?_
                          obtain ⟨y40, ey40, hf⟩ := bnd_ex hf
                          refine wa_put (ws' := [wM dT a y40]) C 331 0 0 14 tyX12 dX12_takes_328 rfl iX12 tyX12_ok nmX12 q1463 rfl (Nat.le_of_ble_eq_true rfl) rfl rfl rfl rfl rfl (Nat.le_of_ble_eq_true rfl) (by rw [ey40]; rfl) ?_
                          refine wa_aload_n C 0 332 dX12_takes_331 rfl rfl ?_
                          refine wa_aload_n C 0 333 dX12_takes_332 rfl rfl ?_
                          refine wa_get C 336 0 0 13 dX12_takes_333 rfl iX12 q1462 rfl (Nat.le_of_ble_eq_true rfl) rfl rfl rfl ?_
                          refine wa_aload_n C 0 337 dX12_takes_336 rfl rfl ?_
                          refine wa_get C 340 0 0 15 dX12_takes_337 rfl iX12 q1464 rfl (Nat.le_of_ble_eq_true rfl) rfl rfl rfl ?_
                          refine wa_isub C 341 dX12_takes_340 rfl ?_
                          obtain ⟨y41, ey41, hf⟩ := bnd_ex hf
                          refine wa_put (ws' := [wM dT a y41]) C 344 0 0 16 tyX12 dX12_takes_341 rfl iX12 tyX12_ok nmX12 q1465 rfl (Nat.le_of_ble_eq_true rfl) rfl rfl rfl rfl rfl (Nat.le_of_ble_eq_true rfl) (by rw [ey41]; rfl) ?_
                          cases hf
                          exact wa_vret C dX12_takes_344 rfl
      · replace hf := ite_f hf c11
        refine wa_lv (lv' := [(0, .ref (a 0))]) [0] rfl ?_
        exact w_X12_takes_L187 C FUEL y6 hf
    · replace hf := ite_f hf c9
      refine wa_lv (lv' := [(0, .ref (a 0))]) [0] rfl ?_
      exact w_X12_takes_L108 C FUEL y6 hf
  · replace hf := ite_f hf c7
    refine wa_aload_n C 0 94 dX12_takes_93 rfl rfl ?_
    refine wa_iconst (v := 0) C 95 dX12_takes_94 rfl rfl ?_
    obtain ⟨y62, ey62, hf⟩ := bnd_ex hf
    refine wa_put (ws' := [wM dT a y62]) C 98 0 0 14 tyX12 dX12_takes_95 rfl iX12 tyX12_ok nmX12 q1463 rfl (Nat.le_of_ble_eq_true rfl) rfl rfl rfl rfl rfl (Nat.le_of_ble_eq_true rfl) (by rw [ey62]; rfl) ?_
    refine wa_goto C 331 dX12_takes_98 rfl ?_
    refine wa_aload_n C 0 332 dX12_takes_331 rfl rfl ?_
    refine wa_aload_n C 0 333 dX12_takes_332 rfl rfl ?_
    refine wa_get C 336 0 0 13 dX12_takes_333 rfl iX12 q1462 rfl (Nat.le_of_ble_eq_true rfl) rfl rfl rfl ?_
    refine wa_aload_n C 0 337 dX12_takes_336 rfl rfl ?_
    refine wa_get C 340 0 0 15 dX12_takes_337 rfl iX12 q1464 rfl (Nat.le_of_ble_eq_true rfl) rfl rfl rfl ?_
    refine wa_isub C 341 dX12_takes_340 rfl ?_
    obtain ⟨y63, ey63, hf⟩ := bnd_ex hf
    refine wa_put (ws' := [wM dT a y63]) C 344 0 0 16 tyX12 dX12_takes_341 rfl iX12 tyX12_ok nmX12 q1465 rfl (Nat.le_of_ble_eq_true rfl) rfl rfl rfl rfl rfl (Nat.le_of_ble_eq_true rfl) (by rw [ey63]; rfl) ?_
    cases hf
    exact wa_vret C dX12_takes_344 rfl
set_option maxRecDepth 20000 in
theorem w_X12_takes_L0 {p : Program} {l : Launch} {e : Env} {s : State} {m : MethodId} {args : Array Value} {below : List Frame} {meth : Method} {c : Code} {D : va_G} {A : Nat → Prop} {dT : Nat → ClassId} {a : Nat → Nat} {res : MS} (C : Cx p s m args meth c cX12_takes 2 RX12 none D A dT) : ∀ (n : Nat) (z0 : MS), f_X12_takes_L0 n z0 = some res → WA p l e ({ frames := 1, cells := 0, slots := 0, locals := 21 } : Room) s m args below meth c (MQ below (QV D dT A ([wM dT a res])) args s 0 0 A) D A 0 0 2 0 ([wM dT a z0]) [(0, .ref (a 0))] [] := by
  intro n
  induction n with
  | zero => intro z0 hf; cases hf
  | succ n ih =>
    intro z0 hf
    unfold f_X12_takes_L0 at hf
    refine wa_aload_n C 0 1 dX12_takes_0 rfl rfl ?_
    refine wa_get C 4 0 0 13 dX12_takes_1 rfl iX12 q1462 rfl (Nat.le_of_ble_eq_true rfl) rfl rfl rfl ?_
    refine wa_aload_n C 0 5 dX12_takes_4 rfl rfl ?_
    refine wa_get C 8 0 0 12 dX12_takes_5 rfl iX12 q1461 rfl (Nat.le_of_ble_eq_true rfl) rfl rfl rfl ?_
    refine wa_icmp_ge C 50 11 dX12_takes_8 rfl rfl (fun c1 => ?_) (fun c1 => ?_)
    · replace hf := ite_t hf c1
      exact w_X12_takes_J50 C z0 hf
    · replace hf := ite_f hf c1
      refine wa_aload_n C 0 12 dX12_takes_11 rfl rfl ?_
      refine wa_aload_n C 0 13 dX12_takes_12 rfl rfl ?_
      refine wa_get C 16 0 0 13 dX12_takes_13 rfl iX12 q1462 rfl (Nat.le_of_ble_eq_true rfl) rfl rfl rfl ?_
      obtain ⟨q64, hq64, hf⟩ := bind_ex hf
      refine wa_callVAi (b1 := 0) (q1 := 0) (ci := 12) (As := [.int (z0.1 13)]) C 19 dX12_takes_16 rfl kv_X12_112 (c_X12_byteAt hq64) ⟨rfl, rfl⟩ ⟨Nat.le_of_ble_eq_true rfl, Nat.le_of_ble_eq_true rfl⟩ rfl rfl rfl rfl rfl ⟨Nat.zero_le _, Nat.zero_le _⟩ (Nat.le_of_ble_eq_true rfl) ?_
      refine wa_bipush (v := 32) C 21 dX12_takes_19 rfl rfl ?_
      refine wa_icmp_eq C 37 24 dX12_takes_21 rfl rfl (fun c65 => ?_) (fun c65 => ?_)
      · replace hf := ite_t hf c65
        refine wa_aload_n C 0 38 dX12_takes_37 rfl rfl ?_
        refine wa_dup C 39 dX12_takes_38 rfl rfl ?_
        refine wa_get C 42 0 0 13 dX12_takes_39 rfl iX12 q1462 rfl (Nat.le_of_ble_eq_true rfl) rfl rfl rfl ?_
        refine wa_iconst (v := 1) C 43 dX12_takes_42 rfl rfl ?_
        refine wa_iadd C 44 dX12_takes_43 rfl ?_
        obtain ⟨y66, ey66, hf⟩ := bnd_ex hf
        refine wa_put (ws' := [wM dT a y66]) C 47 0 0 13 tyX12 dX12_takes_44 rfl iX12 tyX12_ok nmX12 q1462 rfl (Nat.le_of_ble_eq_true rfl) rfl rfl rfl rfl rfl (Nat.le_of_ble_eq_true rfl) (by rw [ey66]; rfl) ?_
        refine wa_goto C 0 dX12_takes_47 rfl ?_
        exact ih y66 hf
      · replace hf := ite_f hf c65
        refine wa_aload_n C 0 25 dX12_takes_24 rfl rfl ?_
        refine wa_aload_n C 0 26 dX12_takes_25 rfl rfl ?_
        refine wa_get C 29 0 0 13 dX12_takes_26 rfl iX12 q1462 rfl (Nat.le_of_ble_eq_true rfl) rfl rfl rfl ?_
        obtain ⟨q67, hq67, hf⟩ := bind_ex hf
        refine wa_callVAi (b1 := 0) (q1 := 0) (ci := 12) (As := [.int (z0.1 13)]) C 32 dX12_takes_29 rfl kv_X12_112 (c_X12_byteAt hq67) ⟨rfl, rfl⟩ ⟨Nat.le_of_ble_eq_true rfl, Nat.le_of_ble_eq_true rfl⟩ rfl rfl rfl rfl rfl ⟨Nat.zero_le _, Nat.zero_le _⟩ (Nat.le_of_ble_eq_true rfl) ?_
        refine wa_bipush (v := 10) C 34 dX12_takes_32 rfl rfl ?_
        refine wa_icmp_ne C 50 37 dX12_takes_34 rfl rfl (fun c68 => ?_) (fun c68 => ?_)
        · replace hf := ite_f hf c68
          exact w_X12_takes_J50 C z0 hf
        · replace hf := ite_t hf c68
          refine wa_aload_n C 0 38 dX12_takes_37 rfl rfl ?_
          refine wa_dup C 39 dX12_takes_38 rfl rfl ?_
          refine wa_get C 42 0 0 13 dX12_takes_39 rfl iX12 q1462 rfl (Nat.le_of_ble_eq_true rfl) rfl rfl rfl ?_
          refine wa_iconst (v := 1) C 43 dX12_takes_42 rfl rfl ?_
          refine wa_iadd C 44 dX12_takes_43 rfl ?_
          obtain ⟨y69, ey69, hf⟩ := bnd_ex hf
          refine wa_put (ws' := [wM dT a y69]) C 47 0 0 13 tyX12 dX12_takes_44 rfl iX12 tyX12_ok nmX12 q1462 rfl (Nat.le_of_ble_eq_true rfl) rfl rfl rfl rfl rfl (Nat.le_of_ble_eq_true rfl) (by rw [ey69]; rfl) ?_
          refine wa_goto C 0 dX12_takes_47 rfl ?_
          exact ih y69 hf
set_option maxRecDepth 20000 in
theorem c_X12_takes {l : Launch} {D : va_G} {dT : Nat → ClassId} {a : Nat → Nat} {v : MS} {res : MS} (hf : f_X12_takes v = some res) : CTv l yX12_takes cX12_takes 2 none ({ frames := 1, cells := 0, slots := 0, locals := 21 } : Room) D dT [.ref (a 0)] ([wM dT a v]) ([wM dT a res]) := by
  refine CTv.of (by decide) (Nat.le_of_ble_eq_true rfl) rfl ?_
  intro p e s m args below meth c A C
  unfold f_X12_takes at hf
  exact w_X12_takes_L0 C FUEL v hf
def f_X12_spelled_J84 (l6 : Int32) (l7 : Int64) : Option (Int64) := (if l6 = 0 then some (l7) else bnd ((l7 <<< ((5 : Int32).toInt64 &&& 63)) ||| (l6 - (96 : Int32)).toInt64) (fun x7 => some (x7)))
def f_X12_spelled_J66 (l5 : Int32) (l6 : Int32) (l7 : Int64) : Option (Int64) := (if l5 = 0 then f_X12_spelled_J84 l6 l7 else bnd ((l7 <<< ((5 : Int32).toInt64 &&& 63)) ||| (l5 - (96 : Int32)).toInt64) (fun x8 => f_X12_spelled_J84 l6 x8))
def f_X12_spelled_J48 (l4 : Int32) (l5 : Int32) (l6 : Int32) (l7 : Int64) : Option (Int64) := (if l4 = 0 then f_X12_spelled_J66 l5 l6 l7 else bnd ((l7 <<< ((5 : Int32).toInt64 &&& 63)) ||| (l4 - (96 : Int32)).toInt64) (fun x9 => f_X12_spelled_J66 l5 l6 x9))
def f_X12_spelled_J32 (l3 : Int32) (l4 : Int32) (l5 : Int32) (l6 : Int32) (l7 : Int64) : Option (Int64) := (if l3 = 0 then f_X12_spelled_J48 l4 l5 l6 l7 else bnd ((l7 <<< ((5 : Int32).toInt64 &&& 63)) ||| (l3 - (96 : Int32)).toInt64) (fun x10 => f_X12_spelled_J48 l4 l5 l6 x10))
def f_X12_spelled (p0 : Int32) (p1 : Int32) (p2 : Int32) (p3 : Int32) (p4 : Int32) (p5 : Int32) (p6 : Int32) : Option (Int64) := bnd (((p0.toInt64 - (96 : Int64)) <<< ((5 : Int32).toInt64 &&& 63)) ||| (p1 - (96 : Int32)).toInt64) (fun x1 => (if p2 = 0 then f_X12_spelled_J32 p3 p4 p5 p6 x1 else bnd ((x1 <<< ((5 : Int32).toInt64 &&& 63)) ||| (p2 - (96 : Int32)).toInt64) (fun x11 => f_X12_spelled_J32 p3 p4 p5 p6 x11)))
set_option maxRecDepth 20000 in
theorem w_X12_spelled_J84 {p : Program} {l : Launch} {e : Env} {s : State} {m : MethodId} {args : Array Value} {below : List Frame} {meth : Method} {c : Code} {D : va_G} {A : Nat → Prop} {dT : Nat → ClassId} {res : Int64} (C : Cx p s m args meth c cX12_spelled 9 RX12 (some .long) D A dT) : ∀ (l6 : Int32) (l7 : Int64), f_X12_spelled_J84 l6 l7 = some res → WA p l e ({ frames := 0, cells := 0, slots := 0, locals := 0 } : Room) s m args below meth c (MQ below (QL D dT A ([]) res) args s 0 0 A) D A 0 0 9 84 ([]) [(6, .int l6), (7, .long l7)] [] := by
  intro l6 l7 hf
  unfold f_X12_spelled_J84 at hf
  refine wa_iload C 0 86 dX12_spelled_84 rfl rfl ?_
  refine wa_if_eq C 102 89 dX12_spelled_86 rfl rfl (fun c6 => ?_) (fun c6 => ?_)
  · replace hf := ite_t hf c6
    refine wa_lload C 1 104 dX12_spelled_102 rfl rfl ?_
    cases hf
    exact wa_lret C dX12_spelled_104 rfl rfl
  · replace hf := ite_f hf c6
    refine wa_lload C 1 91 dX12_spelled_89 rfl rfl ?_
    refine wa_iconst (v := 5) C 92 dX12_spelled_91 rfl rfl ?_
    refine wa_lshl C 93 dX12_spelled_92 rfl ?_
    refine wa_iload C 0 95 dX12_spelled_93 rfl rfl ?_
    refine wa_bipush (v := 96) C 97 dX12_spelled_95 rfl rfl ?_
    refine wa_isub C 98 dX12_spelled_97 rfl ?_
    refine wa_i2l C 99 dX12_spelled_98 rfl ?_
    refine wa_lor C 100 dX12_spelled_99 rfl ?_
    obtain ⟨x7, ex7, hf⟩ := bnd_ex hf
    refine wa_topl ex7 ?_
    refine wa_lstore (lv' := [(6, .int l6), (7, .long x7)]) C [1, 0] 102 dX12_spelled_100 rfl (Nat.le_of_ble_eq_true rfl) rfl ?_
    refine wa_lload C 1 104 dX12_spelled_102 rfl rfl ?_
    cases hf
    exact wa_lret C dX12_spelled_104 rfl rfl
set_option maxRecDepth 20000 in
theorem w_X12_spelled_J66 {p : Program} {l : Launch} {e : Env} {s : State} {m : MethodId} {args : Array Value} {below : List Frame} {meth : Method} {c : Code} {D : va_G} {A : Nat → Prop} {dT : Nat → ClassId} {res : Int64} (C : Cx p s m args meth c cX12_spelled 9 RX12 (some .long) D A dT) : ∀ (l5 : Int32) (l6 : Int32) (l7 : Int64), f_X12_spelled_J66 l5 l6 l7 = some res → WA p l e ({ frames := 0, cells := 0, slots := 0, locals := 0 } : Room) s m args below meth c (MQ below (QL D dT A ([]) res) args s 0 0 A) D A 0 0 9 66 ([]) [(5, .int l5), (6, .int l6), (7, .long l7)] [] := by
  intro l5 l6 l7 hf
  unfold f_X12_spelled_J66 at hf
  refine wa_iload C 0 68 dX12_spelled_66 rfl rfl ?_
  refine wa_if_eq C 84 71 dX12_spelled_68 rfl rfl (fun c5 => ?_) (fun c5 => ?_)
  · replace hf := ite_t hf c5
    refine wa_lv (lv' := [(6, .int l6), (7, .long l7)]) [1, 2] rfl ?_
    exact w_X12_spelled_J84 C l6 l7 hf
  · replace hf := ite_f hf c5
    refine wa_lload C 2 73 dX12_spelled_71 rfl rfl ?_
    refine wa_iconst (v := 5) C 74 dX12_spelled_73 rfl rfl ?_
    refine wa_lshl C 75 dX12_spelled_74 rfl ?_
    refine wa_iload C 0 77 dX12_spelled_75 rfl rfl ?_
    refine wa_bipush (v := 96) C 79 dX12_spelled_77 rfl rfl ?_
    refine wa_isub C 80 dX12_spelled_79 rfl ?_
    refine wa_i2l C 81 dX12_spelled_80 rfl ?_
    refine wa_lor C 82 dX12_spelled_81 rfl ?_
    obtain ⟨x8, ex8, hf⟩ := bnd_ex hf
    refine wa_topl ex8 ?_
    refine wa_lstore (lv' := [(5, .int l5), (6, .int l6), (7, .long x8)]) C [1, 2, 0] 84 dX12_spelled_82 rfl (Nat.le_of_ble_eq_true rfl) rfl ?_
    refine wa_lv (lv' := [(6, .int l6), (7, .long x8)]) [1, 2] rfl ?_
    exact w_X12_spelled_J84 C l6 x8 hf
set_option maxRecDepth 20000 in
theorem w_X12_spelled_J48 {p : Program} {l : Launch} {e : Env} {s : State} {m : MethodId} {args : Array Value} {below : List Frame} {meth : Method} {c : Code} {D : va_G} {A : Nat → Prop} {dT : Nat → ClassId} {res : Int64} (C : Cx p s m args meth c cX12_spelled 9 RX12 (some .long) D A dT) : ∀ (l4 : Int32) (l5 : Int32) (l6 : Int32) (l7 : Int64), f_X12_spelled_J48 l4 l5 l6 l7 = some res → WA p l e ({ frames := 0, cells := 0, slots := 0, locals := 0 } : Room) s m args below meth c (MQ below (QL D dT A ([]) res) args s 0 0 A) D A 0 0 9 48 ([]) [(4, .int l4), (5, .int l5), (6, .int l6), (7, .long l7)] [] := by
  intro l4 l5 l6 l7 hf
  unfold f_X12_spelled_J48 at hf
  refine wa_iload C 0 50 dX12_spelled_48 rfl rfl ?_
  refine wa_if_eq C 66 53 dX12_spelled_50 rfl rfl (fun c4 => ?_) (fun c4 => ?_)
  · replace hf := ite_t hf c4
    refine wa_lv (lv' := [(5, .int l5), (6, .int l6), (7, .long l7)]) [1, 2, 3] rfl ?_
    exact w_X12_spelled_J66 C l5 l6 l7 hf
  · replace hf := ite_f hf c4
    refine wa_lload C 3 55 dX12_spelled_53 rfl rfl ?_
    refine wa_iconst (v := 5) C 56 dX12_spelled_55 rfl rfl ?_
    refine wa_lshl C 57 dX12_spelled_56 rfl ?_
    refine wa_iload C 0 59 dX12_spelled_57 rfl rfl ?_
    refine wa_bipush (v := 96) C 61 dX12_spelled_59 rfl rfl ?_
    refine wa_isub C 62 dX12_spelled_61 rfl ?_
    refine wa_i2l C 63 dX12_spelled_62 rfl ?_
    refine wa_lor C 64 dX12_spelled_63 rfl ?_
    obtain ⟨x9, ex9, hf⟩ := bnd_ex hf
    refine wa_topl ex9 ?_
    refine wa_lstore (lv' := [(4, .int l4), (5, .int l5), (6, .int l6), (7, .long x9)]) C [1, 2, 3, 0] 66 dX12_spelled_64 rfl (Nat.le_of_ble_eq_true rfl) rfl ?_
    refine wa_lv (lv' := [(5, .int l5), (6, .int l6), (7, .long x9)]) [1, 2, 3] rfl ?_
    exact w_X12_spelled_J66 C l5 l6 x9 hf
set_option maxRecDepth 20000 in
theorem w_X12_spelled_J32 {p : Program} {l : Launch} {e : Env} {s : State} {m : MethodId} {args : Array Value} {below : List Frame} {meth : Method} {c : Code} {D : va_G} {A : Nat → Prop} {dT : Nat → ClassId} {res : Int64} (C : Cx p s m args meth c cX12_spelled 9 RX12 (some .long) D A dT) : ∀ (l3 : Int32) (l4 : Int32) (l5 : Int32) (l6 : Int32) (l7 : Int64), f_X12_spelled_J32 l3 l4 l5 l6 l7 = some res → WA p l e ({ frames := 0, cells := 0, slots := 0, locals := 0 } : Room) s m args below meth c (MQ below (QL D dT A ([]) res) args s 0 0 A) D A 0 0 9 32 ([]) [(3, .int l3), (4, .int l4), (5, .int l5), (6, .int l6), (7, .long l7)] [] := by
  intro l3 l4 l5 l6 l7 hf
  unfold f_X12_spelled_J32 at hf
  refine wa_iload_n C 0 33 dX12_spelled_32 rfl rfl ?_
  refine wa_if_eq C 48 36 dX12_spelled_33 rfl rfl (fun c3 => ?_) (fun c3 => ?_)
  · replace hf := ite_t hf c3
    refine wa_lv (lv' := [(4, .int l4), (5, .int l5), (6, .int l6), (7, .long l7)]) [1, 2, 3, 4] rfl ?_
    exact w_X12_spelled_J48 C l4 l5 l6 l7 hf
  · replace hf := ite_f hf c3
    refine wa_lload C 4 38 dX12_spelled_36 rfl rfl ?_
    refine wa_iconst (v := 5) C 39 dX12_spelled_38 rfl rfl ?_
    refine wa_lshl C 40 dX12_spelled_39 rfl ?_
    refine wa_iload_n C 0 41 dX12_spelled_40 rfl rfl ?_
    refine wa_bipush (v := 96) C 43 dX12_spelled_41 rfl rfl ?_
    refine wa_isub C 44 dX12_spelled_43 rfl ?_
    refine wa_i2l C 45 dX12_spelled_44 rfl ?_
    refine wa_lor C 46 dX12_spelled_45 rfl ?_
    obtain ⟨x10, ex10, hf⟩ := bnd_ex hf
    refine wa_topl ex10 ?_
    refine wa_lstore (lv' := [(3, .int l3), (4, .int l4), (5, .int l5), (6, .int l6), (7, .long x10)]) C [1, 2, 3, 4, 0] 48 dX12_spelled_46 rfl (Nat.le_of_ble_eq_true rfl) rfl ?_
    refine wa_lv (lv' := [(4, .int l4), (5, .int l5), (6, .int l6), (7, .long x10)]) [1, 2, 3, 4] rfl ?_
    exact w_X12_spelled_J48 C l4 l5 l6 x10 hf
set_option maxRecDepth 20000 in
theorem c_X12_spelled {l : Launch} {D : va_G} {dT : Nat → ClassId} {p0 : Int32} {p1 : Int32} {p2 : Int32} {p3 : Int32} {p4 : Int32} {p5 : Int32} {p6 : Int32} {res : Int64} (hf : f_X12_spelled p0 p1 p2 p3 p4 p5 p6 = some res) : CTl l yX12_spelled cX12_spelled 9 (some .long) ({ frames := 0, cells := 0, slots := 0, locals := 0 } : Room) D dT [.int p0, .int p1, .int p2, .int p3, .int p4, .int p5, .int p6] ([]) ([]) res := by
  refine CTl.of (by decide) (Nat.le_of_ble_eq_true rfl) rfl ?_
  intro p e s m args below meth c A C
  unfold f_X12_spelled at hf
  refine wa_iload_n C 0 1 dX12_spelled_0 rfl rfl ?_
  refine wa_i2l C 2 dX12_spelled_1 rfl ?_
  refine wa_ldc2 (v := 96) C 5 dX12_spelled_2 rfl q1680 ?_
  refine wa_lsub C 6 dX12_spelled_5 rfl ?_
  refine wa_iconst (v := 5) C 7 dX12_spelled_6 rfl rfl ?_
  refine wa_lshl C 8 dX12_spelled_7 rfl ?_
  refine wa_iload_n C 1 9 dX12_spelled_8 rfl rfl ?_
  refine wa_bipush (v := 96) C 11 dX12_spelled_9 rfl rfl ?_
  refine wa_isub C 12 dX12_spelled_11 rfl ?_
  refine wa_i2l C 13 dX12_spelled_12 rfl ?_
  refine wa_lor C 14 dX12_spelled_13 rfl ?_
  obtain ⟨x1, ex1, hf⟩ := bnd_ex hf
  refine wa_topl ex1 ?_
  refine wa_lstore (lv' := [(0, .int p0), (1, .int p1), (2, .int p2), (3, .int p3), (4, .int p4), (5, .int p5), (6, .int p6), (7, .long x1)]) C [1, 2, 3, 4, 5, 6, 7, 0] 16 dX12_spelled_14 rfl (Nat.le_of_ble_eq_true rfl) rfl ?_
  refine wa_iload_n C 2 17 dX12_spelled_16 rfl rfl ?_
  refine wa_if_eq C 32 20 dX12_spelled_17 rfl rfl (fun c2 => ?_) (fun c2 => ?_)
  · replace hf := ite_t hf c2
    refine wa_lv (lv' := [(3, .int p3), (4, .int p4), (5, .int p5), (6, .int p6), (7, .long x1)]) [3, 4, 5, 6, 7] rfl ?_
    exact w_X12_spelled_J32 C p3 p4 p5 p6 x1 hf
  · replace hf := ite_f hf c2
    refine wa_lload C 7 22 dX12_spelled_20 rfl rfl ?_
    refine wa_iconst (v := 5) C 23 dX12_spelled_22 rfl rfl ?_
    refine wa_lshl C 24 dX12_spelled_23 rfl ?_
    refine wa_iload_n C 2 25 dX12_spelled_24 rfl rfl ?_
    refine wa_bipush (v := 96) C 27 dX12_spelled_25 rfl rfl ?_
    refine wa_isub C 28 dX12_spelled_27 rfl ?_
    refine wa_i2l C 29 dX12_spelled_28 rfl ?_
    refine wa_lor C 30 dX12_spelled_29 rfl ?_
    obtain ⟨x11, ex11, hf⟩ := bnd_ex hf
    refine wa_topl ex11 ?_
    refine wa_lstore (lv' := [(0, .int p0), (1, .int p1), (2, .int p2), (3, .int p3), (4, .int p4), (5, .int p5), (6, .int p6), (7, .long x11)]) C [1, 2, 3, 4, 5, 6, 7, 0] 32 dX12_spelled_30 rfl (Nat.le_of_ble_eq_true rfl) rfl ?_
    refine wa_lv (lv' := [(3, .int p3), (4, .int p4), (5, .int p5), (6, .int p6), (7, .long x11)]) [3, 4, 5, 6, 7] rfl ?_
    exact w_X12_spelled_J32 C p3 p4 p5 p6 x11 hf
theorem ks_X12_144 : KS RX12 144 yX12_spelled cX12_spelled 9 (some .long) 7 := KS.mk q1677 q1678 q13 q1679 ⟨by decide, by decide, by decide +kernel⟩
def f_X12_letters (p0 : Int32) : Option (Int64) := (if p0 = 0 then (f_X12_spelled (114 : Int32) (97 : Int32) (110 : Int32) (107 : Int32) (0 : Int32) (0 : Int32) (0 : Int32)).bind (fun q2 => some (q2)) else (if p0 = 1 then (f_X12_spelled (112 : Int32) (108 : Int32) (97 : Int32) (99 : Int32) (101 : Int32) (0 : Int32) (0 : Int32)).bind (fun q4 => some (q4)) else (if p0 = 2 then (f_X12_spelled (115 : Int32) (105 : Int32) (110 : Int32) (99 : Int32) (101 : Int32) (0 : Int32) (0 : Int32)).bind (fun q6 => some (q6)) else (if p0 = 3 then (f_X12_spelled (109 : Int32) (111 : Int32) (118 : Int32) (101 : Int32) (115 : Int32) (0 : Int32) (0 : Int32)).bind (fun q8 => some (q8)) else (if p0 = 4 then (f_X12_spelled (115 : Int32) (105 : Int32) (122 : Int32) (101 : Int32) (0 : Int32) (0 : Int32) (0 : Int32)).bind (fun q10 => some (q10)) else (if p0 = 5 then (f_X12_spelled (101 : Int32) (118 : Int32) (101 : Int32) (110 : Int32) (105 : Int32) (110 : Int32) (103 : Int32)).bind (fun q12 => some (q12)) else (if p0 = 6 then (f_X12_spelled (104 : Int32) (111 : Int32) (117 : Int32) (115 : Int32) (101 : Int32) (0 : Int32) (0 : Int32)).bind (fun q14 => some (q14)) else (if p0 = 7 then (f_X12_spelled (114 : Int32) (97 : Int32) (110 : Int32) (107 : Int32) (115 : Int32) (0 : Int32) (0 : Int32)).bind (fun q16 => some (q16)) else (if p0 = 8 then (f_X12_spelled (111 : Int32) (108 : Int32) (100 : Int32) (0 : Int32) (0 : Int32) (0 : Int32) (0 : Int32)).bind (fun q18 => some (q18)) else (if p0 = 9 then (f_X12_spelled (112 : Int32) (101 : Int32) (114 : Int32) (115 : Int32) (111 : Int32) (110 : Int32) (0 : Int32)).bind (fun q20 => some (q20)) else (if p0 = 10 then (f_X12_spelled (102 : Int32) (114 : Int32) (105 : Int32) (101 : Int32) (110 : Int32) (100 : Int32) (115 : Int32)).bind (fun q22 => some (q22)) else (if p0 = 11 then (f_X12_spelled (112 : Int32) (105 : Int32) (99 : Int32) (107 : Int32) (115 : Int32) (0 : Int32) (0 : Int32)).bind (fun q24 => some (q24)) else (if p0 = 12 then (f_X12_spelled (107 : Int32) (101 : Int32) (101 : Int32) (112 : Int32) (115 : Int32) (0 : Int32) (0 : Int32)).bind (fun q26 => some (q26)) else (if p0 = 13 then (f_X12_spelled (97 : Int32) (110 : Int32) (100 : Int32) (0 : Int32) (0 : Int32) (0 : Int32) (0 : Int32)).bind (fun q28 => some (q28)) else (if p0 = 14 then (f_X12_spelled (111 : Int32) (114 : Int32) (0 : Int32) (0 : Int32) (0 : Int32) (0 : Int32) (0 : Int32)).bind (fun q30 => some (q30)) else (f_X12_spelled (110 : Int32) (111 : Int32) (116 : Int32) (0 : Int32) (0 : Int32) (0 : Int32) (0 : Int32)).bind (fun q31 => some (q31)))))))))))))))))
set_option maxRecDepth 20000 in
theorem c_X12_letters {l : Launch} {D : va_G} {dT : Nat → ClassId} {p0 : Int32} {res : Int64} (hf : f_X12_letters p0 = some res) : CTl l yX12_letters cX12_letters 1 (some .long) ({ frames := 1, cells := 0, slots := 0, locals := 28 } : Room) D dT [.int p0] ([]) ([]) res := by
  refine CTl.of (by decide) (Nat.le_of_ble_eq_true rfl) rfl ?_
  intro p e s m args below meth c A C
  unfold f_X12_letters at hf
  refine wa_iload_n C 0 1 dX12_letters_0 rfl rfl ?_
  by_cases c1 : p0 = 0
  · replace hf := ite_t hf c1
    refine wa_ts C 0 (75) 76 dX12_letters_1 c1 (by decide) (by decide) rfl rfl ?_
    refine wa_bipush (v := 114) C 78 dX12_letters_76 rfl rfl ?_
    refine wa_bipush (v := 97) C 80 dX12_letters_78 rfl rfl ?_
    refine wa_bipush (v := 110) C 82 dX12_letters_80 rfl rfl ?_
    refine wa_bipush (v := 107) C 84 dX12_letters_82 rfl rfl ?_
    refine wa_iconst (v := 0) C 85 dX12_letters_84 rfl rfl ?_
    refine wa_iconst (v := 0) C 86 dX12_letters_85 rfl rfl ?_
    refine wa_iconst (v := 0) C 87 dX12_letters_86 rfl rfl ?_
    obtain ⟨q2, hq2, hf⟩ := bind_ex hf
    refine wa_callS0l (As := [.int (114 : Int32), .int (97 : Int32), .int (110 : Int32), .int (107 : Int32), .int (0 : Int32), .int (0 : Int32), .int (0 : Int32)]) C 90 dX12_letters_87 rfl ks_X12_144 (c_X12_spelled hq2) ⟨rfl, rfl⟩ ⟨Nat.le_of_ble_eq_true rfl, Nat.le_of_ble_eq_true rfl⟩ rfl rfl ⟨Nat.zero_le _, Nat.zero_le _⟩ (Nat.le_of_ble_eq_true rfl) ?_
    cases hf
    exact wa_lret C dX12_letters_90 rfl rfl
  · replace hf := ite_f hf c1
    by_cases c3 : p0 = 1
    · replace hf := ite_t hf c3
      refine wa_ts C 1 (90) 91 dX12_letters_1 c3 (by decide) (by decide) rfl rfl ?_
      refine wa_bipush (v := 112) C 93 dX12_letters_91 rfl rfl ?_
      refine wa_bipush (v := 108) C 95 dX12_letters_93 rfl rfl ?_
      refine wa_bipush (v := 97) C 97 dX12_letters_95 rfl rfl ?_
      refine wa_bipush (v := 99) C 99 dX12_letters_97 rfl rfl ?_
      refine wa_bipush (v := 101) C 101 dX12_letters_99 rfl rfl ?_
      refine wa_iconst (v := 0) C 102 dX12_letters_101 rfl rfl ?_
      refine wa_iconst (v := 0) C 103 dX12_letters_102 rfl rfl ?_
      obtain ⟨q4, hq4, hf⟩ := bind_ex hf
      refine wa_callS0l (As := [.int (112 : Int32), .int (108 : Int32), .int (97 : Int32), .int (99 : Int32), .int (101 : Int32), .int (0 : Int32), .int (0 : Int32)]) C 106 dX12_letters_103 rfl ks_X12_144 (c_X12_spelled hq4) ⟨rfl, rfl⟩ ⟨Nat.le_of_ble_eq_true rfl, Nat.le_of_ble_eq_true rfl⟩ rfl rfl ⟨Nat.zero_le _, Nat.zero_le _⟩ (Nat.le_of_ble_eq_true rfl) ?_
      cases hf
      exact wa_lret C dX12_letters_106 rfl rfl
    · replace hf := ite_f hf c3
      by_cases c5 : p0 = 2
      · replace hf := ite_t hf c5
        refine wa_ts C 2 (106) 107 dX12_letters_1 c5 (by decide) (by decide) rfl rfl ?_
        refine wa_bipush (v := 115) C 109 dX12_letters_107 rfl rfl ?_
        refine wa_bipush (v := 105) C 111 dX12_letters_109 rfl rfl ?_
        refine wa_bipush (v := 110) C 113 dX12_letters_111 rfl rfl ?_
        refine wa_bipush (v := 99) C 115 dX12_letters_113 rfl rfl ?_
        refine wa_bipush (v := 101) C 117 dX12_letters_115 rfl rfl ?_
        refine wa_iconst (v := 0) C 118 dX12_letters_117 rfl rfl ?_
        refine wa_iconst (v := 0) C 119 dX12_letters_118 rfl rfl ?_
        obtain ⟨q6, hq6, hf⟩ := bind_ex hf
        refine wa_callS0l (As := [.int (115 : Int32), .int (105 : Int32), .int (110 : Int32), .int (99 : Int32), .int (101 : Int32), .int (0 : Int32), .int (0 : Int32)]) C 122 dX12_letters_119 rfl ks_X12_144 (c_X12_spelled hq6) ⟨rfl, rfl⟩ ⟨Nat.le_of_ble_eq_true rfl, Nat.le_of_ble_eq_true rfl⟩ rfl rfl ⟨Nat.zero_le _, Nat.zero_le _⟩ (Nat.le_of_ble_eq_true rfl) ?_
        cases hf
        exact wa_lret C dX12_letters_122 rfl rfl
      · replace hf := ite_f hf c5
        by_cases c7 : p0 = 3
        · replace hf := ite_t hf c7
          refine wa_ts C 3 (122) 123 dX12_letters_1 c7 (by decide) (by decide) rfl rfl ?_
          refine wa_bipush (v := 109) C 125 dX12_letters_123 rfl rfl ?_
          refine wa_bipush (v := 111) C 127 dX12_letters_125 rfl rfl ?_
          refine wa_bipush (v := 118) C 129 dX12_letters_127 rfl rfl ?_
          refine wa_bipush (v := 101) C 131 dX12_letters_129 rfl rfl ?_
          refine wa_bipush (v := 115) C 133 dX12_letters_131 rfl rfl ?_
          refine wa_iconst (v := 0) C 134 dX12_letters_133 rfl rfl ?_
          refine wa_iconst (v := 0) C 135 dX12_letters_134 rfl rfl ?_
          obtain ⟨q8, hq8, hf⟩ := bind_ex hf
          refine wa_callS0l (As := [.int (109 : Int32), .int (111 : Int32), .int (118 : Int32), .int (101 : Int32), .int (115 : Int32), .int (0 : Int32), .int (0 : Int32)]) C 138 dX12_letters_135 rfl ks_X12_144 (c_X12_spelled hq8) ⟨rfl, rfl⟩ ⟨Nat.le_of_ble_eq_true rfl, Nat.le_of_ble_eq_true rfl⟩ rfl rfl ⟨Nat.zero_le _, Nat.zero_le _⟩ (Nat.le_of_ble_eq_true rfl) ?_
          cases hf
          exact wa_lret C dX12_letters_138 rfl rfl
        · replace hf := ite_f hf c7
          by_cases c9 : p0 = 4
          · replace hf := ite_t hf c9
            refine wa_ts C 4 (138) 139 dX12_letters_1 c9 (by decide) (by decide) rfl rfl ?_
            refine wa_bipush (v := 115) C 141 dX12_letters_139 rfl rfl ?_
            refine wa_bipush (v := 105) C 143 dX12_letters_141 rfl rfl ?_
            refine wa_bipush (v := 122) C 145 dX12_letters_143 rfl rfl ?_
            refine wa_bipush (v := 101) C 147 dX12_letters_145 rfl rfl ?_
            refine wa_iconst (v := 0) C 148 dX12_letters_147 rfl rfl ?_
            refine wa_iconst (v := 0) C 149 dX12_letters_148 rfl rfl ?_
            refine wa_iconst (v := 0) C 150 dX12_letters_149 rfl rfl ?_
            obtain ⟨q10, hq10, hf⟩ := bind_ex hf
            refine wa_callS0l (As := [.int (115 : Int32), .int (105 : Int32), .int (122 : Int32), .int (101 : Int32), .int (0 : Int32), .int (0 : Int32), .int (0 : Int32)]) C 153 dX12_letters_150 rfl ks_X12_144 (c_X12_spelled hq10) ⟨rfl, rfl⟩ ⟨Nat.le_of_ble_eq_true rfl, Nat.le_of_ble_eq_true rfl⟩ rfl rfl ⟨Nat.zero_le _, Nat.zero_le _⟩ (Nat.le_of_ble_eq_true rfl) ?_
            cases hf
            exact wa_lret C dX12_letters_153 rfl rfl
          · replace hf := ite_f hf c9
            by_cases c11 : p0 = 5
            · replace hf := ite_t hf c11
              refine wa_ts C 5 (153) 154 dX12_letters_1 c11 (by decide) (by decide) rfl rfl ?_
              refine wa_bipush (v := 101) C 156 dX12_letters_154 rfl rfl ?_
              refine wa_bipush (v := 118) C 158 dX12_letters_156 rfl rfl ?_
              refine wa_bipush (v := 101) C 160 dX12_letters_158 rfl rfl ?_
              refine wa_bipush (v := 110) C 162 dX12_letters_160 rfl rfl ?_
              refine wa_bipush (v := 105) C 164 dX12_letters_162 rfl rfl ?_
              refine wa_bipush (v := 110) C 166 dX12_letters_164 rfl rfl ?_
              refine wa_bipush (v := 103) C 168 dX12_letters_166 rfl rfl ?_
              obtain ⟨q12, hq12, hf⟩ := bind_ex hf
              refine wa_callS0l (As := [.int (101 : Int32), .int (118 : Int32), .int (101 : Int32), .int (110 : Int32), .int (105 : Int32), .int (110 : Int32), .int (103 : Int32)]) C 171 dX12_letters_168 rfl ks_X12_144 (c_X12_spelled hq12) ⟨rfl, rfl⟩ ⟨Nat.le_of_ble_eq_true rfl, Nat.le_of_ble_eq_true rfl⟩ rfl rfl ⟨Nat.zero_le _, Nat.zero_le _⟩ (Nat.le_of_ble_eq_true rfl) ?_
              cases hf
              exact wa_lret C dX12_letters_171 rfl rfl
            · replace hf := ite_f hf c11
              by_cases c13 : p0 = 6
              · replace hf := ite_t hf c13
                refine wa_ts C 6 (171) 172 dX12_letters_1 c13 (by decide) (by decide) rfl rfl ?_
                refine wa_bipush (v := 104) C 174 dX12_letters_172 rfl rfl ?_
                refine wa_bipush (v := 111) C 176 dX12_letters_174 rfl rfl ?_
                refine wa_bipush (v := 117) C 178 dX12_letters_176 rfl rfl ?_
                refine wa_bipush (v := 115) C 180 dX12_letters_178 rfl rfl ?_
                refine wa_bipush (v := 101) C 182 dX12_letters_180 rfl rfl ?_
                refine wa_iconst (v := 0) C 183 dX12_letters_182 rfl rfl ?_
                refine wa_iconst (v := 0) C 184 dX12_letters_183 rfl rfl ?_
                obtain ⟨q14, hq14, hf⟩ := bind_ex hf
                refine wa_callS0l (As := [.int (104 : Int32), .int (111 : Int32), .int (117 : Int32), .int (115 : Int32), .int (101 : Int32), .int (0 : Int32), .int (0 : Int32)]) C 187 dX12_letters_184 rfl ks_X12_144 (c_X12_spelled hq14) ⟨rfl, rfl⟩ ⟨Nat.le_of_ble_eq_true rfl, Nat.le_of_ble_eq_true rfl⟩ rfl rfl ⟨Nat.zero_le _, Nat.zero_le _⟩ (Nat.le_of_ble_eq_true rfl) ?_
                cases hf
                exact wa_lret C dX12_letters_187 rfl rfl
              · replace hf := ite_f hf c13
                by_cases c15 : p0 = 7
                · replace hf := ite_t hf c15
                  refine wa_ts C 7 (187) 188 dX12_letters_1 c15 (by decide) (by decide) rfl rfl ?_
                  refine wa_bipush (v := 114) C 190 dX12_letters_188 rfl rfl ?_
                  refine wa_bipush (v := 97) C 192 dX12_letters_190 rfl rfl ?_
                  refine wa_bipush (v := 110) C 194 dX12_letters_192 rfl rfl ?_
                  refine wa_bipush (v := 107) C 196 dX12_letters_194 rfl rfl ?_
                  refine wa_bipush (v := 115) C 198 dX12_letters_196 rfl rfl ?_
                  refine wa_iconst (v := 0) C 199 dX12_letters_198 rfl rfl ?_
                  refine wa_iconst (v := 0) C 200 dX12_letters_199 rfl rfl ?_
                  obtain ⟨q16, hq16, hf⟩ := bind_ex hf
                  refine wa_callS0l (As := [.int (114 : Int32), .int (97 : Int32), .int (110 : Int32), .int (107 : Int32), .int (115 : Int32), .int (0 : Int32), .int (0 : Int32)]) C 203 dX12_letters_200 rfl ks_X12_144 (c_X12_spelled hq16) ⟨rfl, rfl⟩ ⟨Nat.le_of_ble_eq_true rfl, Nat.le_of_ble_eq_true rfl⟩ rfl rfl ⟨Nat.zero_le _, Nat.zero_le _⟩ (Nat.le_of_ble_eq_true rfl) ?_
                  cases hf
                  exact wa_lret C dX12_letters_203 rfl rfl
                · replace hf := ite_f hf c15
                  by_cases c17 : p0 = 8
                  · replace hf := ite_t hf c17
                    refine wa_ts C 8 (203) 204 dX12_letters_1 c17 (by decide) (by decide) rfl rfl ?_
                    refine wa_bipush (v := 111) C 206 dX12_letters_204 rfl rfl ?_
                    refine wa_bipush (v := 108) C 208 dX12_letters_206 rfl rfl ?_
                    refine wa_bipush (v := 100) C 210 dX12_letters_208 rfl rfl ?_
                    refine wa_iconst (v := 0) C 211 dX12_letters_210 rfl rfl ?_
                    refine wa_iconst (v := 0) C 212 dX12_letters_211 rfl rfl ?_
                    refine wa_iconst (v := 0) C 213 dX12_letters_212 rfl rfl ?_
                    refine wa_iconst (v := 0) C 214 dX12_letters_213 rfl rfl ?_
                    obtain ⟨q18, hq18, hf⟩ := bind_ex hf
                    refine wa_callS0l (As := [.int (111 : Int32), .int (108 : Int32), .int (100 : Int32), .int (0 : Int32), .int (0 : Int32), .int (0 : Int32), .int (0 : Int32)]) C 217 dX12_letters_214 rfl ks_X12_144 (c_X12_spelled hq18) ⟨rfl, rfl⟩ ⟨Nat.le_of_ble_eq_true rfl, Nat.le_of_ble_eq_true rfl⟩ rfl rfl ⟨Nat.zero_le _, Nat.zero_le _⟩ (Nat.le_of_ble_eq_true rfl) ?_
                    cases hf
                    exact wa_lret C dX12_letters_217 rfl rfl
                  · replace hf := ite_f hf c17
                    by_cases c19 : p0 = 9
                    · replace hf := ite_t hf c19
                      refine wa_ts C 9 (217) 218 dX12_letters_1 c19 (by decide) (by decide) rfl rfl ?_
                      refine wa_bipush (v := 112) C 220 dX12_letters_218 rfl rfl ?_
                      refine wa_bipush (v := 101) C 222 dX12_letters_220 rfl rfl ?_
                      refine wa_bipush (v := 114) C 224 dX12_letters_222 rfl rfl ?_
                      refine wa_bipush (v := 115) C 226 dX12_letters_224 rfl rfl ?_
                      refine wa_bipush (v := 111) C 228 dX12_letters_226 rfl rfl ?_
                      refine wa_bipush (v := 110) C 230 dX12_letters_228 rfl rfl ?_
                      refine wa_iconst (v := 0) C 231 dX12_letters_230 rfl rfl ?_
                      obtain ⟨q20, hq20, hf⟩ := bind_ex hf
                      refine wa_callS0l (As := [.int (112 : Int32), .int (101 : Int32), .int (114 : Int32), .int (115 : Int32), .int (111 : Int32), .int (110 : Int32), .int (0 : Int32)]) C 234 dX12_letters_231 rfl ks_X12_144 (c_X12_spelled hq20) ⟨rfl, rfl⟩ ⟨Nat.le_of_ble_eq_true rfl, Nat.le_of_ble_eq_true rfl⟩ rfl rfl ⟨Nat.zero_le _, Nat.zero_le _⟩ (Nat.le_of_ble_eq_true rfl) ?_
                      cases hf
                      exact wa_lret C dX12_letters_234 rfl rfl
                    · replace hf := ite_f hf c19
                      by_cases c21 : p0 = 10
                      · replace hf := ite_t hf c21
                        refine wa_ts C 10 (234) 235 dX12_letters_1 c21 (by decide) (by decide) rfl rfl ?_
                        refine wa_bipush (v := 102) C 237 dX12_letters_235 rfl rfl ?_
                        refine wa_bipush (v := 114) C 239 dX12_letters_237 rfl rfl ?_
                        refine wa_bipush (v := 105) C 241 dX12_letters_239 rfl rfl ?_
                        refine wa_bipush (v := 101) C 243 dX12_letters_241 rfl rfl ?_
                        refine wa_bipush (v := 110) C 245 dX12_letters_243 rfl rfl ?_
                        refine wa_bipush (v := 100) C 247 dX12_letters_245 rfl rfl ?_
                        refine wa_bipush (v := 115) C 249 dX12_letters_247 rfl rfl ?_
                        obtain ⟨q22, hq22, hf⟩ := bind_ex hf
                        refine wa_callS0l (As := [.int (102 : Int32), .int (114 : Int32), .int (105 : Int32), .int (101 : Int32), .int (110 : Int32), .int (100 : Int32), .int (115 : Int32)]) C 252 dX12_letters_249 rfl ks_X12_144 (c_X12_spelled hq22) ⟨rfl, rfl⟩ ⟨Nat.le_of_ble_eq_true rfl, Nat.le_of_ble_eq_true rfl⟩ rfl rfl ⟨Nat.zero_le _, Nat.zero_le _⟩ (Nat.le_of_ble_eq_true rfl) ?_
                        cases hf
                        exact wa_lret C dX12_letters_252 rfl rfl
                      · replace hf := ite_f hf c21
                        by_cases c23 : p0 = 11
                        · replace hf := ite_t hf c23
                          refine wa_ts C 11 (252) 253 dX12_letters_1 c23 (by decide) (by decide) rfl rfl ?_
                          refine wa_bipush (v := 112) C 255 dX12_letters_253 rfl rfl ?_
                          refine wa_bipush (v := 105) C 257 dX12_letters_255 rfl rfl ?_
                          refine wa_bipush (v := 99) C 259 dX12_letters_257 rfl rfl ?_
                          refine wa_bipush (v := 107) C 261 dX12_letters_259 rfl rfl ?_
                          refine wa_bipush (v := 115) C 263 dX12_letters_261 rfl rfl ?_
                          refine wa_iconst (v := 0) C 264 dX12_letters_263 rfl rfl ?_
                          refine wa_iconst (v := 0) C 265 dX12_letters_264 rfl rfl ?_
                          obtain ⟨q24, hq24, hf⟩ := bind_ex hf
                          refine wa_callS0l (As := [.int (112 : Int32), .int (105 : Int32), .int (99 : Int32), .int (107 : Int32), .int (115 : Int32), .int (0 : Int32), .int (0 : Int32)]) C 268 dX12_letters_265 rfl ks_X12_144 (c_X12_spelled hq24) ⟨rfl, rfl⟩ ⟨Nat.le_of_ble_eq_true rfl, Nat.le_of_ble_eq_true rfl⟩ rfl rfl ⟨Nat.zero_le _, Nat.zero_le _⟩ (Nat.le_of_ble_eq_true rfl) ?_
                          cases hf
                          exact wa_lret C dX12_letters_268 rfl rfl
                        · replace hf := ite_f hf c23
                          by_cases c25 : p0 = 12
                          · replace hf := ite_t hf c25
                            refine wa_ts C 12 (268) 269 dX12_letters_1 c25 (by decide) (by decide) rfl rfl ?_
                            refine wa_bipush (v := 107) C 271 dX12_letters_269 rfl rfl ?_
                            refine wa_bipush (v := 101) C 273 dX12_letters_271 rfl rfl ?_
                            refine wa_bipush (v := 101) C 275 dX12_letters_273 rfl rfl ?_
                            refine wa_bipush (v := 112) C 277 dX12_letters_275 rfl rfl ?_
                            refine wa_bipush (v := 115) C 279 dX12_letters_277 rfl rfl ?_
                            refine wa_iconst (v := 0) C 280 dX12_letters_279 rfl rfl ?_
                            refine wa_iconst (v := 0) C 281 dX12_letters_280 rfl rfl ?_
                            obtain ⟨q26, hq26, hf⟩ := bind_ex hf
                            refine wa_callS0l (As := [.int (107 : Int32), .int (101 : Int32), .int (101 : Int32), .int (112 : Int32), .int (115 : Int32), .int (0 : Int32), .int (0 : Int32)]) C 284 dX12_letters_281 rfl ks_X12_144 (c_X12_spelled hq26) ⟨rfl, rfl⟩ ⟨Nat.le_of_ble_eq_true rfl, Nat.le_of_ble_eq_true rfl⟩ rfl rfl ⟨Nat.zero_le _, Nat.zero_le _⟩ (Nat.le_of_ble_eq_true rfl) ?_
                            cases hf
                            exact wa_lret C dX12_letters_284 rfl rfl
                          · replace hf := ite_f hf c25
                            by_cases c27 : p0 = 13
                            · replace hf := ite_t hf c27
                              refine wa_ts C 13 (284) 285 dX12_letters_1 c27 (by decide) (by decide) rfl rfl ?_
                              refine wa_bipush (v := 97) C 287 dX12_letters_285 rfl rfl ?_
                              refine wa_bipush (v := 110) C 289 dX12_letters_287 rfl rfl ?_
                              refine wa_bipush (v := 100) C 291 dX12_letters_289 rfl rfl ?_
                              refine wa_iconst (v := 0) C 292 dX12_letters_291 rfl rfl ?_
                              refine wa_iconst (v := 0) C 293 dX12_letters_292 rfl rfl ?_
                              refine wa_iconst (v := 0) C 294 dX12_letters_293 rfl rfl ?_
                              refine wa_iconst (v := 0) C 295 dX12_letters_294 rfl rfl ?_
                              obtain ⟨q28, hq28, hf⟩ := bind_ex hf
                              refine wa_callS0l (As := [.int (97 : Int32), .int (110 : Int32), .int (100 : Int32), .int (0 : Int32), .int (0 : Int32), .int (0 : Int32), .int (0 : Int32)]) C 298 dX12_letters_295 rfl ks_X12_144 (c_X12_spelled hq28) ⟨rfl, rfl⟩ ⟨Nat.le_of_ble_eq_true rfl, Nat.le_of_ble_eq_true rfl⟩ rfl rfl ⟨Nat.zero_le _, Nat.zero_le _⟩ (Nat.le_of_ble_eq_true rfl) ?_
                              cases hf
                              exact wa_lret C dX12_letters_298 rfl rfl
                            · replace hf := ite_f hf c27
                              by_cases c29 : p0 = 14
                              · replace hf := ite_t hf c29
                                refine wa_ts C 14 (298) 299 dX12_letters_1 c29 (by decide) (by decide) rfl rfl ?_
                                refine wa_bipush (v := 111) C 301 dX12_letters_299 rfl rfl ?_
                                refine wa_bipush (v := 114) C 303 dX12_letters_301 rfl rfl ?_
                                refine wa_iconst (v := 0) C 304 dX12_letters_303 rfl rfl ?_
                                refine wa_iconst (v := 0) C 305 dX12_letters_304 rfl rfl ?_
                                refine wa_iconst (v := 0) C 306 dX12_letters_305 rfl rfl ?_
                                refine wa_iconst (v := 0) C 307 dX12_letters_306 rfl rfl ?_
                                refine wa_iconst (v := 0) C 308 dX12_letters_307 rfl rfl ?_
                                obtain ⟨q30, hq30, hf⟩ := bind_ex hf
                                refine wa_callS0l (As := [.int (111 : Int32), .int (114 : Int32), .int (0 : Int32), .int (0 : Int32), .int (0 : Int32), .int (0 : Int32), .int (0 : Int32)]) C 311 dX12_letters_308 rfl ks_X12_144 (c_X12_spelled hq30) ⟨rfl, rfl⟩ ⟨Nat.le_of_ble_eq_true rfl, Nat.le_of_ble_eq_true rfl⟩ rfl rfl ⟨Nat.zero_le _, Nat.zero_le _⟩ (Nat.le_of_ble_eq_true rfl) ?_
                                cases hf
                                exact wa_lret C dX12_letters_311 rfl rfl
                              · replace hf := ite_f hf c29
                                refine wa_tsd C 312 dX12_letters_1 (ts_out (0) 15 (nts_s (nts_s (nts_s (nts_s (nts_s (nts_s (nts_s (nts_s (nts_s (nts_s (nts_s (nts_s (nts_s (nts_s (nts_s nts_0 rfl c1) rfl c3) rfl c5) rfl c7) rfl c9) rfl c11) rfl c13) rfl c15) rfl c17) rfl c19) rfl c21) rfl c23) rfl c25) rfl c27) rfl c29)) rfl ?_
                                refine wa_bipush (v := 110) C 314 dX12_letters_312 rfl rfl ?_
                                refine wa_bipush (v := 111) C 316 dX12_letters_314 rfl rfl ?_
                                refine wa_bipush (v := 116) C 318 dX12_letters_316 rfl rfl ?_
                                refine wa_iconst (v := 0) C 319 dX12_letters_318 rfl rfl ?_
                                refine wa_iconst (v := 0) C 320 dX12_letters_319 rfl rfl ?_
                                refine wa_iconst (v := 0) C 321 dX12_letters_320 rfl rfl ?_
                                refine wa_iconst (v := 0) C 322 dX12_letters_321 rfl rfl ?_
                                obtain ⟨q31, hq31, hf⟩ := bind_ex hf
                                refine wa_callS0l (As := [.int (110 : Int32), .int (111 : Int32), .int (116 : Int32), .int (0 : Int32), .int (0 : Int32), .int (0 : Int32), .int (0 : Int32)]) C 325 dX12_letters_322 rfl ks_X12_144 (c_X12_spelled hq31) ⟨rfl, rfl⟩ ⟨Nat.le_of_ble_eq_true rfl, Nat.le_of_ble_eq_true rfl⟩ rfl rfl ⟨Nat.zero_le _, Nat.zero_le _⟩ (Nat.le_of_ble_eq_true rfl) ?_
                                cases hf
                                exact wa_lret C dX12_letters_325 rfl rfl
theorem ks_X12_148 : KS RX12 148 yX12_letters cX12_letters 1 (some .long) 1 := KS.mk q1674 q1675 q13 q1676 ⟨by decide, by decide, by decide +kernel⟩
def f_X12_knownWord_L21 (z0 : MS) : Nat → Int32 → Option (Int32)
  | 0, _ => none
  | n + 1, l1 => (if (16 : Int32) ≤ l1 then some ((-1 : Int32)) else (f_X12_letters l1).bind (fun q4 => (if (lg_cmp q4 z0.2.1) = 0 then some (l1) else bnd (l1 + 1) (fun x6 => f_X12_knownWord_L21 z0 n x6))))
def f_X12_knownWord (v : MS) : Option (Int32) := (if (v.1 14) = (1 : Int32) then (if (v.1 16) ≤ (7 : Int32) then f_X12_knownWord_L21 v FUEL (0 : Int32) else some ((-1 : Int32))) else some ((-1 : Int32)))
set_option maxRecDepth 20000 in
theorem w_X12_knownWord_L21 {p : Program} {l : Launch} {e : Env} {s : State} {m : MethodId} {args : Array Value} {below : List Frame} {meth : Method} {c : Code} {D : va_G} {A : Nat → Prop} {dT : Nat → ClassId} {a : Nat → Nat} {res : Int32} {z0 : MS} (C : Cx p s m args meth c cX12_knownWord 2 RX12 (some .int) D A dT) : ∀ (n : Nat) (l1 : Int32), f_X12_knownWord_L21 z0 n l1 = some res → WA p l e ({ frames := 2, cells := 0, slots := 0, locals := 48 } : Room) s m args below meth c (MQ below (QI D dT A ([wM dT a z0]) res) args s 0 0 A) D A 0 0 2 21 ([wM dT a z0]) [(0, .ref (a 0)), (1, .int l1)] [] := by
  intro n
  induction n with
  | zero => intro l1 hf; cases hf
  | succ n ih =>
    intro l1 hf
    unfold f_X12_knownWord_L21 at hf
    refine wa_iload_n C 1 22 dX12_knownWord_21 rfl rfl ?_
    refine wa_bipush (v := 16) C 24 dX12_knownWord_22 rfl rfl ?_
    refine wa_icmp_ge C 47 27 dX12_knownWord_24 rfl rfl (fun c3 => ?_) (fun c3 => ?_)
    · replace hf := ite_t hf c3
      refine wa_iconst (v := (-1)) C 48 dX12_knownWord_47 rfl rfl ?_
      cases hf
      exact wa_iret C dX12_knownWord_48 rfl rfl
    · replace hf := ite_f hf c3
      refine wa_iload_n C 1 28 dX12_knownWord_27 rfl rfl ?_
      obtain ⟨q4, hq4, hf⟩ := bind_ex hf
      refine wa_callS0l (As := [.int l1]) C 31 dX12_knownWord_28 rfl ks_X12_148 (c_X12_letters hq4) ⟨rfl, rfl⟩ ⟨Nat.le_of_ble_eq_true rfl, Nat.le_of_ble_eq_true rfl⟩ rfl rfl ⟨Nat.zero_le _, Nat.zero_le _⟩ (Nat.le_of_ble_eq_true rfl) ?_
      refine wa_aload_n C 0 32 dX12_knownWord_31 rfl rfl ?_
      refine wa_get C 35 0 0 19 dX12_knownWord_32 rfl iX12 q1468 rfl (Nat.le_of_ble_eq_true rfl) rfl rfl rfl ?_
      refine wa_lcmp C 36 dX12_knownWord_35 rfl ?_
      refine wa_if_ne C 41 39 dX12_knownWord_36 rfl rfl (fun c5 => ?_) (fun c5 => ?_)
      · replace hf := ite_f hf c5
        obtain ⟨x6, ex6, hf⟩ := bnd_ex hf
        refine wa_iinc (v := x6) (lv' := [(0, .ref (a 0)), (1, .int x6)]) C 1 [1, 0] 44 dX12_knownWord_41 rfl rfl (by rw [ex6]; rfl) (Nat.le_of_ble_eq_true rfl) rfl ?_
        refine wa_goto C 21 dX12_knownWord_44 rfl ?_
        exact ih x6 hf
      · replace hf := ite_t hf c5
        refine wa_iload_n C 1 40 dX12_knownWord_39 rfl rfl ?_
        cases hf
        exact wa_iret C dX12_knownWord_40 rfl rfl
set_option maxRecDepth 20000 in
theorem c_X12_knownWord {l : Launch} {D : va_G} {dT : Nat → ClassId} {a : Nat → Nat} {v : MS} {res : Int32} (hf : f_X12_knownWord v = some res) : CTi l yX12_knownWord cX12_knownWord 2 (some .int) ({ frames := 2, cells := 0, slots := 0, locals := 48 } : Room) D dT [.ref (a 0)] ([wM dT a v]) ([wM dT a v]) res := by
  refine CTi.of (by decide) (Nat.le_of_ble_eq_true rfl) rfl ?_
  intro p e s m args below meth c A C
  unfold f_X12_knownWord at hf
  refine wa_aload_n C 0 1 dX12_knownWord_0 rfl rfl ?_
  refine wa_get C 4 0 0 14 dX12_knownWord_1 rfl iX12 q1463 rfl (Nat.le_of_ble_eq_true rfl) rfl rfl rfl ?_
  refine wa_iconst (v := 1) C 5 dX12_knownWord_4 rfl rfl ?_
  refine wa_icmp_ne C 17 8 dX12_knownWord_5 rfl rfl (fun c1 => ?_) (fun c1 => ?_)
  · replace hf := ite_f hf c1
    refine wa_iconst (v := (-1)) C 18 dX12_knownWord_17 rfl rfl ?_
    cases hf
    exact wa_iret C dX12_knownWord_18 rfl rfl
  · replace hf := ite_t hf c1
    refine wa_aload_n C 0 9 dX12_knownWord_8 rfl rfl ?_
    refine wa_get C 12 0 0 16 dX12_knownWord_9 rfl iX12 q1465 rfl (Nat.le_of_ble_eq_true rfl) rfl rfl rfl ?_
    refine wa_bipush (v := 7) C 14 dX12_knownWord_12 rfl rfl ?_
    refine wa_icmp_le C 19 17 dX12_knownWord_14 rfl rfl (fun c2 => ?_) (fun c2 => ?_)
    · replace hf := ite_t hf c2
      refine wa_iconst (v := 0) C 20 dX12_knownWord_19 rfl rfl ?_
      refine wa_istore_n (lv' := [(0, .ref (a 0)), (1, .int (0 : Int32))]) C [1, 0] 21 dX12_knownWord_20 rfl (Nat.le_of_ble_eq_true rfl) rfl ?_
      exact w_X12_knownWord_L21 C FUEL (0 : Int32) hf
    · replace hf := ite_f hf c2
      refine wa_iconst (v := (-1)) C 18 dX12_knownWord_17 rfl rfl ?_
      cases hf
      exact wa_iret C dX12_knownWord_18 rfl rfl
