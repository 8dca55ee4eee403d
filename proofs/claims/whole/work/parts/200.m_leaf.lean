theorem ks_X12_291 : KS RX12 291 yX12_bits cX12_bits 3 (some .int) 1 := KS.mk q1794 q1795 q13 q1796 ⟨rfl, by decide, by decide, by decide +kernel⟩
theorem kv_X12_288 : KV RX12 288 yX12_inHouse cX12_inHouse 5 (some .int) 2 := KV.mk q1790 q1792 qs75 q13 q1793 ⟨by decide, by decide, by decide +kernel⟩
def f_X12_bits_L4 (l0 : Int32) : Nat → Int32 → Int32 → Option (Int32)
  | 0, _, _ => none
  | n + 1, l1, l2 => (if (12 : Int32) < l2 then some (l1) else bnd (l1 + ((l0 >>> (l2 &&& 31)) &&& (1 : Int32))) (fun x2 => bnd (l2 + 1) (fun x3 => f_X12_bits_L4 l0 n x2 x3)))
def f_X12_bits (p0 : Int32) : Option (Int32) := f_X12_bits_L4 p0 FUEL (0 : Int32) (0 : Int32)
set_option maxRecDepth 20000 in
theorem w_X12_bits_L4 {p : Program} {l : Launch} {e : Env} {s : State} {m : MethodId} {args : Array Value} {below : List Frame} {meth : Method} {c : Code} {D : va_G} {A : Nat → Prop} {dT : Nat → ClassId} {res : Int32} {l0 : Int32} (C : Cx p s m args meth c cX12_bits 3 RX12 (some .int) D A dT) : ∀ (n : Nat) (l1 : Int32) (l2 : Int32), f_X12_bits_L4 l0 n l1 l2 = some res → WA p l e ({ frames := 0, cells := 0, slots := 0, locals := 0 } : Room) s m args below meth c (MQ below (QI D dT A ([]) res) args s 0 0 A) D A 0 0 3 4 ([]) [(0, .int l0), (1, .int l1), (2, .int l2)] [] := by
  intro n
  induction n with
  | zero => intro l1 l2 hf; cases hf
  | succ n ih =>
    intro l1 l2 hf
    unfold f_X12_bits_L4 at hf
    refine wa_iload_n C 2 5 dX12_bits_4 rfl rfl ?_
    refine wa_bipush (v := 12) C 7 dX12_bits_5 rfl rfl ?_
    refine wa_icmp_gt C 24 10 dX12_bits_7 rfl rfl (fun c1 => ?_) (fun c1 => ?_)
    · replace hf := ite_t hf c1
      refine wa_iload_n C 1 25 dX12_bits_24 rfl rfl ?_
      cases hf
      exact wa_iret C dX12_bits_25 rfl rfl
    · replace hf := ite_f hf c1
      refine wa_iload_n C 1 11 dX12_bits_10 rfl rfl ?_
      refine wa_iload_n C 0 12 dX12_bits_11 rfl rfl ?_
      refine wa_iload_n C 2 13 dX12_bits_12 rfl rfl ?_
      refine wa_ishr C 14 dX12_bits_13 rfl ?_
      refine wa_iconst (v := 1) C 15 dX12_bits_14 rfl rfl ?_
      refine wa_iand C 16 dX12_bits_15 rfl ?_
      refine wa_iadd C 17 dX12_bits_16 rfl ?_
      obtain ⟨x2, ex2, hf⟩ := bnd_ex hf
      refine wa_topi ex2 ?_
      refine wa_istore_n (lv' := [(0, .int l0), (1, .int x2), (2, .int l2)]) C [1, 0, 2] 18 dX12_bits_17 rfl (Nat.le_of_ble_eq_true rfl) rfl ?_
      obtain ⟨x3, ex3, hf⟩ := bnd_ex hf
      refine wa_iinc (v := x3) (lv' := [(0, .int l0), (1, .int x2), (2, .int x3)]) C 2 [1, 2, 0] 21 dX12_bits_18 rfl rfl (by rw [ex3]; rfl) (Nat.le_of_ble_eq_true rfl) rfl ?_
      refine wa_goto C 4 dX12_bits_21 rfl ?_
      exact ih x2 x3 hf
set_option maxRecDepth 20000 in
theorem c_X12_bits {l : Launch} {D : va_G} {dT : Nat → ClassId} {p0 : Int32} {res : Int32} (hf : f_X12_bits p0 = some res) : CTi l yX12_bits cX12_bits 3 (some .int) ({ frames := 0, cells := 0, slots := 0, locals := 0 } : Room) D dT [.int p0] ([]) ([]) res := by
  refine CTi.of (by decide) (Nat.le_of_ble_eq_true rfl) rfl ?_
  intro p e s m args below meth c A C
  unfold f_X12_bits at hf
  refine wa_iconst (v := 0) C 1 dX12_bits_0 rfl rfl ?_
  refine wa_istore_n (lv' := [(0, .int p0), (1, .int (0 : Int32))]) C [1, 0] 2 dX12_bits_1 rfl (Nat.le_of_ble_eq_true rfl) rfl ?_
  refine wa_iconst (v := 0) C 3 dX12_bits_2 rfl rfl ?_
  refine wa_istore_n (lv' := [(0, .int p0), (1, .int (0 : Int32)), (2, .int (0 : Int32))]) C [1, 2, 0] 4 dX12_bits_3 rfl (Nat.le_of_ble_eq_true rfl) rfl ?_
  exact w_X12_bits_L4 C FUEL (0 : Int32) (0 : Int32) hf
def f_X12_inHouse_L5 (l1 : Int32) (l2 : Int32) (z0 : MS) : Nat → Int32 → Int32 → Option (Int32)
  | 0, _, _ => none
  | n + 1, l3, l4 => (if (z0.1 1) ≤ l4 then some (l3) else grd (vi ((l1 + (2 : Int32)) + l4) 172) ((if (z0.2.2 10 (((l1 + (2 : Int32)) + l4)).toNatClampNeg) = l2 then bnd (l3 ||| ((1 : Int32) <<< (l4 &&& 31))) (fun x6 => bnd (l4 + 1) (fun x7 => f_X12_inHouse_L5 l1 l2 z0 n x6 x7)) else bnd (l3 ||| (0 : Int32)) (fun x4 => bnd (l4 + 1) (fun x5 => f_X12_inHouse_L5 l1 l2 z0 n x4 x5)))))
def f_X12_inHouse (v : MS) (p0 : Int32) (p1 : Int32) : Option (Int32) := f_X12_inHouse_L5 p0 p1 v FUEL (0 : Int32) (0 : Int32)
set_option maxRecDepth 20000 in
theorem w_X12_inHouse_L5 {p : Program} {l : Launch} {e : Env} {s : State} {m : MethodId} {args : Array Value} {below : List Frame} {meth : Method} {c : Code} {D : va_G} {A : Nat → Prop} {dT : Nat → ClassId} {a : Nat → Nat} {res : Int32} {l1 : Int32} {l2 : Int32} {z0 : MS} (C : Cx p s m args meth c cX12_inHouse 5 RX12 (some .int) D A dT) : ∀ (n : Nat) (l3 : Int32) (l4 : Int32), f_X12_inHouse_L5 l1 l2 z0 n l3 l4 = some res → WA p l e ({ frames := 0, cells := 0, slots := 0, locals := 0 } : Room) s m args below meth c (MQ below (QI D dT A (wM dT a z0) res) args s 0 0 A) D A 0 0 5 5 (wM dT a z0) [(0, .ref (a 0)), (1, .int l1), (2, .int l2), (3, .int l3), (4, .int l4)] [] := by
  intro n
  induction n with
  | zero => intro l3 l4 hf; cases hf
  | succ n ih =>
    intro l3 l4 hf
    unfold f_X12_inHouse_L5 at hf
    refine wa_iload C 4 7 dX12_inHouse_5 rfl rfl ?_
    refine wa_aload_n C 0 8 dX12_inHouse_7 rfl rfl ?_
    refine wa_get C 11 0 1 dX12_inHouse_8 rfl iX12 q1450 rfl (Nat.le_of_ble_eq_true rfl) rfl rfl ?_
    refine wa_icmp_ge C 46 14 dX12_inHouse_11 rfl rfl (fun c1 => ?_) (fun c1 => ?_)
    · replace hf := ite_t hf c1
      refine wa_iload_n C 3 47 dX12_inHouse_46 rfl rfl ?_
      cases hf
      exact wa_iret C dX12_inHouse_47 rfl rfl
    · replace hf := ite_f hf c1
      refine wa_iload_n C 3 15 dX12_inHouse_14 rfl rfl ?_
      refine wa_aload_n C 0 16 dX12_inHouse_15 rfl rfl ?_
      refine wa_get C 19 0 34 dX12_inHouse_16 rfl iX12 q1483 rfl (Nat.le_of_ble_eq_true rfl) rfl rfl ?_
      refine wa_iload_n C 1 20 dX12_inHouse_19 rfl rfl ?_
      refine wa_iconst (v := 2) C 21 dX12_inHouse_20 rfl rfl ?_
      refine wa_iadd C 22 dX12_inHouse_21 rfl ?_
      refine wa_iload C 4 24 dX12_inHouse_22 rfl rfl ?_
      refine wa_iadd C 25 dX12_inHouse_24 rfl ?_
      obtain ⟨g2, hf⟩ := grd_ex hf
      refine wa_iald C 26 10 dX12_inHouse_25 rfl rfl (vi_in g2) ?_
      refine wa_iload_n C 2 27 dX12_inHouse_26 rfl rfl ?_
      refine wa_icmp_ne C 37 30 dX12_inHouse_27 rfl rfl (fun c3 => ?_) (fun c3 => ?_)
      · replace hf := ite_f hf c3
        refine wa_iconst (v := 0) C 38 dX12_inHouse_37 rfl rfl ?_
        refine wa_ior C 39 dX12_inHouse_38 rfl ?_
        obtain ⟨x4, ex4, hf⟩ := bnd_ex hf
        refine wa_topi ex4 ?_
        refine wa_istore_n (lv' := [(0, .ref (a 0)), (1, .int l1), (2, .int l2), (3, .int x4), (4, .int l4)]) C [1, 2, 3, 0, 4] 40 dX12_inHouse_39 rfl (Nat.le_of_ble_eq_true rfl) rfl ?_
        obtain ⟨x5, ex5, hf⟩ := bnd_ex hf
        refine wa_iinc (v := x5) (lv' := [(0, .ref (a 0)), (1, .int l1), (2, .int l2), (3, .int x4), (4, .int x5)]) C 4 [1, 2, 3, 4, 0] 43 dX12_inHouse_40 rfl rfl (by rw [ex5]; rfl) (Nat.le_of_ble_eq_true rfl) rfl ?_
        refine wa_goto C 5 dX12_inHouse_43 rfl ?_
        exact ih x4 x5 hf
      · replace hf := ite_t hf c3
        refine wa_iconst (v := 1) C 31 dX12_inHouse_30 rfl rfl ?_
        refine wa_iload C 4 33 dX12_inHouse_31 rfl rfl ?_
        refine wa_ishl C 34 dX12_inHouse_33 rfl ?_
        refine wa_goto C 38 dX12_inHouse_34 rfl ?_
        refine wa_ior C 39 dX12_inHouse_38 rfl ?_
        obtain ⟨x6, ex6, hf⟩ := bnd_ex hf
        refine wa_topi ex6 ?_
        refine wa_istore_n (lv' := [(0, .ref (a 0)), (1, .int l1), (2, .int l2), (3, .int x6), (4, .int l4)]) C [1, 2, 3, 0, 4] 40 dX12_inHouse_39 rfl (Nat.le_of_ble_eq_true rfl) rfl ?_
        obtain ⟨x7, ex7, hf⟩ := bnd_ex hf
        refine wa_iinc (v := x7) (lv' := [(0, .ref (a 0)), (1, .int l1), (2, .int l2), (3, .int x6), (4, .int x7)]) C 4 [1, 2, 3, 4, 0] 43 dX12_inHouse_40 rfl rfl (by rw [ex7]; rfl) (Nat.le_of_ble_eq_true rfl) rfl ?_
        refine wa_goto C 5 dX12_inHouse_43 rfl ?_
        exact ih x6 x7 hf
set_option maxRecDepth 20000 in
theorem c_X12_inHouse {l : Launch} {D : va_G} {dT : Nat → ClassId} {a : Nat → Nat} {v : MS} {p0 : Int32} {p1 : Int32} {res : Int32} (hf : f_X12_inHouse v p0 p1 = some res) : CTi l yX12_inHouse cX12_inHouse 5 (some .int) ({ frames := 0, cells := 0, slots := 0, locals := 0 } : Room) D dT [.ref (a 0), .int p0, .int p1] (wM dT a v) (wM dT a v) res := by
  refine CTi.of (by decide) (Nat.le_of_ble_eq_true rfl) rfl ?_
  intro p e s m args below meth c A C
  unfold f_X12_inHouse at hf
  refine wa_iconst (v := 0) C 1 dX12_inHouse_0 rfl rfl ?_
  refine wa_istore_n (lv' := [(0, .ref (a 0)), (1, .int p0), (2, .int p1), (3, .int (0 : Int32))]) C [1, 2, 3, 0] 2 dX12_inHouse_1 rfl (Nat.le_of_ble_eq_true rfl) rfl ?_
  refine wa_iconst (v := 0) C 3 dX12_inHouse_2 rfl rfl ?_
  refine wa_istore (lv' := [(0, .ref (a 0)), (1, .int p0), (2, .int p1), (3, .int (0 : Int32)), (4, .int (0 : Int32))]) C [1, 2, 3, 4, 0] 5 dX12_inHouse_3 rfl (Nat.le_of_ble_eq_true rfl) rfl ?_
  exact w_X12_inHouse_L5 C FUEL (0 : Int32) (0 : Int32) hf
def f_X12_sizeOf (v : MS) (p0 : Int32) (p1 : Int32) : Option (Int32) := (f_X12_inHouse v p0 p1).bind (fun q1 => (f_X12_bits q1).bind (fun q2 => some (q2)))
set_option maxRecDepth 20000 in
theorem c_X12_sizeOf {l : Launch} {D : va_G} {dT : Nat → ClassId} {a : Nat → Nat} {v : MS} {p0 : Int32} {p1 : Int32} {res : Int32} (hf : f_X12_sizeOf v p0 p1 = some res) : CTi l yX12_sizeOf cX12_sizeOf 3 (some .int) ({ frames := 1, cells := 0, slots := 0, locals := 24 } : Room) D dT [.ref (a 0), .int p0, .int p1] (wM dT a v) (wM dT a v) res := by
  refine CTi.of (by decide) (Nat.le_of_ble_eq_true rfl) rfl ?_
  intro p e s m args below meth c A C
  unfold f_X12_sizeOf at hf
  refine wa_aload_n C 0 1 dX12_sizeOf_0 rfl rfl ?_
  refine wa_iload_n C 1 2 dX12_sizeOf_1 rfl rfl ?_
  refine wa_iload_n C 2 3 dX12_sizeOf_2 rfl rfl ?_
  obtain ⟨q1, hq1, hf⟩ := bind_ex hf
  refine wa_callVAi (q1 := 0) (ci := 12) (As := [.int p0, .int p1]) C 6 dX12_sizeOf_3 rfl kv_X12_288 (c_X12_inHouse hq1) ⟨rfl, rfl⟩ ⟨Nat.le_of_ble_eq_true rfl, Nat.le_of_ble_eq_true rfl⟩ rfl rfl rfl rfl ⟨Nat.zero_le _, Nat.zero_le _⟩ (Nat.le_of_ble_eq_true rfl) ?_
  obtain ⟨q2, hq2, hf⟩ := bind_ex hf
  refine wa_callS0i (As := [.int q1]) C 9 dX12_sizeOf_6 rfl ks_X12_291 (c_X12_bits hq2) ⟨rfl, rfl⟩ ⟨Nat.le_of_ble_eq_true rfl, Nat.le_of_ble_eq_true rfl⟩ rfl rfl ⟨Nat.zero_le _, Nat.zero_le _⟩ (Nat.le_of_ble_eq_true rfl) ?_
  cases hf
  exact wa_iret C dX12_sizeOf_9 rfl rfl
def f_X12_whoAt_L3 (l1 : Int32) (l2 : Int32) (l3 : Int32) (z0 : MS) : Nat → Int32 → Option (Int32)
  | 0, _ => none
  | n + 1, l4 => (if (z0.1 1) ≤ l4 then some ((-1 : Int32)) else grd (vi ((l1 + (2 : Int32)) + l4) 172) ((if (z0.2.2 10 (((l1 + (2 : Int32)) + l4)).toNatClampNeg) = l2 then grd (vi ((l1 + (14 : Int32)) + l4) 172) ((if (z0.2.2 10 (((l1 + (14 : Int32)) + l4)).toNatClampNeg) = l3 then some (l4) else bnd (l4 + 1) (fun x7 => f_X12_whoAt_L3 l1 l2 l3 z0 n x7))) else bnd (l4 + 1) (fun x4 => f_X12_whoAt_L3 l1 l2 l3 z0 n x4))))
def f_X12_whoAt (v : MS) (p0 : Int32) (p1 : Int32) (p2 : Int32) : Option (Int32) := f_X12_whoAt_L3 p0 p1 p2 v FUEL (0 : Int32)
set_option maxRecDepth 20000 in
theorem w_X12_whoAt_L3 {p : Program} {l : Launch} {e : Env} {s : State} {m : MethodId} {args : Array Value} {below : List Frame} {meth : Method} {c : Code} {D : va_G} {A : Nat → Prop} {dT : Nat → ClassId} {a : Nat → Nat} {res : Int32} {l1 : Int32} {l2 : Int32} {l3 : Int32} {z0 : MS} (C : Cx p s m args meth c cX12_whoAt 5 RX12 (some .int) D A dT) : ∀ (n : Nat) (l4 : Int32), f_X12_whoAt_L3 l1 l2 l3 z0 n l4 = some res → WA p l e ({ frames := 0, cells := 0, slots := 0, locals := 0 } : Room) s m args below meth c (MQ below (QI D dT A (wM dT a z0) res) args s 0 0 A) D A 0 0 5 3 (wM dT a z0) [(0, .ref (a 0)), (1, .int l1), (2, .int l2), (3, .int l3), (4, .int l4)] [] := by
  intro n
  induction n with
  | zero => intro l4 hf; cases hf
  | succ n ih =>
    intro l4 hf
    unfold f_X12_whoAt_L3 at hf
    refine wa_iload C 4 5 dX12_whoAt_3 rfl rfl ?_
    refine wa_aload_n C 0 6 dX12_whoAt_5 rfl rfl ?_
    refine wa_get C 9 0 1 dX12_whoAt_6 rfl iX12 q1450 rfl (Nat.le_of_ble_eq_true rfl) rfl rfl ?_
    refine wa_icmp_ge C 52 12 dX12_whoAt_9 rfl rfl (fun c1 => ?_) (fun c1 => ?_)
    · replace hf := ite_t hf c1
      refine wa_iconst (v := (-1)) C 53 dX12_whoAt_52 rfl rfl ?_
      cases hf
      exact wa_iret C dX12_whoAt_53 rfl rfl
    · replace hf := ite_f hf c1
      refine wa_aload_n C 0 13 dX12_whoAt_12 rfl rfl ?_
      refine wa_get C 16 0 34 dX12_whoAt_13 rfl iX12 q1483 rfl (Nat.le_of_ble_eq_true rfl) rfl rfl ?_
      refine wa_iload_n C 1 17 dX12_whoAt_16 rfl rfl ?_
      refine wa_iconst (v := 2) C 18 dX12_whoAt_17 rfl rfl ?_
      refine wa_iadd C 19 dX12_whoAt_18 rfl ?_
      refine wa_iload C 4 21 dX12_whoAt_19 rfl rfl ?_
      refine wa_iadd C 22 dX12_whoAt_21 rfl ?_
      obtain ⟨g2, hf⟩ := grd_ex hf
      refine wa_iald C 23 10 dX12_whoAt_22 rfl rfl (vi_in g2) ?_
      refine wa_iload_n C 2 24 dX12_whoAt_23 rfl rfl ?_
      refine wa_icmp_ne C 46 27 dX12_whoAt_24 rfl rfl (fun c3 => ?_) (fun c3 => ?_)
      · replace hf := ite_f hf c3
        obtain ⟨x4, ex4, hf⟩ := bnd_ex hf
        refine wa_iinc (v := x4) (lv' := [(0, .ref (a 0)), (1, .int l1), (2, .int l2), (3, .int l3), (4, .int x4)]) C 4 [1, 2, 3, 4, 0] 49 dX12_whoAt_46 rfl rfl (by rw [ex4]; rfl) (Nat.le_of_ble_eq_true rfl) rfl ?_
        refine wa_goto C 3 dX12_whoAt_49 rfl ?_
        exact ih x4 hf
      · replace hf := ite_t hf c3
        refine wa_aload_n C 0 28 dX12_whoAt_27 rfl rfl ?_
        refine wa_get C 31 0 34 dX12_whoAt_28 rfl iX12 q1483 rfl (Nat.le_of_ble_eq_true rfl) rfl rfl ?_
        refine wa_iload_n C 1 32 dX12_whoAt_31 rfl rfl ?_
        refine wa_bipush (v := 14) C 34 dX12_whoAt_32 rfl rfl ?_
        refine wa_iadd C 35 dX12_whoAt_34 rfl ?_
        refine wa_iload C 4 37 dX12_whoAt_35 rfl rfl ?_
        refine wa_iadd C 38 dX12_whoAt_37 rfl ?_
        obtain ⟨g5, hf⟩ := grd_ex hf
        refine wa_iald C 39 10 dX12_whoAt_38 rfl rfl (vi_in g5) ?_
        refine wa_iload_n C 3 40 dX12_whoAt_39 rfl rfl ?_
        refine wa_icmp_ne C 46 43 dX12_whoAt_40 rfl rfl (fun c6 => ?_) (fun c6 => ?_)
        · replace hf := ite_f hf c6
          obtain ⟨x7, ex7, hf⟩ := bnd_ex hf
          refine wa_iinc (v := x7) (lv' := [(0, .ref (a 0)), (1, .int l1), (2, .int l2), (3, .int l3), (4, .int x7)]) C 4 [1, 2, 3, 4, 0] 49 dX12_whoAt_46 rfl rfl (by rw [ex7]; rfl) (Nat.le_of_ble_eq_true rfl) rfl ?_
          refine wa_goto C 3 dX12_whoAt_49 rfl ?_
          exact ih x7 hf
        · replace hf := ite_t hf c6
          refine wa_iload C 4 45 dX12_whoAt_43 rfl rfl ?_
          cases hf
          exact wa_iret C dX12_whoAt_45 rfl rfl
set_option maxRecDepth 20000 in
theorem c_X12_whoAt {l : Launch} {D : va_G} {dT : Nat → ClassId} {a : Nat → Nat} {v : MS} {p0 : Int32} {p1 : Int32} {p2 : Int32} {res : Int32} (hf : f_X12_whoAt v p0 p1 p2 = some res) : CTi l yX12_whoAt cX12_whoAt 5 (some .int) ({ frames := 0, cells := 0, slots := 0, locals := 0 } : Room) D dT [.ref (a 0), .int p0, .int p1, .int p2] (wM dT a v) (wM dT a v) res := by
  refine CTi.of (by decide) (Nat.le_of_ble_eq_true rfl) rfl ?_
  intro p e s m args below meth c A C
  unfold f_X12_whoAt at hf
  refine wa_iconst (v := 0) C 1 dX12_whoAt_0 rfl rfl ?_
  refine wa_istore (lv' := [(0, .ref (a 0)), (1, .int p0), (2, .int p1), (3, .int p2), (4, .int (0 : Int32))]) C [1, 2, 3, 4, 0] 3 dX12_whoAt_1 rfl (Nat.le_of_ble_eq_true rfl) rfl ?_
  exact w_X12_whoAt_L3 C FUEL (0 : Int32) hf
def f_X12_within (p0 : Int32) (p1 : Int32) (p2 : Int32) : Option (Int32) := (if p0 < p1 then some ((0 : Int32)) else (if p2 < p0 then some ((0 : Int32)) else some ((1 : Int32))))
set_option maxRecDepth 20000 in
theorem c_X12_within {l : Launch} {D : va_G} {dT : Nat → ClassId} {p0 : Int32} {p1 : Int32} {p2 : Int32} {res : Int32} (hf : f_X12_within p0 p1 p2 = some res) : CTi l yX12_within cX12_within 3 (some .boolean) ({ frames := 0, cells := 0, slots := 0, locals := 0 } : Room) D dT [.int p0, .int p1, .int p2] ([]) ([]) res := by
  refine CTi.of (by decide) (Nat.le_of_ble_eq_true rfl) rfl ?_
  intro p e s m args below meth c A C
  unfold f_X12_within at hf
  refine wa_iload_n C 0 1 dX12_within_0 rfl rfl ?_
  refine wa_iload_n C 1 2 dX12_within_1 rfl rfl ?_
  refine wa_icmp_lt C 14 5 dX12_within_2 rfl rfl (fun c1 => ?_) (fun c1 => ?_)
  · replace hf := ite_t hf c1
    refine wa_iconst (v := 0) C 15 dX12_within_14 rfl rfl ?_
    cases hf
    exact wa_zret C dX12_within_15 rfl rfl rfl
  · replace hf := ite_f hf c1
    refine wa_iload_n C 0 6 dX12_within_5 rfl rfl ?_
    refine wa_iload_n C 2 7 dX12_within_6 rfl rfl ?_
    refine wa_icmp_gt C 14 10 dX12_within_7 rfl rfl (fun c2 => ?_) (fun c2 => ?_)
    · replace hf := ite_t hf c2
      refine wa_iconst (v := 0) C 15 dX12_within_14 rfl rfl ?_
      cases hf
      exact wa_zret C dX12_within_15 rfl rfl rfl
    · replace hf := ite_f hf c2
      refine wa_iconst (v := 1) C 11 dX12_within_10 rfl rfl ?_
      refine wa_goto C 15 dX12_within_11 rfl ?_
      cases hf
      exact wa_zret C dX12_within_15 rfl rfl rfl
def f_X12_right_J16 (z0 : MS) : Option (Int32 × MS) := (if (z0.1 0) = 0 then some ((1 : Int32), z0) else some ((0 : Int32), z0))
def f_X12_right (v : MS) (p0 : Int32) (p1 : Int32) : Option (Int32 × MS) := (if (v.1 0) = 0 then (if p0 = 0 then bnd (upd v.1 0 p1, v.2) (fun v4 => f_X12_right_J16 v4) else f_X12_right_J16 v) else f_X12_right_J16 v)
set_option maxRecDepth 20000 in
theorem w_X12_right_J16 {p : Program} {l : Launch} {e : Env} {s : State} {m : MethodId} {args : Array Value} {below : List Frame} {meth : Method} {c : Code} {D : va_G} {A : Nat → Prop} {dT : Nat → ClassId} {a : Nat → Nat} {res : Int32 × MS} (C : Cx p s m args meth c cX12_right 3 RX12 (some .boolean) D A dT) : ∀ (z0 : MS), f_X12_right_J16 z0 = some res → WA p l e ({ frames := 0, cells := 0, slots := 0, locals := 0 } : Room) s m args below meth c (MQ below (QI D dT A (wM dT a res.2) res.1) args s 0 0 A) D A 0 0 3 16 (wM dT a z0) [(0, .ref (a 0))] [] := by
  intro z0 hf
  unfold f_X12_right_J16 at hf
  refine wa_aload_n C 0 17 dX12_right_16 rfl rfl ?_
  refine wa_get C 20 0 0 dX12_right_17 rfl iX12 q1449 rfl (Nat.le_of_ble_eq_true rfl) rfl rfl ?_
  refine wa_if_ne C 27 23 dX12_right_20 rfl rfl (fun c2 => ?_) (fun c2 => ?_)
  · replace hf := ite_f hf c2
    refine wa_iconst (v := 0) C 28 dX12_right_27 rfl rfl ?_
    cases hf
    exact wa_zret C dX12_right_28 rfl rfl rfl
  · replace hf := ite_t hf c2
    refine wa_iconst (v := 1) C 24 dX12_right_23 rfl rfl ?_
    refine wa_goto C 28 dX12_right_24 rfl ?_
    cases hf
    exact wa_zret C dX12_right_28 rfl rfl rfl
set_option maxRecDepth 20000 in
theorem c_X12_right {l : Launch} {D : va_G} {dT : Nat → ClassId} {a : Nat → Nat} {v : MS} {p0 : Int32} {p1 : Int32} {res : Int32 × MS} (hf : f_X12_right v p0 p1 = some res) : CTi l yX12_right cX12_right 3 (some .boolean) ({ frames := 0, cells := 0, slots := 0, locals := 0 } : Room) D dT [.ref (a 0), .int p0, .int p1] (wM dT a v) (wM dT a res.2) res.1 := by
  refine CTi.of (by decide) (Nat.le_of_ble_eq_true rfl) rfl ?_
  intro p e s m args below meth c A C
  unfold f_X12_right at hf
  refine wa_aload_n C 0 1 dX12_right_0 rfl rfl ?_
  refine wa_get C 4 0 0 dX12_right_1 rfl iX12 q1449 rfl (Nat.le_of_ble_eq_true rfl) rfl rfl ?_
  refine wa_if_ne C 16 7 dX12_right_4 rfl rfl (fun c1 => ?_) (fun c1 => ?_)
  · replace hf := ite_f hf c1
    refine wa_lv (lv' := [(0, .ref (a 0))]) [0] rfl ?_
    exact w_X12_right_J16 C v hf
  · replace hf := ite_t hf c1
    refine wa_iload_n C 1 8 dX12_right_7 rfl rfl ?_
    refine wa_if_ne C 16 11 dX12_right_8 rfl rfl (fun c3 => ?_) (fun c3 => ?_)
    · replace hf := ite_f hf c3
      refine wa_lv (lv' := [(0, .ref (a 0))]) [0] rfl ?_
      exact w_X12_right_J16 C v hf
    · replace hf := ite_t hf c3
      refine wa_aload_n C 0 12 dX12_right_11 rfl rfl ?_
      refine wa_iload_n C 2 13 dX12_right_12 rfl rfl ?_
      obtain ⟨v4, ev4, hf⟩ := bnd_ex hf
      refine wa_put (ws' := wM dT a v4) C 16 0 0 tyX12 dX12_right_13 rfl iX12 tyX12_ok nmX12 q1449 rfl (Nat.le_of_ble_eq_true rfl) rfl rfl rfl rfl (Nat.le_of_ble_eq_true rfl) (by rw [ev4]; rfl) ?_
      refine wa_lv (lv' := [(0, .ref (a 0))]) [0] rfl ?_
      exact w_X12_right_J16 C v4 hf
